theorem ALr.kept {M M' : ZM} {z a arr cap : Nat} {es : List Nat} (h : ALr M z a arr es cap) (h1 : M' a = M a) (h2 : M' arr = M arr) : ALr M' z a arr es cap := by
  obtain ⟨⟨mc, ha⟩, hr, h3⟩ := h
  exact ⟨⟨mc, by rw [h1]; exact ha⟩, by rw [h2]; exact hr, h3⟩
theorem zObj.it {M : ZM} {e : Nat} {x : Int64} (h : M e = some (.inr (2, [.long x]))) : zObj M e := ⟨2, _, _, h, rfl, by decide⟩
theorem zObj.ta {M : ZM} {e : Nat} {fs : List Value} (h : M e = some (.inr (3, fs))) : zObj M e := ⟨3, _, _, h, rfl, by decide⟩
theorem zObj.de {M : ZM} {e : Nat} {fs : List Value} (h : M e = some (.inr (5, fs))) : zObj M e := ⟨5, _, _, h, rfl, by decide⟩
theorem zObj.kept {M M' : ZM} {e : Nat} (h : zObj M e) (hk : M' e = M e) : zObj M' e := by
  obtain ⟨c, f, r, h1, h2⟩ := h
  exact ⟨c, f, r, by rw [hk]; exact h1, h2⟩
theorem zif1 {p : Prop} [Decidable p] (h : ¬ (if p then (1 : Int32) else 0) = 0) : p := by
  by_cases hp : p
  · exact hp
  · exact absurd (if_neg hp) h
theorem zif0 {p : Prop} [Decidable p] (h : (if p then (1 : Int32) else 0) = 0) : ¬ p := by
  intro hp
  rw [if_pos hp] at h
  exact absurd h (by decide)
theorem ALr.zk {M M' : ZM} {z a arr cap : Nat} {es es' : List Nat} (h : ALr M z a arr es cap) (h' : ALr M' z a arr es' cap) (hz : M z = some (.inl (0, []))) (fr : ∀ x, x ≠ a → x ≠ arr → M' x = M x) : M' z = M z := by
  obtain ⟨⟨mc, ha⟩, hr, hle, -⟩ := h
  obtain ⟨-, hr', hle', -⟩ := h'
  by_cases e : z = arr
  · rw [← e, hz] at hr
    have hl := congrArg (fun o : Option ZE => match o with | some (.inl p) => p.2.length | _ => 0) hr
    simp at hl
    have hc : cap = 0 := by omega
    have he : es' = [] := List.length_eq_zero_iff.mp (by omega)
    rw [e, hr', ← e, hz, he, hc]
    rfl
  · exact fr z (zne hz ha (by intro h; cases h)) e
