theorem zne {M : ZM} {a b : Nat} {e1 e2 : ZE} (h1 : M a = some e1) (h2 : M b = some e2) (h : e1 ≠ e2) : a ≠ b := by
  intro hab
  rw [hab, h2] at h1
  exact h (Option.some.inj h1).symm
theorem ALr.kept {M M' : ZM} {z a arr cap : Nat} {es : List Nat} (h : ALr M z a arr es cap) (h1 : M' a = M a) (h2 : M' arr = M arr) : ALr M' z a arr es cap := by
  obtain ⟨⟨mc, ha⟩, hr, h3⟩ := h
  exact ⟨⟨mc, by rw [h1]; exact ha⟩, by rw [h2]; exact hr, h3⟩
theorem zObj.it {M : ZM} {e : Nat} {x : Int64} (h : M e = some (.inr (2, [.long x]))) : zObj M e := ⟨2, _, _, h, rfl, by decide⟩
theorem zObj.ta {M : ZM} {e : Nat} {fs : List Value} (h : M e = some (.inr (3, fs))) : zObj M e := ⟨3, _, _, h, rfl, by decide⟩
theorem zObj.de {M : ZM} {e : Nat} {fs : List Value} (h : M e = some (.inr (5, fs))) : zObj M e := ⟨5, _, _, h, rfl, by decide⟩
theorem zObj.kept {M M' : ZM} {e : Nat} (h : zObj M e) (hk : M' e = M e) : zObj M' e := by
  obtain ⟨c, f, r, h1, h2⟩ := h
  exact ⟨c, f, r, by rw [hk]; exact h1, h2⟩
theorem zif1 {p : Prop} [Decidable p] (h : ¬ (if p then (1 : Int32) else 0) = 0) : p := by
  by_cases hp : p
  · exact hp
  · exact absurd (if_neg hp) h
theorem zif0 {p : Prop} [Decidable p] (h : (if p then (1 : Int32) else 0) = 0) : ¬ p := by
  intro hp
  rw [if_pos hp] at h
  exact absurd h (by decide)
