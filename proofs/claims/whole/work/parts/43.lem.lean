theorem Qx.trig {M M' : ZM} {own own' : Nat → Nat} {z i qa la pa arr cap ta : Nat} {s : QS} {es : List Nat} {fs : List Value} {t' : TS} (h : Qx M z own i qa s la pa arr es cap (.ref ta)) (ht : M ta = some (.inr (4, fs))) (hk : ∀ y, M y ≠ none → own y = i → y ≠ ta → M' y = M y ∧ own' y = i) (hz : M' z = M z) (ho : own' ta = i) (ht' : M' ta = some (.inr (4, fT t'))) : Qx M' z own' i qa (setTr s (some t')) la pa arr es cap (.ref ta) := by
  obtain ⟨h1, h2, h3, ⟨h4, h5, h6⟩, h7, h8, h9, h10, o1, o2, o3, o4⟩ := h
  obtain ⟨⟨mc, hla⟩, hr, -⟩ := id h2
  have n1 := hk qa (by rw [h1]; simp) o1 (zne h1 ht (by simp))
  have n2 := hk la (by rw [hla]; simp) o2 (zne hla ht (by simp))
  have n3 := hk pa (by rw [h7]; simp) o3 (zne h7 ht (by intro h; cases h))
  have n4 : arr ≠ z → M' arr = M arr ∧ own' arr = i := fun he => hk arr (by rw [hr]; simp) (o4 he) (zne hr ht (by intro h; cases h))
  refine ⟨by rw [n1.1]; exact h1, h2.kept n2.1 ?_, h3, ⟨h4, fun j e hj => ?_, h6⟩, by rw [n3.1]; exact h7, h8, h9, ⟨ta, rfl, ho, ht'⟩, n1.2, n2.2, n3.2, fun he => (n4 he).2⟩
  · by_cases he : arr = z
    · rw [he]; exact hz
    · exact (n4 he).1
  · obtain ⟨x, e1, e2, e3⟩ := h5 j e hj
    obtain ⟨k1, k2⟩ := hk e (by rw [e2]; simp) e3 (zne e2 ht (by simp))
    exact ⟨x, e1, by rw [k1]; exact e2, k2⟩
/-- one queue, the tasks and the object's own numbers change; the rest stays -/
theorem MRep.upd {M M' : ZM} {own own' : Nat → Nat} {z x qarr lt lw i qa cap cap' : Nat} {qs : List Nat} {S S' : MS} {s' : QS} (hm : MRep M z own x qarr lt lw qs S cap) (hq : qs[i]? = some qa) (ho : ∀ y, M y ≠ none → own' y = own y) (hz0 : M z ≠ none) (hx : M' x = some (.inr (0, fM qarr lt lw S'))) (hS : S'.2.1 = va_up S.2.1 i s') (hQ : QRep M' z own' i qa s') (hT : TaR M' z own' lt S'.2.2.1 cap') (hD : S'.2.2.2.2.1 = S.2.2.2.2.1) (fr : ∀ y, M y ≠ none → y ≠ x → own y ≠ i → own y ≠ 32 → M' y = M y) : MRep M' z own' x qarr lt lw qs S' cap' := by
  obtain ⟨⟨m1, m2, m3, m4, m5⟩, hqs, -, hd, hz⟩ := hm
  have hi : i < 32 := by rw [← m3]; exact (List.getElem?_eq_some_iff.mp hq).1
  have hxq : x ≠ qarr := zne m1 m2 (by intro h; cases h)
  have hmz : M' z = M z := fr z hz0 (fun e => by rw [e, m4] at hz; omega) (by omega) (by omega)
  refine ⟨⟨hx, by rw [fr qarr (by rw [m2]; simp) (Ne.symm hxq) (by omega) (by omega)]; exact m2, m3, by rw [ho x (by rw [m1]; simp)]; exact m4, by rw [ho qarr (by rw [m2]; simp)]; exact m5⟩, fun j qb hj => ?_, hT, ?_, by rw [ho z hz0]; exact hz⟩
  · rw [hS]
    by_cases hji : j = i
    · subst hji
      rw [hq] at hj
      cases hj
      rw [va_up_self]
      exact hQ
    · rw [va_up_ne _ _ hji]
      have hj32 : j < 32 := by rw [← m3]; exact (List.getElem?_eq_some_iff.mp hj).1
      exact (hqs j qb hj).fr (fun y hy hyo => ⟨fr y hy (fun e => by rw [e, m4] at hyo; omega) (by omega) (by omega), by rw [ho y hy]; exact hyo⟩) hmz
  · rw [hD]
    exact hd.fr (fun y hy hyo => ⟨fr y hy (fun e => by rw [e, m4] at hyo; omega) (by omega) (by omega), by rw [ho y hy]; exact hyo⟩) hmz
theorem lookT_none {t : TS} {n : Int32} {k : Nat} (h : n < t.1) : lookT t n k = ((t.1, t.2.1, 1, t.2.2.2.1, t.2.2.2.2), none) := by unfold lookT; rw [if_pos h]
theorem lookT_same {t : TS} {n : Int32} {k : Nat} (h : ¬ n < t.1) (h2 : t.2.2.1 = 0 ∨ ¬ t.2.2.2.1 = 0) : lookT t n k = (t, none) := by
  unfold lookT
  rw [if_neg h, if_neg]
  rintro ⟨a, b⟩
  rcases h2 with h2 | h2
  · exact a h2
  · exact h2 b
theorem lookT_some {t : TS} {n : Int32} {k : Nat} (h : ¬ n < t.1) (h1 : ¬ t.2.2.1 = 0) (h2 : t.2.2.2.1 = 0) : lookT t n k = ((t.1, t.2.1, 0, nI (k + 1), 0), some t.2.1) := by
  unfold lookT
  rw [if_neg h, if_pos ⟨h1, h2⟩]
theorem capA_pay2 {n cap : Nat} (h : n ≤ cap) : (if n < cap then 2 else 2 + capA n cap) + 4 * cap ≤ 2 + 4 * capA n cap := by
  have := capA_pay h
  split at this
  · rename_i hl
    rw [if_pos hl]
    omega
  · rename_i hl
    rw [if_neg hl]
    omega
