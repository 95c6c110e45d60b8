theorem zpos' {t : Int32} {n : Nat} (hn : n < 2 ^ 31) (h : ¬ (t < 1 ∨ nI n < t)) : ∃ j : Nat, j < n ∧ t = nI (j + 1) ∧ (t - 1).toNatClampNeg = j := by
  obtain ⟨j, h1, h2, -, h4⟩ := zpos hn h
  exact ⟨j, h1, h2, h4⟩
theorem nx_iff {m len : Nat} (hm : m < 2 ^ 30) (hl : len < 2 ^ 30) : (nI m + 1 < 1 ∨ nI len < nI m + 1) ↔ ¬ nI m + 1 ≤ nI len := by
  have e : (1 : Int32) = nI 1 := rfl
  rw [nI_1, e, nI_ltI (by omega) (by omega), nI_ltI (by omega) (by omega), nI_leI (by omega) (by omega)]
  omega
theorem next_sim {c : Nat} {S : MS} {N : NS} (h : SI c S N) (hc : c < 600) {i j : Nat} (hi : i < 32) (hj : j < 8) : (nextI S i j).1 = (nxM N i j).1 ∧ SI (c + 1) (nextI S i j).2 (ansS (nxM N i j).2) := by
  obtain ⟨hR, hS⟩ := id h
  have hQ := hR.2.1 i hi
  obtain ⟨hK, hT, hI⟩ := id hQ
  obtain ⟨k1, k2, k3, k4, k5, k6, k7⟩ := id hK
  unfold nextI nxM
  by_cases a : kTrans (S.2.1 i).1
  · rw [if_pos a, if_pos (by rw [k1]; exact hI.trans.mp a)]
    exact ⟨rfl, h.keep⟩
  have hn7 : ¬ ¬ N.2.2.1 7 i ≤ 1 := by rw [k1]; exact fun w => a (hI.trans.mpr w)
  rw [if_neg a, if_neg hn7]
  have hv : nxV N i j = nxP (S.2.1 i) j := by unfold nxV nxP; rw [k7 j hj]
  have hpl : ∃ m, m ≤ c ∧ (qP (S.2.1 i)).getD j 0 = nI m := by
    have hj8 : j < (qP (S.2.1 i)).length := by rw [k6]; exact hj
    rw [List.getD_eq_getElem?_getD, List.getElem?_eq_getElem hj8]
    exact hI.2.2.2.2.2.2.2 _ (List.getElem_mem hj8)
  obtain ⟨m, m1, m2⟩ := hpl
  have hp : nxP (S.2.1 i) j = nI m + 1 := by unfold nxP; rw [m2]
  have hlen := hR.len hi
  have hcond : nxN (S.2.1 i) (nxP (S.2.1 i) j) ↔ ¬ nxV N i j ≤ nI (mnN N (nI i) (N.2.1 0)) := by
    rw [hv, hp, hR.mn hi]
    exact nx_iff (by omega) (by omega)
  by_cases b : nxN (S.2.1 i) (nxP (S.2.1 i) j)
  · rw [if_pos b, if_pos (hcond.mp b)]
    exact ⟨rfl, h.keep⟩
  rw [if_neg b, if_neg (fun w => b (hcond.mpr w))]
  refine ⟨hv.symm, ?_⟩
  dsimp only
  rw [hv]
  have hs' : ∀ q, q < 32 → sed (va_up S.2.1 i (nextQ (S.2.1 i) S.2.2.2.2.2.2 j (nxP (S.2.1 i) j)) q) := by
    intro q hq
    by_cases hqi : q = i
    · subst hqi; rw [va_up_self]; exact hS q hq
    · rw [va_up_ne _ _ hqi]; exact hS q hq
  refine SR.keep (hR.upQ hi (Nat.le_succ c) ?_ ?_ rfl rfl rfl rfl rfl (by simp [sI, sL, va_up]) (by simp [sI, sL, va_up]) (by simp [sI, sL, va_up]) (by simp [sI, sL, va_up]) (by simp [sI, sL, va_up]) rfl hR.2.2.1 ?_ ?_) hs'
  · refine ⟨⟨by simp [sI, sL, va_up]; exact k1, by simp [sI, sL, va_up]; exact k2, by simp [sI, sL, va_up]; exact k3, ?_, by simp [sI, sL, va_up]; exact k5, ?_, fun r hr => ?_⟩, ?_, ?_⟩
    · show _ = S.2.2.2.2.2.2
      rw [hR.2.2.2.2.2.1]; simp [sI, sL, va_up]
    · show ((qP (S.2.1 i)).set j _).length = 8
      rw [List.length_set]; exact k6
    · show _ = ((qP (S.2.1 i)).set j (nxP (S.2.1 i) j)).getD r 0
      by_cases hrj : r = j
      · subst hrj
        rw [List.getD_eq_getElem?_getD, List.getElem?_set_self (by rw [k6]; exact hr)]
        simp [sI, sL, va_up]
      · rw [List.getD_eq_getElem?_getD, List.getElem?_set_ne (Ne.symm hrj), ← List.getD_eq_getElem?_getD, ← k7 r hr]
        have : ¬ 8 * i + r = 8 * i + j := by omega
        simp [sI, sL, va_up, hrj]
    · cases ht : qT (S.2.1 i) with
      | none => exact TI.mk_none (by exact ht) (by simp [sI, sL, va_up]; exact hT.no ht)
      | some t =>
        have := hT.yes ht
        exact TI.mk_some (by exact ht) (by simpa [sI, sL, va_up, nextQ] using this)
    · have := hI.mono (Nat.le_succ c)
      obtain ⟨h1, h2, h3, h4, h5, h6, h7, h8⟩ := this
      refine ⟨h1, h2, h3, h4, h5, h6, h7, fun p hp' => ?_⟩
      rcases List.mem_or_eq_of_mem_set hp' with w | w
      · exact h8 p w
      · exact ⟨m + 1, by omega, by rw [w, hp, nI_1]⟩
  · intro q hq hqi
    refine (hR.2.1 q hq).congr ?_ ?_ ?_ ?_ ?_ ?_ ?_ ?_ ?_ ?_ ?_ rfl
    all_goals try (simp [sI, sL, va_up, hqi]; done)
    intro r hr
    have : ¬ 8 * q + r = 8 * i + j := by omega
    simp [sI, sL, va_up, this]
  · show wq (S.2.1 i) + c ≤ _
    omega
  · have := hR.itc
    exact Nat.le_succ_of_le this
theorem rew_II {c : Nat} {s : QS} {a b : List Rw} {r r' : Rw} {v now : Int64} (h : II c s (a ++ r :: b)) (h2 : r'.2.1 = r.2.1) (h3 : r'.2.2.1 = r.2.2.1) (h4 : r'.2.2.2 = v) : II c (rewQ s now a.length v) (a ++ r' :: b) := by
  obtain ⟨i1, i2, i3, i4, i5, ⟨m, m1, m2, m3⟩, i7, i8⟩ := h
  have hl : (s.2.1.set a.length v).length = s.2.1.length := List.length_set
  refine ⟨?_, ?_, ?_, i4, ?_, ⟨m, m1, m2, fun w => ?_⟩, i7, i8⟩
  · show _ = s.2.1.set a.length v
    rw [← i1]
    simp [h4]
  · show _ = List.replicate ((s.2.1.set a.length v).length - s.2.2.1) 0 ++ List.replicate s.2.2.1 s.2.2.2.1
    rw [hl, ← i2]
    simp [h3]
  · show s.2.2.1 ≤ (s.2.1.set a.length v).length
    rw [hl]; exact i3
  · show (s.1 = -1 ∧ s.2.1.set a.length v = []) ∨ (_ ∧ s.2.1.set a.length v ≠ [])
    have e : s.2.1.set a.length v = [] ↔ s.2.1 = [] := by rw [← List.length_eq_zero_iff, hl, List.length_eq_zero_iff]
    rw [ne_eq, e]
    exact i5
  · show (s.2.1.set a.length v).length ≤ m ∧ ∀ (j : Nat) (x : Rw), (a ++ r' :: b)[j]? = some x → x.2.1 = nI (m - (s.2.1.set a.length v).length + j + 1)
    rw [hl]
    refine ⟨(m3 w).1, fun j x hx => ?_⟩
    by_cases hj : j = a.length
    · subst hj
      rw [List.getElem?_append_right (Nat.le_refl _)] at hx
      simp at hx
      rw [← hx, h2]
      exact (m3 w).2 a.length r (by rw [List.getElem?_append_right (Nat.le_refl _)]; simp)
    · refine (m3 w).2 j x ?_
      rw [← hx]
      by_cases hlt : j < a.length
      · rw [List.getElem?_append_left hlt, List.getElem?_append_left hlt]
      · rw [List.getElem?_append_right (by omega), List.getElem?_append_right (by omega)]
        have e : j - a.length = (j - a.length - 1) + 1 := by omega
        rw [e]
        rfl
theorem rewrite_sim {c : Nat} {S : MS} {N : NS} (h : SI c S N) (hc : c < 600) {i : Nat} (hi : i < 32) (n : Int32) (v : Int64) : (rewI S i n v).1 = (rwM N i n v).1 ∧ SI (c + 1) (rewI S i n v).2 (ansS (rwM N i n v).2) := by
  obtain ⟨hR, hS⟩ := id h
  have hQ := hR.2.1 i hi
  obtain ⟨hK, hT, hI⟩ := id hQ
  obtain ⟨k1, k2, k3, k4, k5, k6, k7⟩ := id hK
  have hlen := hR.len hi
  have hitc := hR.itc
  unfold rewI rwM
  by_cases a : kTrans (S.2.1 i).1
  · rw [if_pos a, if_pos (by rw [k1]; exact hI.trans.mp a)]
    exact ⟨rfl, h.keep⟩
  have hn7 : ¬ ¬ N.2.2.1 7 i ≤ 1 := by rw [k1]; exact fun w => a (hI.trans.mpr w)
  rw [if_neg a, if_neg hn7]
  by_cases b : nxN (S.2.1 i) n
  · rw [if_pos b, plI_out (by omega) (by rw [hI.len]; exact b)]
    exact ⟨rfl, h.keep⟩
  rw [if_neg b]
  obtain ⟨j, j1, j2, j3⟩ := zpos' (by omega) b
  obtain ⟨A, r, B, e1, e2, e3, e4⟩ := plI_at (N := N) (q := nI i) (j := j) (by omega) (by rw [hI.len]; exact j1)
  obtain ⟨g1, g2, g3⟩ := itL_at e1
  rw [j2, e4, ← j2, j3]
  refine ⟨rfl, ?_⟩
  dsimp only
  have it : itL (sL (sL N 5 A.length v) 15 i N.2.2.2.2) = A ++ (r.1, r.2.1, r.2.2.1, v) :: B := by
    refine itL_set e1 rfl ?_ (fun x hx => by simp [rowN, sL, va_up, hx])
    rw [← g2]
    simp [rowN, sL, va_up]
  have hs' : ∀ q, q < 32 → sed (va_up S.2.1 i (rewQ (S.2.1 i) S.2.2.2.2.2.2 j v) q) := by
    intro q hq
    by_cases hqi : q = i
    · subst hqi
      rw [va_up_self]
      have := hS q hq
      unfold sed at this ⊢
      have hl : ((S.2.1 q).2.1.set j v).length = (S.2.1 q).2.1.length := List.length_set
      show ∀ t, qT (S.2.1 q) = some t → (nI (((S.2.1 q).2.1.set j v).length - (S.2.1 q).2.2.1) < t.1 → t.2.2.1 = 1) ∧ (¬ nI (((S.2.1 q).2.1.set j v).length - (S.2.1 q).2.2.1) < t.1 → ¬ (¬ t.2.2.1 = 0 ∧ t.2.2.2.1 = 0))
      rw [hl]
      exact this
    · rw [va_up_ne _ _ hqi]; exact hS q hq
  refine SR.keep (hR.upQ hi (Nat.le_succ c) ?_ ?_ rfl rfl rfl rfl rfl (by simp [sI, sL, va_up]) (by simp [sI, sL, va_up]) (by simp [sI, sL, va_up]) (by simp [sI, sL, va_up]) (by simp [sI, sL, va_up]) rfl ?_ ?_ ?_) hs'
  · refine ⟨⟨k1, k2, k3, ?_, by simp [sL, va_up]; exact k5, k6, k7⟩, hT, ?_⟩
    · show _ = S.2.2.2.2.2.2
      rw [hR.2.2.2.2.2.1]; simp [sL, va_up]
    · rw [it, fq_app, fq_yes (q := nI i) (r := (r.1, r.2.1, r.2.2.1, v)) _ e2, ← e3]
      have hh := hI
      rw [e1, fq_app, fq_yes _ e2] at hh
      exact rew_II (hh.mono (Nat.le_succ c)) rfl rfl rfl
  · intro q hq hqi
    have hqn : ¬ r.1 = nI q := by rw [e2, nI_eq (by omega) (by omega)]; omega
    refine (hR.2.1 q hq).congr rfl rfl rfl (by simp [sL, va_up, hqi]) (by simp [sL, va_up]) (fun _ _ => rfl) rfl rfl rfl rfl rfl ?_
    rw [it, e1, fq_app, fq_app, fq_no (r := (r.1, r.2.1, r.2.2.1, v)) _ hqn, fq_no _ hqn]
  · rw [moQ_it, it]
    intro x hx
    have := moQ_it.mp hR.2.2.1
    rw [e1] at this
    rcases List.mem_append.mp hx with w | w
    · exact this x (List.mem_append_left _ w)
    · rcases List.mem_cons.mp w with w | w
      · rw [w]; exact ⟨i, hi, e2⟩
      · exact this x (List.mem_append_right _ (List.mem_cons_of_mem _ w))
  · have e : wq (rewQ (S.2.1 i) S.2.2.2.2.2.2 j v) = (S.2.1 i).2.2.1 + stb (qT (S.2.1 i)) (nI (((S.2.1 i).2.1.set j v).length - (S.2.1 i).2.2.1)) := rfl
    rw [e, List.length_set]
    show wq (S.2.1 i) + c ≤ _
    omega
  · exact Nat.le_succ_of_le hitc
theorem trigger_sim {c : Nat} {S : MS} {N : NS} (h : SI c S N) (hc : c < 600) {i : Nat} (hi : i < 32) (n d : Int32) : (triI S i n d).1 = (trM N i n d).1 ∧ SI (c + 1) (triI S i n d).2 (ansS (trM N i n d).2) := by
  obtain ⟨hR, hS⟩ := id h
  have hQ := hR.2.1 i hi
  obtain ⟨hK, hT, hI⟩ := id hQ
  obtain ⟨k1, k2, k3, k4, k5, k6, k7⟩ := id hK
  unfold triI trM
  by_cases a : n < 0 ∨ 4096 < n
  · rw [if_pos a, if_pos a]
    exact ⟨rfl, h.keep⟩
  rw [if_neg a, if_neg a]
  by_cases b : kTemp (S.2.1 i).1
  · rw [if_pos b, if_pos (by rw [k1]; exact hI.temp.mp b)]
    exact ⟨rfl, h.keep⟩
  rw [if_neg b, if_neg (by rw [k1]; exact fun w => b (hI.temp.mpr w))]
  refine ⟨rfl, ?_⟩
  dsimp only
  suffices key : SR (c + 1) (triS S i n d) (sI (sI (sI (sI (sI N 9 i n) 10 i d) 13 i 1) 11 i 0) 14 i 0) from key.look
  refine hR.upQ hi (Nat.le_succ c) ?_ ?_ rfl rfl rfl rfl rfl (by simp [sI, va_up]) (by simp [sI, va_up]) (by simp [sI, va_up]) (by simp [sI, va_up]) rfl rfl hR.2.2.1 ?_ ?_
  · refine ⟨⟨k1, k2, k3, k4, k5, k6, k7⟩, ?_, hI.mono (Nat.le_succ c)⟩
    have hq : qT (setTr (S.2.1 i) (triT n d)) = triT n d := rfl
    by_cases n0 : n = 0
    · refine TI.mk_none (by rw [hq, triT, if_pos n0]) ?_
      simp [sI, va_up, n0]
    · refine TI.mk_some (t := (n, d, 1, 0, 0)) (by rw [hq, triT, if_neg n0]) ⟨b, by simp [sI, va_up], ?_, by simp [sI, va_up], by simp [sI, va_up], Or.inr rfl, by simp [sI, va_up], fun w => absurd rfl w⟩
      have a1 : ¬ n < 0 := fun w => a (Or.inl w)
      show 0 < n
      rw [i32_nlt] at a1
      rw [Int32.lt_iff_toInt_lt]
      rw [Int32.le_iff_toInt_le] at a1
      have : ¬ n.toInt = (0 : Int32).toInt := fun w => n0 (Int32.toInt_inj.mp w)
      omega
  · intro q hq hqi
    refine (hR.2.1 q hq).congr rfl rfl rfl rfl rfl (fun _ _ => rfl) ?_ ?_ ?_ ?_ ?_ rfl
    all_goals simp [sI, va_up, hqi]
  · have e : wq (setTr (S.2.1 i) (triT n d)) = (S.2.1 i).2.2.1 + stb (triT n d) (qS (S.2.1 i)) := rfl
    have := stb_le (triT n d) (qS (S.2.1 i))
    have : (S.2.1 i).2.2.1 ≤ wq (S.2.1 i) := by unfold wq; omega
    omega
  · exact Nat.le_succ_of_le hR.itc
