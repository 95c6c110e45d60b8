/-- a queue's trigger changes, and it may be that a task begins -/
theorem SR.trg {c c' : Nat} {S : MS} {N : NS} (h : SR c S N) {i : Nat} (hi : i < 32) {t : TS} (ht : qT (S.2.1 i) = some t) (t' : TS) (co : Option Int32) (N' : NS) (hcc : c ≤ c') (a1 : N'.1 1 = N.1 1) (a3 : N'.1 3 = N.1 3) (b0 : N'.2.1 0 = N.2.1 0) (b2 : N'.2.1 2 = N.2.1 2) (hl : N'.2.2.2 = N.2.2.2) (hc : ∀ a, a ≠ 11 → a ≠ 13 → a ≠ 14 → a ≠ 18 → a ≠ 19 → N'.2.2.1 a = N.2.2.1 a) (hq : ∀ a q, q ≠ i → a ≠ 18 → a ≠ 19 → N'.2.2.1 a q = N.2.2.1 a q) (hk : TK (addT S (va_up S.2.1 i (setTr (S.2.1 i) (some t'))) co) N') (htt : t'.1 = t.1 ∧ t'.2.1 = t.2.1 ∧ N'.2.2.1 13 i = t'.2.2.1 ∧ (t'.2.2.1 = 0 ∨ t'.2.2.1 = 1) ∧ N'.2.2.1 11 i = t'.2.2.2.1 ∧ (¬ t'.2.2.2.1 = 0 → N'.2.2.1 14 i = t'.2.2.2.2)) (hps : co.toList.length + stb (some t') (qS (S.2.1 i)) + c ≤ stb (some t) (qS (S.2.1 i)) + c') : SR c' (addT S (va_up S.2.1 i (setTr (S.2.1 i) (some t'))) co) N' := by
  obtain ⟨h1, h2, h3, h4, h5, h6, h7, h8⟩ := id h
  obtain ⟨hK, hT, hI⟩ := h2 i hi
  obtain ⟨t1, t2, t3, t4, t5, t6, t7, t8⟩ := hT.yes ht
  have hw : wq (S.2.1 i) = (S.2.1 i).2.2.1 + stb (some t) (qS (S.2.1 i)) := by unfold wq; rw [ht]
  have hit : itL N' = itL N := by
    refine itL_congr (fun j => ?_) b0
    unfold rowN
    rw [hc 2 (by decide) (by decide) (by decide) (by decide) (by decide), hc 3 (by decide) (by decide) (by decide) (by decide) (by decide), hc 4 (by decide) (by decide) (by decide) (by decide) (by decide), hl]
  refine ⟨h1.trans a1.symm, fun q hq2 => ?_, ?_, hk, ?_, by rw [hl]; exact h6, ?_, by rw [b0]; omega⟩
  · show QA c' (va_up S.2.1 i (setTr (S.2.1 i) (some t')) q) N' q
    by_cases hqi : q = i
    · subst hqi
      rw [va_up_self]
      obtain ⟨k1, k2, k3, k4, k5, k6, k7⟩ := hK
      refine ⟨⟨?_, ?_, ?_, ?_, ?_, k6, fun r hr => ?_⟩, ?_, ?_⟩
      · rw [hc 7 (by decide) (by decide) (by decide) (by decide) (by decide)]; exact k1
      · rw [hc 8 (by decide) (by decide) (by decide) (by decide) (by decide)]; exact k2
      · rw [hc 12 (by decide) (by decide) (by decide) (by decide) (by decide)]; exact k3
      · rw [hl]; exact k4
      · rw [hl]; exact k5
      · rw [hc 17 (by decide) (by decide) (by decide) (by decide) (by decide)]; exact k7 r hr
      · refine TI.mk_some (t := t') rfl ⟨t1, ?_, ?_, ?_, htt.2.2⟩
        · rw [hc 9 (by decide) (by decide) (by decide) (by decide) (by decide), htt.1]; exact t2
        · rw [htt.1]; exact t3
        · rw [hc 10 (by decide) (by decide) (by decide) (by decide) (by decide), htt.2.1]; exact t4
      · rw [hit]; exact hI.mono hcc
    · rw [va_up_ne _ _ hqi]
      have hc' := fun a x1 x2 => hq a q hqi x1 x2
      refine ((h2 q hq2).mono hcc).congr (hc' 7 (by decide) (by decide)) (hc' 8 (by decide) (by decide)) (hc' 12 (by decide) (by decide)) (by rw [hl]) (by rw [hl]) (fun r _ => by rw [hc 17 (by decide) (by decide) (by decide) (by decide) (by decide)]) (hc' 9 (by decide) (by decide)) (hc' 10 (by decide) (by decide)) (hc' 11 (by decide) (by decide)) (hc' 13 (by decide) (by decide)) (hc' 14 (by decide) (by decide)) (by rw [hit])
  · rw [moQ_it, hit]; exact moQ_it.mp h3
  · obtain ⟨d1, d2, d3, d4, d5⟩ := h5.mono hcc
    have hd : dlL N' = dlL N := dlL_congr b2 (hc 23 (by decide) (by decide) (by decide) (by decide) (by decide)) (hc 24 (by decide) (by decide) (by decide) (by decide) (by decide)) (by rw [hl])
    unfold DL
    rw [hd, a3, b2]
    exact ⟨d1, d2, d3, d4, d5⟩
  · have := Psi_up (S := S) (S' := addT S (va_up S.2.1 i (setTr (S.2.1 i) (some t'))) co) (s' := setTr (S.2.1 i) (some t')) hi (fun q => rfl)
    have hw' : wq (setTr (S.2.1 i) (some t')) = (S.2.1 i).2.2.1 + stb (some t') (qS (S.2.1 i)) := rfl
    have hl1 : (addT S (va_up S.2.1 i (setTr (S.2.1 i) (some t'))) co).2.2.1.length = S.2.2.1.length + co.toList.length := by simp [addT]
    have hl2 : (addT S (va_up S.2.1 i (setTr (S.2.1 i) (some t'))) co).2.2.2.2.1.length = S.2.2.2.2.1.length := rfl
    omega
theorem addT_none (S : MS) (q : Nat → QS) : addT S q none = (S.1, q, S.2.2) := by simp [addT]
theorem agT_sim {c : Nat} {S : MS} {N : NS} (h : SR c S N) {i : Nat} (hi : i < 32) {t : TS} (ht : qT (S.2.1 i) = some t) (h0 : ¬ t.2.2.2.1 = 0) (hc : c < 600) : (agT S i t).1 = (enT N i).1 ∧ SR (c + 1) (agT S i t).2 (enT N i).2 := by
  obtain ⟨hK, hT, hI⟩ := h.2.1 i hi
  obtain ⟨t1, t2, t3, t4, t5, t6, t7, t8⟩ := hT.yes ht
  obtain ⟨k1, k2, k3⟩ := h.2.2.2.1
  have hcond : agC S i t ↔ (N.2.2.1 14 i = 0 ∧ 0 < stN N (nI i) (N.2.1 0)) := by
    unfold agC
    rw [h.st hi, t8 h0]
  have hlen := h.tasks
  unfold agT enT
  by_cases a : agC S i t
  · rw [if_pos a, if_pos (hcond.mp a)]
    refine ⟨by rw [k1], ?_⟩
    dsimp only
    refine h.trg hi ht _ _ _ (Nat.le_succ c) (by simp [sI, taskS, sS, sN, va_up]) (by simp [sI, taskS, sS, sN, va_up]) (by simp [sI, taskS, sS, sN, va_up]) (by simp [sI, taskS, sS, sN, va_up]) rfl (fun a a11 a13 a14 a18 a19 => by simp [sI, taskS, sS, sN, va_up, a11, a13, a14, a18, a19]) (fun a q hqi a18 a19 => by by_cases a14 : a = 14 <;> by_cases a11 : a = 11 <;> simp [sI, taskS, sS, sN, va_up, a11, a14, a18, a19, hqi]) ?_ ⟨rfl, rfl, ?_, t6, by simp [sI, va_up, k1], fun e => by simp [sI, va_up]⟩ ?_
    · refine ⟨by simp [addT, sI, taskS, sS, sN, va_up, k1], fun j x hj => ?_, by simp [addT, sI, taskS, sS, sN, va_up, k3]⟩
      have hj' : (S.2.2.1 ++ [(t.2.1, 1)])[j]? = some x := by simpa [addT] using hj
      by_cases hjl : j < S.2.2.1.length
      · rw [List.getElem?_append_left hjl] at hj'
        have := k2 j x hj'
        have hne : ¬ j = S.2.2.1.length := by omega
        simpa [sI, taskS, sS, sN, va_up, k1, hne] using this
      · have hje : j = S.2.2.1.length := by
          have := (List.getElem?_eq_some_iff.mp hj').1
          simp at this
          omega
        rw [hje] at hj'
        simp at hj'
        rw [← hj', hje]
        simp [sI, taskS, sS, sN, va_up, k1, t4]
    · simp [sI, taskS, sS, sN, va_up]; exact t5
    · have e : stb (some (t.1, t.2.1, t.2.2.1, nI (S.2.2.1.length + 1), 0)) (qS (S.2.1 i)) = 0 := by
        have hne : ¬ nI (S.2.2.1.length + 1) = 0 := nI_ne0 (by omega) (by omega)
        exact if_neg (fun w => hne w.2.2)
      rw [e]
      simp
      omega
  · rw [if_neg a, if_neg (fun w => a (hcond.mpr w))]
    refine ⟨rfl, ?_⟩
    dsimp only
    rw [← addT_none]
    refine h.trg hi ht _ _ _ (Nat.le_succ c) rfl rfl rfl rfl rfl (fun a a11 a13 a14 a18 a19 => by simp [sI, va_up, a11, a14]) (fun a q hqi a18 a19 => by by_cases a14 : a = 14 <;> by_cases a11 : a = 11 <;> simp [sI, va_up, a11, a14, hqi]) ?_ ⟨rfl, rfl, ?_, t6, by simp [sI, va_up], fun e => absurd rfl e⟩ ?_
    · refine ⟨by simpa [addT, sI] using k1, fun j x hj => ?_, by simpa [addT, sI] using k3⟩
      have := k2 j x (by simpa [addT] using hj)
      simpa [sI, va_up] using this
    · simp [sI, va_up]; exact t5
    · have := stb_le (some (t.1, t.2.1, t.2.2.1, 0, t.2.2.2.2)) (qS (S.2.1 i))
      simp
      omega
theorem agN_sim {c : Nat} {S : MS} {N : NS} (h : SR c S N) (hc : c < 600) {e : Int32} (he : ¬ e = 0) : ∀ d, d ≤ 32 → (agN S e d).1 = (enN N e d).1 ∧ SR (c + 1) (agN S e d).2 (enN N e d).2
  | 0, _ => by rw [enN_zero]; exact ⟨rfl, h.mono (Nat.le_succ c)⟩
  | d + 1, hd => by
    have ih := agN_sim h hc he d (by omega)
    have hi : 31 - d < 32 := by omega
    obtain ⟨hK, hT, hI⟩ := h.2.1 (31 - d) hi
    rw [enN_succ]
    cases ht : qT (S.2.1 (31 - d)) with
    | none =>
      have e1 : agN S e (d + 1) = agN S e d := by
        have ht' : (S.2.1 (31 - d)).2.2.2.2.2.2.2.2.1 = none := ht
        rw [agN, ht']
      rw [e1, if_pos (Or.inl (hT.no ht))]
      exact ih
    | some t =>
      have e1 : agN S e (d + 1) = if t.2.2.2.1 = e then agT S (31 - d) t else agN S e d := by
        have ht' : (S.2.1 (31 - d)).2.2.2.2.2.2.2.2.1 = some t := ht
        rw [agN, ht']
      obtain ⟨t1, t2, t3, t4, t5, t6, t7, t8⟩ := hT.yes ht
      rw [e1]
      by_cases a : t.2.2.2.1 = e
      · have hb : ¬ (N.2.2.1 9 (31 - d) = 0 ∨ ¬ N.2.2.1 11 (31 - d) = e) := by
          rw [t2, t7]
          exact fun w => w.elim (Int32.ne_pos t3) (fun x => x a)
        rw [if_pos a, if_neg hb]
        exact agT_sim h hi ht (by rw [a]; exact he) hc
      · have hb : N.2.2.1 9 (31 - d) = 0 ∨ ¬ N.2.2.1 11 (31 - d) = e := by
          rw [t7]; exact Or.inr a
        rw [if_neg a, if_pos hb]
        exact ih
theorem endS_sim {c : Nat} {S : MS} {N : NS} (h : SR c S N) {j : Nat} (hj : j < S.2.2.1.length) : SR c (endS S j) (enS N j) := by
  obtain ⟨h1, h2, h3, ⟨k1, k2, k3⟩, h5, h6, h7, h8⟩ := h
  refine ⟨h1, fun q hq => ?_, h3, ⟨?_, fun x y hx => ?_, ?_⟩, h5, h6, ?_, h8⟩
  · exact (h2 q hq).congr rfl rfl rfl rfl rfl (fun _ _ => rfl) rfl rfl rfl rfl rfl rfl
  · show N.2.1 1 = (S.2.2.1.set j _).length
    rw [List.length_set]; exact k1
  · have hx' : (S.2.2.1.set j (((S.2.2.1[j]?).getD (0, 0)).1, 0))[x]? = some y := hx
    by_cases e : x = j
    · subst e
      rw [List.getElem?_set_self hj] at hx'
      have hy := Option.some.inj hx'
      rw [← hy, List.getElem?_eq_getElem hj]
      have := k2 x _ (List.getElem?_eq_getElem hj)
      exact ⟨this.1, by simp [enS, sS, sI, va_up]⟩
    · rw [List.getElem?_set_ne (Ne.symm e)] at hx'
      have := k2 x y hx'
      exact ⟨this.1, by simp [enS, sS, sI, va_up, e]; exact this.2⟩
  · show S.2.2.2.1 - 1 = _
    rw [k3]; simp [enS, sS, sI, va_up]
  · have e : Psi (endS S j) = Psi S := by
      unfold Psi
      show (S.2.2.1.set j _).length + _ + _ = _
      rw [List.length_set]
      rfl
    rw [e]; exact h7
theorem end_sim {c : Nat} {S : MS} {N : NS} (h : SI c S N) (hc : c < 600) (t : Int32) : (endI S t).1 = (enM N t).1 ∧ SI (c + 1) (endI S t).2 (ansS (enM N t).2) := by
  obtain ⟨hR, hS⟩ := id h
  obtain ⟨k1, k2, k3⟩ := hR.2.2.2.1
  have hl := hR.tasks
  have e2 : (t < 1 ∨ nI (N.2.1 1) < t) ↔ (t < 1 ∨ nI S.2.2.1.length < t) := by rw [k1]
  unfold endI enM
  by_cases a : t < 1 ∨ nI S.2.2.1.length < t
  · rw [if_pos a, if_pos (e2.mpr a)]
    exact ⟨rfl, h.keep⟩
  rw [if_neg a, if_neg (fun w => a (e2.mp w))]
  obtain ⟨j, j1, j2, j3⟩ := zpos' (by omega) a
  have hg := (k2 j _ (List.getElem?_eq_getElem j1)).2
  have hgo : ((S.2.2.1[j]?).getD (0, 0)).2 = N.2.2.1 19 j := by rw [List.getElem?_eq_getElem j1, hg]; rfl
  rw [j3, hgo]
  by_cases b : N.2.2.1 19 j = 0
  · rw [if_pos b, if_pos b]
    exact ⟨rfl, h.keep⟩
  rw [if_neg b, if_neg b]
  obtain ⟨s1, s2⟩ := agN_sim (endS_sim hR j1) hc (e := t) (by rw [j2]; exact nI_ne0 (by omega) (by omega)) 32 (Nat.le_refl _)
  refine ⟨s1, ?_⟩
  dsimp only
  exact s2.look
