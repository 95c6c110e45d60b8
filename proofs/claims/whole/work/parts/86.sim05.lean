theorem stb_le (o : Option TS) (n : Int32) : stb o n ≤ 1 := by
  unfold stb
  split
  · exact Nat.zero_le _
  · split <;> omega
theorem i32_4 (k : Int32) : 4 ≤ k ↔ 3 < k := by
  rw [Int32.le_iff_toInt_le, Int32.lt_iff_toInt_lt]
  have e1 : (4 : Int32).toInt = 4 := rfl
  have e2 : (3 : Int32).toInt = 3 := rfl
  omega
theorem i32_nle {x y : Int32} : ¬ x ≤ y ↔ y < x := by
  rw [Int32.le_iff_toInt_le, Int32.lt_iff_toInt_lt]
  omega
theorem i32_nlt {x y : Int32} : ¬ x < y ↔ y ≤ x := by
  rw [Int32.le_iff_toInt_le, Int32.lt_iff_toInt_lt]
  omega
theorem SR.itc {c : Nat} {S : MS} {N : NS} (h : SR c S N) : N.2.1 0 ≤ c := h.2.2.2.2.2.2.2
theorem TI.n9 {s : QS} {N : NS} {q : Nat} (h : TI s N q) : N.2.2.1 9 q ≤ 0 ↔ qT s = none := by
  cases e : qT s with
  | none => rw [h.no e]; exact ⟨fun _ => rfl, fun _ => by decide⟩
  | some t =>
    obtain ⟨-, t2, t3, -⟩ := h.yes e
    rw [t2]
    exact ⟨fun w => absurd t3 (i32_nlt.mpr w), fun w => by cases w⟩
theorem TI.n90 {s : QS} {N : NS} {q : Nat} (h : TI s N q) : N.2.2.1 9 q = 0 ↔ qT s = none := by
  cases e : qT s with
  | none => rw [h.no e]; exact ⟨fun _ => rfl, fun _ => rfl⟩
  | some t =>
    obtain ⟨-, t2, t3, -⟩ := h.yes e
    rw [t2]
    exact ⟨fun w => absurd w (Int32.ne_pos t3), fun w => by cases w⟩
theorem adm_iff {c : Nat} {s : QS} {N : NS} {i : Nat} {k : Int32} (h : QA c s N i) : adm s k ↔ ¬ puK N i k := by
  obtain ⟨hK, hT, hI⟩ := h
  unfold adm puK
  rw [hK.1, hT.n9]
  by_cases e : s.1 = -1
  · rw [if_pos e]
    constructor
    · rintro (a | a) (b | b)
      · exact b.1 e
      · exact b.1 a
      · exact b.1 e
      · exact a b.2
    · intro w
      by_cases a : qT s = none
      · exact Or.inl a
      · exact Or.inr (fun b => w (Or.inr ⟨a, b⟩))
  · rw [if_neg e]
    constructor
    · rintro a (b | b)
      · exact b.2 a
      · cases ht : qT s with
        | none => exact b.1 ht
        | some t => exact (hT.yes ht).1 ⟨e, by rw [a]; exact b.2⟩
    · intro w
      exact Classical.not_not.mp (fun a => w (Or.inl ⟨e, a⟩))
theorem putL_iff {c : Nat} {S : MS} {N : NS} (h : SR c S N) {i : Nat} (hi : i < 32) {k u : Int32} (ha : adm (S.2.1 i) k) : putL (S.2.1 i) u ↔ puL N i k u := by
  obtain ⟨h1, h2, h3, h4, h5, -⟩ := (h.2.1 i hi).2.2
  unfold putL puL
  rw [h.lk hi]
  by_cases hp : (S.2.1 i).2.2.1 = 0
  · rw [if_pos hp]
    exact ⟨fun w => absurd hp w.1, fun w => absurd rfl w.2.1⟩
  · rw [if_neg hp]
    obtain ⟨a, b⟩ := h4 hp
    have hne : ¬ (S.2.1 i).1 = -1 := by
      intro e
      rcases h5 with ⟨-, e2⟩ | ⟨e2, -⟩
      · rw [e2] at h3; simp at h3; exact hp h3
      · rw [e] at e2; exact absurd e2 (by decide)
    have hk : (S.2.1 i).1 = k := by
      unfold adm at ha
      rw [if_neg hne] at ha
      exact ha
    exact ⟨fun w => ⟨hk ▸ b, fun e => a (by rw [e]; decide), w.2⟩, fun w => ⟨hp, w.2.2⟩⟩
theorem k_tr {k : Int32} (h : ¬ k < 0) (h3 : ¬ 3 < k) : (kTrans k ↔ ¬ k ≤ 1) ∧ (kTemp k ↔ k < 2) ∧ (k = 0 ∨ k = 1 ∨ k = 2 ∨ k = 3) := by
  rcases k_cases h h3 with rfl | rfl | rfl | rfl <;> decide
theorem put_II {c : Nat} {s : QS} {l : List Rw} (h : II c s l) {k u : Int32} {v : Int64} {now : Int64} {r : Rw} (hk : k = 0 ∨ k = 1 ∨ k = 2 ∨ k = 3) (hu : ¬ u < 0) (ha : adm s k) (hl : ¬ putL s u) (r4 : r.2.2.2 = v) (r3 : r.2.2.1 = if kProt k then u else 0) (r2 : kTrans k → r.2.1 = s.2.2.2.2.2.1 + 1) : II (c + 1) (putQ s now k v u) (l ++ [r]) := by
  have hln := h.len
  obtain ⟨h1, h2, h3, h4, h5, ⟨m, m1, m2, m3⟩, ⟨t, t1, t2⟩, hp⟩ := h
  have hkd : s.1 = k ∨ (s.1 = -1 ∧ s.2.1 = []) := by
    rcases h5 with e | ⟨e, -⟩
    · exact Or.inr e
    · refine Or.inl ?_
      unfold adm at ha
      rw [if_neg (by intro w; rw [w] at e; exact absurd e (by decide))] at ha
      exact ha
  have hph : ¬ s.2.2.1 = 0 → s.2.2.2.1 = u ∧ kProt k ∧ ¬ u = 0 := by
    intro hp0
    have e1 : s.2.2.2.1 = u := Classical.not_not.mp (fun w => hl ⟨hp0, w⟩)
    obtain ⟨a, b⟩ := h4 hp0
    refine ⟨e1, ?_, fun w => a (by rw [e1, w]; decide)⟩
    rcases hkd with e | ⟨-, e⟩
    · rw [← e]; exact b
    · rw [e] at h3; simp at h3; exact absurd h3 hp0
  refine ⟨?_, ?_, ?_, ?_, ?_, ?_, ⟨t, t1, by omega⟩, fun p hpp => ?_⟩
  · show (l ++ [r]).map _ = s.2.1 ++ [v]
    rw [List.map_append, h1, List.map_singleton, r4]
  · show (l ++ [r]).map _ = List.replicate ((s.2.1 ++ [v]).length - (if kProt k ∧ ¬ u = 0 then s.2.2.1 + 1 else s.2.2.1)) 0 ++ List.replicate (if kProt k ∧ ¬ u = 0 then s.2.2.1 + 1 else s.2.2.1) (if kProt k ∧ ¬ u = 0 then u else s.2.2.2.1)
    rw [List.map_append, h2, List.map_singleton, r3]
    by_cases hP : kProt k ∧ ¬ u = 0
    · rw [if_pos hP, if_pos hP, if_pos hP.1, List.append_assoc]
      have e1 : (s.2.1 ++ [v]).length - (s.2.2.1 + 1) = s.2.1.length - s.2.2.1 := by simp
      have e2 : List.replicate s.2.2.1 s.2.2.2.1 ++ [u] = List.replicate (s.2.2.1 + 1) u := by
        rw [List.replicate_succ']
        by_cases hp0 : s.2.2.1 = 0
        · rw [hp0]; rfl
        · rw [(hph hp0).1]
      rw [e1, e2]
    · rw [if_neg hP, if_neg hP]
      have hp0 : s.2.2.1 = 0 := Classical.not_not.mp (fun w => hP ⟨(hph w).2.1, (hph w).2.2⟩)
      have e0 : (if kProt k then u else 0) = 0 := by
        by_cases hp : kProt k
        · rw [if_pos hp]; exact Classical.not_not.mp (fun w => hP ⟨hp, w⟩)
        · rw [if_neg hp]
      rw [e0, hp0]
      simp only [Nat.sub_zero, List.replicate_zero, List.append_nil, List.length_append, List.length_singleton]
      rw [List.replicate_succ']
  · show (if kProt k ∧ ¬ u = 0 then s.2.2.1 + 1 else s.2.2.1) ≤ (s.2.1 ++ [v]).length
    rw [List.length_append, List.length_singleton]
    split <;> omega
  · show ¬ (if kProt k ∧ ¬ u = 0 then s.2.2.1 + 1 else s.2.2.1) = 0 → ¬ (if kProt k ∧ ¬ u = 0 then u else s.2.2.2.1) ≤ 0 ∧ kProt k
    by_cases hP : kProt k ∧ ¬ u = 0
    · rw [if_pos hP, if_pos hP]
      refine fun _ => ⟨fun w => hP.2 ?_, hP.1⟩
      rw [i32_nlt] at hu
      rw [Int32.le_iff_toInt_le] at w hu
      exact Int32.toInt_inj.mp (by omega)
    · rw [if_neg hP, if_neg hP]
      intro w
      exact ⟨(h4 w).1, (hph w).2.1⟩
  · refine Or.inr ⟨hk, ?_⟩
    show s.2.1 ++ [v] ≠ []
    simp
  · show ∃ m, (if kTrans k then s.2.2.2.2.2.1 + 1 else s.2.2.2.2.2.1) = nI m ∧ m ≤ c + 1 ∧ (kTrans k → (s.2.1 ++ [v]).length ≤ m ∧ ∀ (j : Nat) (x : Rw), (l ++ [r])[j]? = some x → x.2.1 = nI (m - (s.2.1 ++ [v]).length + j + 1))
    by_cases ht : kTrans k
    · rw [if_pos ht]
      refine ⟨m + 1, by rw [m1, nI_1], by omega, fun _ => ?_⟩
      have hlm : s.2.1.length ≤ m ∧ ∀ (j : Nat) (r : Rw), l[j]? = some r → r.2.1 = nI (m - s.2.1.length + j + 1) := by
        rcases hkd with e | ⟨-, e⟩
        · exact m3 (e ▸ ht)
        · rw [e]
          refine ⟨Nat.zero_le _, fun j x hx => ?_⟩
          rw [e] at hln
          rw [List.length_eq_zero_iff.mp hln] at hx
          simp at hx
      refine ⟨by simp; exact hlm.1, fun j x hx => ?_⟩
      have e : m + 1 - (s.2.1 ++ [v]).length = m - s.2.1.length := by simp
      rw [e]
      by_cases hj : j < l.length
      · rw [List.getElem?_append_left hj] at hx
        exact hlm.2 j x hx
      · have hj2 : j = l.length := by
          have := (List.getElem?_eq_some_iff.mp hx).1
          simp at this
          omega
        rw [hj2] at hx
        simp at hx
        rw [← hx, r2 ht, m1, nI_1]
        congr 1
        omega
    · rw [if_neg ht]
      exact ⟨m, m1, by omega, fun w => absurd w ht⟩
  · obtain ⟨m, p1, p2⟩ := hp p hpp
    exact ⟨m, by omega, p2⟩
theorem put_wq (s : QS) (now : Int64) (k : Int32) (v : Int64) (u : Int32) : wq (putQ s now k v u) ≤ wq s + 1 := by
  have e : wq (putQ s now k v u) = (if kProt k ∧ ¬ u = 0 then s.2.2.1 + 1 else s.2.2.1) + stb (qT s) (nI ((s.2.1 ++ [v]).length - (if kProt k ∧ ¬ u = 0 then s.2.2.1 + 1 else s.2.2.1))) := rfl
  rw [e]
  by_cases hP : kProt k ∧ ¬ u = 0
  · rw [if_pos hP]
    have e1 : (s.2.1 ++ [v]).length - (s.2.2.1 + 1) = s.2.1.length - s.2.2.1 := by simp
    rw [e1]
    show _ ≤ s.2.2.1 + stb (qT s) (nI (s.2.1.length - s.2.2.1)) + 1
    omega
  · rw [if_neg hP]
    have := stb_le (qT s) (nI ((s.2.1 ++ [v]).length - s.2.2.1))
    unfold wq
    omega
theorem put_sim {c : Nat} {S : MS} {N : NS} (h : SI c S N) (hc : c < 600) {i : Nat} (hi : i < 32) (k : Int32) (v : Int64) (u : Int32) : (putI S i k v u).1 = (puM N i k v u).1 ∧ SI (c + 1) (putI S i k v u).2 (ansS (puM N i k v u).2) := by
  have hb : putB k u ↔ puB k u := by unfold putB puB; rw [i32_4]
  obtain ⟨hR, hS⟩ := id h
  have hQ := hR.2.1 i hi
  by_cases b : puB k u
  · have e : puM N i k v u = (-2, N) := by unfold puM; rw [if_pos b]
    rw [putI_2 (hb.mpr b), e]
    exact ⟨rfl, h.keep⟩
  by_cases a : adm (S.2.1 i) k
  rotate_left
  · have e : puM N i k v u = (-3, N) := by unfold puM; rw [if_neg b, if_pos (Classical.not_not.mp (fun w => a ((adm_iff hQ).mpr w)))]
    rw [putI_3 (fun w => b (hb.mp w)) a, e]
    exact ⟨rfl, h.keep⟩
  have a' := (adm_iff hQ).mp a
  by_cases L : putL (S.2.1 i) u
  · have e : puM N i k v u = (-5, N) := by unfold puM; rw [if_neg b, if_neg a', if_pos ((putL_iff hR hi a).mp L)]
    rw [putI_5 (fun w => b (hb.mp w)) a L, e]
    exact ⟨rfl, h.keep⟩
  have L' : ¬ puL N i k u := fun w => L ((putL_iff hR hi a).mpr w)
  have hrm : nI (tot S 32) < S.1 ↔ nI (N.2.1 0) < N.1 1 := by rw [hR.tot, hR.1]
  by_cases R : nI (tot S 32) < S.1
  rotate_left
  · have e : puM N i k v u = (-1, N) := by unfold puM; rw [if_neg b, if_neg a', if_neg L', if_pos (fun w => R (hrm.mpr w))]
    rw [putI_1 (fun w => b (hb.mp w)) a L R, e]
    exact ⟨rfl, h.keep⟩
  have e : puM N i k v u = (puNum N i k v u, sL (sI (puM6 N i k v u) 3 (N.2.1 0) (puNum N i k v u)) 15 i N.2.2.2.2) := by
    unfold puM; rw [if_neg b, if_neg a', if_neg L', if_neg (not_not_intro (hrm.mp R))]
  rw [putI_0 (fun w => b (hb.mp w)) a L R, e]
  have b0 : ¬ k < 0 := fun w => b (Or.inl w)
  have b3 : ¬ 3 < k := fun w => b (Or.inr (Or.inl w))
  have bu : ¬ u < 0 := fun w => b (Or.inr (Or.inr (Or.inl w)))
  obtain ⟨kt, kp, kk⟩ := k_tr b0 b3
  obtain ⟨hK, hT, hI⟩ := id hQ
  obtain ⟨k1, k2, k3, k4, k5, k6, k7⟩ := id hK
  have i6 : itL (puM6 N i k v u) = itL N ++ [(nI i, N.2.2.1 3 (N.2.1 0), if kProt k then u else 0, v)] := by
    rw [itL_push (N := N) (N' := puM6 N i k v u) (by simp [puM6, sN, va_up]) (fun j hj => by simp [rowN, puM6, puM2, sN, sI, sL, va_up, hj])]
    simp [rowN, puM6, puM2, sN, sI, sL, va_up]
  have hnum : puNum N i k v u = putA (S.2.1 i) k := by
    unfold puNum putA
    by_cases h1 : k ≤ 1
    · rw [if_pos h1, if_neg (fun w => kt.mp w h1), mnN_F]
      have e0 : (puM6 N i k v u).2.1 0 = N.2.1 0 + 1 := by simp [puM6, sN, va_up]
      have : itN (puM6 N i k v u) (N.2.1 0 + 1) = itL (puM6 N i k v u) := by unfold itL; rw [e0]
      rw [this, i6, fq_app, fq_yes (q := nI i) _ rfl, List.length_append, hI.len]
      rfl
    · rw [if_neg h1, if_pos (kt.mpr h1), ← k2]
      simp [puM6, puM2, sN, sI, sL, va_up, h1]
  refine ⟨hnum.symm, ?_⟩
  dsimp only
  suffices key : SR (c + 1) (putS S i k v u) (sL (sI (puM6 N i k v u) 3 (N.2.1 0) (puNum N i k v u)) 15 i N.2.2.2.2) from key.look
  have it : itL (sL (sI (puM6 N i k v u) 3 (N.2.1 0) (puNum N i k v u)) 15 i N.2.2.2.2) = itL N ++ [(nI i, puNum N i k v u, if kProt k then u else 0, v)] := by
    have := itL_set (N := puM6 N i k v u) (N' := sL (sI (puM6 N i k v u) 3 (N.2.1 0) (puNum N i k v u)) 15 i N.2.2.2.2) (r' := (nI i, puNum N i k v u, if kProt k then u else 0, v)) (A := itL N) (B := []) i6 rfl (by
      rw [itL_len]
      simp [rowN, puM6, puM2, sN, sI, sL, va_up]) (fun j hj => by
      rw [itL_len] at hj
      simp [rowN, sI, sL, va_up, hj])
    exact this
  refine hR.upQ hi (Nat.le_succ c) ?_ ?_ ?_ ?_ ?_ ?_ ?_ ?_ ?_ ?_ ?_ ?_ ?_ ?_ ?_ ?_
  · refine ⟨⟨?_, ?_, ?_, ?_, ?_, k6, fun r hr => ?_⟩, ?_, ?_⟩
    · show _ = k
      simp [puM6, puM2, sN, sI, sL, va_up]
    · show _ = if kTrans k then (S.2.1 i).2.2.2.2.2.1 + 1 else (S.2.1 i).2.2.2.2.2.1
      rw [← k2]
      by_cases h1 : k ≤ 1
      · rw [if_neg (fun w => kt.mp w h1)]; simp [puM6, puM2, sN, sI, sL, va_up, h1]
      · rw [if_pos (kt.mpr h1)]; simp [puM6, puM2, sN, sI, sL, va_up, h1]
    · show _ = (S.2.1 i).2.2.2.2.2.2.1
      rw [← k3]; simp [puM6, puM2, sN, sI, sL, va_up]
    · show _ = S.2.2.2.2.2.2
      rw [hR.2.2.2.2.2.1]; simp [puM6, puM2, sN, sI, sL, va_up]
    · show _ = (S.2.1 i).2.2.2.2.2.2.2.1
      rw [← k5]; simp [puM6, puM2, sN, sI, sL, va_up]
    · show _ = (qP (S.2.1 i)).getD r 0
      rw [← k7 r hr]; simp [puM6, puM2, sN, sI, sL, va_up]
    · have hqT : qT (putQ (S.2.1 i) S.2.2.2.2.2.2 k v u) = qT (S.2.1 i) := rfl
      cases ht : qT (S.2.1 i) with
      | none =>
        refine TI.mk_none (hqT.trans ht) ?_
        rw [← hT.no ht]; simp [puM6, puM2, sN, sI, sL, va_up]
      | some t =>
        obtain ⟨t1, t2, t3, t4, t5, t6, t7, t8⟩ := hT.yes ht
        refine TI.mk_some (hqT.trans ht) ⟨?_, ?_, t3, ?_, ?_, t6, ?_, fun w => ?_⟩
        · show ¬ kTemp k
          intro w
          have ha := a
          unfold adm at ha
          split at ha
          · exact ha.elim (fun x => by have : qT (S.2.1 i) = none := x; rw [ht] at this; cases this) (fun x => x (kp.mp w))
          · rw [← ha] at w; exact t1 w
        · rw [← t2]; simp [puM6, puM2, sN, sI, sL, va_up]
        · rw [← t4]; simp [puM6, puM2, sN, sI, sL, va_up]
        · rw [← t5]; simp [puM6, puM2, sN, sI, sL, va_up]
        · rw [← t7]; simp [puM6, puM2, sN, sI, sL, va_up]
        · rw [← t8 w]; simp [puM6, puM2, sN, sI, sL, va_up]
    · rw [it, fq_app, fq_yes (q := nI i) _ rfl]
      refine put_II hI kk bu a L rfl rfl (fun w => ?_)
      show puNum N i k v u = _
      rw [hnum, putA, if_pos w]
  · intro q hq hqi
    have hqn : ¬ nI i = nI q := by rw [nI_eq (by omega) (by omega)]; omega
    refine (hR.2.1 q hq).congr ?_ ?_ ?_ ?_ ?_ ?_ ?_ ?_ ?_ ?_ ?_ ?_
    all_goals try (simp [puM6, puM2, sN, sI, sL, va_up, hqi]; done)
    rw [it, fq_app, fq_no _ (by exact hqn)]
    exact List.append_nil _
  all_goals try (first | rfl | (simp [puM6, puM2, sN, sI, sL, va_up]; done))
  · rw [moQ_it, it]
    intro r hr
    rcases List.mem_append.mp hr with w | w
    · exact moQ_it.mp hR.2.2.1 r w
    · rw [List.mem_singleton.mp w]; exact ⟨i, hi, rfl⟩
  · have := put_wq (S.2.1 i) S.2.2.2.2.2.2 k v u
    omega
  · have := hR.itc
    simp [puM6, puM2, sN, sI, sL, va_up]
    omega
