theorem SR.all {c : Nat} {S : MS} {N N' : NS} (h : SR c S N) {f : Nat → QS} (hA : ∀ q, q < 32 → QA c (f q) N' q) (hw : ∀ q, q < 32 → wq (f q) ≤ wq (S.2.1 q)) (e : N'.1 = N.1) (fn : ∀ a, a ≠ 0 → N'.2.1 a = N.2.1 a) (g18 : N'.2.2.1 18 = N.2.2.1 18) (g19 : N'.2.2.1 19 = N.2.2.1 19) (g23 : N'.2.2.1 23 = N.2.2.1 23) (g24 : N'.2.2.1 24 = N.2.2.1 24) (g25 : N'.2.2.2.1 25 = N.2.2.2.1 25) (et : N'.2.2.2.2 = N.2.2.2.2) (hm : moQ N') (h0 : N'.2.1 0 ≤ c) : SR c (S.1, f, S.2.2) N' := by
  obtain ⟨h1, h2, h3, h4, h5, h6, h7, h8⟩ := h
  refine ⟨by rw [e]; exact h1, hA, hm, ?_, ?_, h6.trans et.symm, ?_, h0⟩
  · obtain ⟨k1, k2, k3⟩ := h4
    exact ⟨(fn 1 (by decide)).trans k1, fun j x hj => by rw [g18, g19]; exact k2 j x hj, by rw [e]; exact k3⟩
  · unfold DL at h5 ⊢
    rw [dlL_congr (fn 2 (by decide)) g23 g24 g25, e, fn 2 (by decide)]
    exact h5
  · have := sumQ_le 32 hw
    unfold Psi at h7 ⊢
    show S.2.2.1.length + S.2.2.2.2.1.length + sumQ (fun q => wq (f q)) 32 ≤ c
    omega
theorem uniN_eq (S : MS) (u c : Int32) : ∀ n, uniN S u c n = (sumQ (fun q => if uniC (S.2.1 q) u then (S.2.1 q).2.2.1 else 0) n, (S.1, (fun q => if q < n ∧ uniC (S.2.1 q) u then uniQ (S.2.1 q) c else S.2.1 q), S.2.2))
  | 0 => by
    rw [uniN_zero]
    have : (fun q => if q < 0 ∧ uniC (S.2.1 q) u then uniQ (S.2.1 q) c else S.2.1 q) = S.2.1 := by
      funext q
      rw [if_neg (fun w => by omega)]
    rw [this]
    rfl
  | n + 1 => by
    rw [uniN_succ, uniN_eq S u c n]
    dsimp only
    have e : (fun q => if q < n ∧ uniC (S.2.1 q) u then uniQ (S.2.1 q) c else S.2.1 q) n = S.2.1 n := if_neg (fun w => by omega)
    have hp : ∀ (T : MS) (s : QS), T.2.1 n = s → uniP T u c n = if uniC s u then (s.2.2.1, (T.1, va_up T.2.1 n (uniQ s c), T.2.2)) else (0, T) := by
      intro T s e
      subst e
      rfl
    rw [hp (S.1, (fun q => if q < n ∧ uniC (S.2.1 q) u then uniQ (S.2.1 q) c else S.2.1 q), S.2.2) (S.2.1 n) e]
    by_cases a : uniC (S.2.1 n) u
    · rw [if_pos a, sumQ, if_pos a]
      dsimp only
      congr 2
      congr 1
      funext q
      unfold va_up
      by_cases h1 : q = n
      · subst h1
        rw [if_pos rfl, if_pos ⟨by omega, a⟩]
      · rw [if_neg h1]
        dsimp only
        by_cases h2 : q < n ∧ uniC (S.2.1 q) u
        · rw [if_pos h2, if_pos ⟨by omega, h2.2⟩]
        · rw [if_neg h2, if_neg (fun w => h2 ⟨by omega, w.2⟩)]
    · rw [if_neg a, sumQ, if_neg a]
      dsimp only
      congr 2
      congr 1
      funext q
      by_cases h2 : q < n ∧ uniC (S.2.1 q) u
      · rw [if_pos h2, if_pos ⟨by omega, h2.2⟩]
      · rw [if_neg h2, if_neg (fun w => h2 ⟨?_, w.2⟩)]
        rcases Nat.lt_or_ge q n with x | x
        · exact x
        · have : q = n := by omega
          rw [this] at w
          exact absurd w.2 a
/-- how many of a queue's items are a unit's -/
theorem II.cnt {c : Nat} {s : QS} {l : List Rw} (h : II c s l) {u : Int32} (hu : ¬ u = 0) : l.countP (fun r => decide (r.2.2.1 = u)) = if uniC s u then s.2.2.1 else 0 := by
  obtain ⟨h1, h2, h3, h4, -⟩ := h
  have e : l.countP (fun r => decide (r.2.2.1 = u)) = (l.map (fun r => r.2.2.1)).countP (fun x => decide (x = u)) := by rw [List.countP_map]; rfl
  rw [e, h2, List.countP_append, List.countP_replicate, List.countP_replicate]
  have hz : ¬ (0 : Int32) = u := fun w => hu w.symm
  by_cases a : s.2.2.2.1 = u
  · by_cases b : s.2.2.1 = 0
    · have hn : ¬ uniC s u := fun w => w.1 b
      rw [if_neg hn]; simp [hz, b]
    · have hn : uniC s u := ⟨b, a⟩
      rw [if_pos hn]; simp [hz, a]
  · have hn : ¬ uniC s u := fun w => a w.2
    rw [if_neg hn]; simp [hz, a]
theorem II.no_u {c : Nat} {s : QS} {l : List Rw} (h : II c s l) {u : Int32} (hu : ¬ u = 0) (hn : ¬ uniC s u) : ∀ r ∈ l, ¬ r.2.2.1 = u := by
  have := h.cnt hu
  rw [if_neg hn, List.countP_eq_zero] at this
  intro r hr
  have := this r hr
  simpa using this
/-- the unit's items stand -/
theorem unN_co {u : Int32} {c : Int32} (hc : ¬ c = 0) (hu : ¬ u = 0) : ∀ (k : Nat) (N : NS), (unN N u c k).1 = (itN N k).countP (fun r => decide (r.2.2.1 = u)) ∧ (unN N u c k).2.1 = N.1 ∧ (unN N u c k).2.2.1 = N.2.1 ∧ (∀ a, a ≠ 4 → (unN N u c k).2.2.2.1 a = N.2.2.1 a) ∧ (unN N u c k).2.2.2.2 = N.2.2.2 ∧ ∀ j, (unN N u c k).2.2.2.1 4 j = if j < k ∧ N.2.2.1 4 j = u then 0 else N.2.2.1 4 j := by
  intro k
  induction k with
  | zero => intro N; rw [unN_zero]; exact ⟨rfl, rfl, rfl, fun _ _ => rfl, rfl, fun j => by rw [if_neg (fun w => by omega)]⟩
  | succ k ih =>
    intro N
    rw [itN_succ, List.countP_append]
    by_cases a : N.2.2.1 4 k = u
    · rw [unN_st N u c k a hc]
      obtain ⟨i1, i2, i3, i4, i5, i6⟩ := ih (sI N 4 k 0)
      have hrow : itN (sI N 4 k 0) k = itN N k := by
        unfold itN
        refine List.map_congr_left (fun j hj => ?_)
        have hne : ¬ j = k := by have := List.mem_range.mp hj; omega
        simp [rowN, sI, va_up, hne]
      refine ⟨?_, i2, i3, fun x hx => ?_, i5, fun j => ?_⟩
      · dsimp only
        rw [i1, hrow]
        simp [rowN, a]
      · dsimp only
        rw [i4 x hx]; simp [sI, va_up, hx]
      · dsimp only
        rw [i6 j]
        by_cases h1 : j = k
        · subst h1
          rw [if_neg (fun w => by omega), if_pos ⟨by omega, a⟩]
          simp [sI, va_up]
        · have e : (sI N 4 k 0).2.2.1 4 j = N.2.2.1 4 j := by simp [sI, va_up, h1]
          rw [e]
          by_cases h2 : j < k ∧ N.2.2.1 4 j = u
          · rw [if_pos h2, if_pos ⟨by omega, h2.2⟩]
          · rw [if_neg h2, if_neg (fun w => h2 ⟨by omega, w.2⟩)]
    · rw [unN_no N u c k a]
      obtain ⟨i1, i2, i3, i4, i5, i6⟩ := ih N
      refine ⟨?_, i2, i3, i4, i5, fun j => ?_⟩
      · rw [i1]; simp [rowN, a]
      · rw [i6 j]
        by_cases h2 : j < k ∧ N.2.2.1 4 j = u
        · rw [if_pos h2, if_pos ⟨by omega, h2.2⟩]
        · rw [if_neg h2, if_neg (fun w => h2 ⟨?_, w.2⟩)]
          rcases Nat.lt_or_ge j k with x | x
          · exact x
          · have : j = k := by omega
            rw [this] at w
            exact absurd w.2 a
def clrU (u : Int32) (r : Rw) : Rw := if r.2.2.1 = u then (r.1, r.2.1, 0, r.2.2.2) else r
theorem clrU_1 (u : Int32) (r : Rw) : (clrU u r).1 = r.1 := by unfold clrU; split <;> rfl
theorem clrU_2 (u : Int32) (r : Rw) : (clrU u r).2.1 = r.2.1 := by unfold clrU; split <;> rfl
theorem clrU_4 (u : Int32) (r : Rw) : (clrU u r).2.2.2 = r.2.2.2 := by unfold clrU; split <;> rfl
theorem clrU_3 (u : Int32) (r : Rw) : (clrU u r).2.2.1 = if r.2.2.1 = u then 0 else r.2.2.1 := by unfold clrU; split <;> rfl
theorem fq_map (q : Int32) (f : Rw → Rw) (hf : ∀ r, (f r).1 = r.1) (l : List Rw) : fq q (l.map f) = (fq q l).map f := by
  unfold fq
  rw [List.filter_map]
  congr 2
  funext r
  simp [hf]
theorem co_II {c : Nat} {s : QS} {l : List Rw} {u d : Int32} (h : II c s l) (hu : ¬ u = 0) (hC : uniC s u) (hd : ¬ d = 0) : II c (uniQ s d) (l.map (clrU u)) := by
  obtain ⟨h1, h2, h3, h4, h5, ⟨m, m1, m2, m3⟩, h7, h8⟩ := h
  have n1 : ¬ (d = 0 ∧ s.2.1.length = s.2.2.1) := fun w => hd w.1
  have n2 : ¬ (d = 0 ∧ kTrans s.1) := fun w => hd w.1
  have e : uniQ s d = (s.1, s.2.1, 0, s.2.2.2.1, s.2.2.2.2.1, s.2.2.2.2.2) := by
    unfold uniQ
    rw [if_neg n1, if_neg hd, if_neg n2, if_neg n1]
  rw [e]
  refine ⟨?_, ?_, Nat.zero_le _, fun w => absurd rfl w, h5, ⟨m, m1, m2, fun w => ⟨(m3 w).1, fun j r hj => ?_⟩⟩, h7, h8⟩
  · show _ = s.2.1
    rw [← h1, List.map_map]
    exact List.map_congr_left (fun r _ => clrU_4 u r)
  · show _ = List.replicate (s.2.1.length - 0) 0 ++ List.replicate 0 s.2.2.2.1
    have e1 : (l.map (clrU u)).map (fun r => r.2.2.1) = (l.map (fun r => r.2.2.1)).map (fun x => if x = u then 0 else x) := by
      rw [List.map_map, List.map_map]
      exact List.map_congr_left (fun r _ => clrU_3 u r)
    rw [e1, h2, List.map_append, List.map_replicate, List.map_replicate, if_pos hC.2, if_neg (fun w => hu w.symm), List.replicate_append_replicate]
    rw [List.replicate_zero, List.append_nil]
    congr 1
    omega
  · rw [List.getElem?_map] at hj
    cases hx : l[j]? with
    | none => rw [hx] at hj; cases hj
    | some x =>
      rw [hx] at hj
      cases hj
      rw [clrU_2]
      exact (m3 w).2 j x hx
theorem unit_co {c : Nat} {S : MS} {N : NS} (hR : SR c S N) {u d : Int32} (hd : ¬ d = 0) (hu : ¬ u = 0) : (uniN S u d 32).1 = (unN N u d (N.2.1 0)).1 ∧ SR c (uniN S u d 32).2 (unN N u d (N.2.1 0)).2 := by
  obtain ⟨i1, i2, i3, i4, i5, i6⟩ := unN_co hd hu (N.2.1 0) N
  rw [uniN_eq]
  have hQ := fun q hq => hR.2.1 q hq
  have hit : itL (unN N u d (N.2.1 0)).2 = (itL N).map (clrU u) := by
    unfold itL
    rw [i3]
    unfold itN
    rw [List.map_map]
    refine List.map_congr_left (fun j hj => ?_)
    have hjn := List.mem_range.mp hj
    unfold rowN
    rw [i4 2 (by decide), i4 3 (by decide), i5, i6 j]
    show _ = clrU u (rowN N j)
    unfold clrU rowN
    by_cases a : N.2.2.1 4 j = u
    · rw [if_pos ⟨hjn, a⟩, if_pos a]
    · rw [if_neg (fun w => a w.2), if_neg a]
  refine ⟨?_, ?_⟩
  · show sumQ _ 32 = _
    rw [i1]
    show _ = (itL N).countP _
    rw [← sumQ_fq _ (itL N) (moQ_it.mp hR.2.2.1)]
    exact sumQ_congr 32 (fun q hq => ((hQ q hq).2.2.cnt hu).symm)
  · refine hR.all (fun q hq => ?_) (fun q hq => ?_) i2 (fun a _ => by rw [i3]) (i4 18 (by decide)) (i4 19 (by decide)) (i4 23 (by decide)) (i4 24 (by decide)) (by rw [i5]) (by rw [i5]) ?_ (by rw [i3]; exact hR.itc)
    · show QA c (if q < 32 ∧ uniC (S.2.1 q) u then uniQ (S.2.1 q) d else S.2.1 q) _ q
      obtain ⟨hK, hT, hI⟩ := id (hQ q hq)
      by_cases a : uniC (S.2.1 q) u
      · rw [if_pos ⟨hq, a⟩]
        have n1 : ¬ (d = 0 ∧ (S.2.1 q).2.1.length = (S.2.1 q).2.2.1) := fun w => hd w.1
        have n2 : ¬ (d = 0 ∧ kTrans (S.2.1 q).1) := fun w => hd w.1
        have e : uniQ (S.2.1 q) d = ((S.2.1 q).1, (S.2.1 q).2.1, 0, (S.2.1 q).2.2.2.1, (S.2.1 q).2.2.2.2.1, (S.2.1 q).2.2.2.2.2) := by
          unfold uniQ
          rw [if_neg n1, if_neg hd, if_neg n2, if_neg n1]
        have hII := co_II hI hu a hd
        rw [e] at hII ⊢
        obtain ⟨k1, k2, k3, k4, k5, k6, k7⟩ := hK
        refine ⟨⟨?_, ?_, ?_, ?_, ?_, k6, fun r hr => ?_⟩, ?_, ?_⟩
        · rw [i4 7 (by decide)]; exact k1
        · rw [i4 8 (by decide)]; exact k2
        · rw [i4 12 (by decide)]; exact k3
        · rw [i5]; exact k4
        · rw [i5]; exact k5
        · rw [i4 17 (by decide)]; exact k7 r hr
        · cases ht : qT (S.2.1 q) with
          | none => exact TI.mk_none (by exact ht) (by rw [i4 9 (by decide)]; exact hT.no ht)
          | some t => exact TI.mk_some (by exact ht) (by rw [i4 9 (by decide), i4 10 (by decide), i4 13 (by decide), i4 11 (by decide), i4 14 (by decide)]; exact hT.yes ht)
        · rw [hit, fq_map _ _ (clrU_1 u)]; exact hII
      · rw [if_neg (fun w => a w.2)]
        refine (hQ q hq).congr (by rw [i4 7 (by decide)]) (by rw [i4 8 (by decide)]) (by rw [i4 12 (by decide)]) (by rw [i5]) (by rw [i5]) (fun r _ => by rw [i4 17 (by decide)]) (by rw [i4 9 (by decide)]) (by rw [i4 10 (by decide)]) (by rw [i4 11 (by decide)]) (by rw [i4 13 (by decide)]) (by rw [i4 14 (by decide)]) ?_
        rw [hit, fq_map _ _ (clrU_1 u)]
        have hno := hI.no_u hu a
        conv => rhs; rw [← List.map_id (fq (nI q) (itL N))]
        refine List.map_congr_left (fun r hr => ?_)
        unfold clrU
        rw [if_neg (hno r hr)]
        rfl
    · show wq (if q < 32 ∧ uniC (S.2.1 q) u then uniQ (S.2.1 q) d else S.2.1 q) ≤ _
      by_cases a : uniC (S.2.1 q) u
      · rw [if_pos ⟨hq, a⟩]
        have e : wq (uniQ (S.2.1 q) d) = 0 + stb (qT (S.2.1 q)) (qS (uniQ (S.2.1 q) d)) := rfl
        have := stb_le (qT (S.2.1 q)) (qS (uniQ (S.2.1 q) d))
        have h2 : (S.2.1 q).2.2.1 ≤ wq (S.2.1 q) := by unfold wq; omega
        have h3 := a.1
        omega
      · rw [if_neg (fun w => a w.2)]; exact Nat.le_refl _
    · rw [moQ_it, hit]
      intro r hr
      obtain ⟨x, x1, x2⟩ := List.mem_map.mp hr
      rw [← x2, clrU_1]
      exact moQ_it.mp hR.2.2.1 x x1
