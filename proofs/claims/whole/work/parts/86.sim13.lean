theorem va_cut {c : Nat} {s : QS} {l : List Rw} {u : Int32} (h : II c s l) (hu : ¬ u = 0) (hC : uniC s u) : l.filter (noU u) = l.take (s.2.1.length - s.2.2.1) ∧ (l.take (s.2.1.length - s.2.2.1)).map (fun r => r.2.2.1) = List.replicate (s.2.1.length - s.2.2.1) 0 := by
  obtain ⟨h1, h2, h3, -⟩ := h
  rw [hC.2] at h2
  have e1 : (l.take (s.2.1.length - s.2.2.1)).map (fun r => r.2.2.1) = List.replicate (s.2.1.length - s.2.2.1) 0 := by
    rw [List.map_take, h2, List.take_append_of_le_length (by simp), List.take_of_length_le (by simp)]
  have e2 : (l.drop (s.2.1.length - s.2.2.1)).map (fun r => r.2.2.1) = List.replicate s.2.2.1 u := by
    rw [List.map_drop, h2, List.drop_append_of_le_length (by simp), List.drop_of_length_le (by simp)]
    rfl
  refine ⟨?_, e1⟩
  conv => lhs; rw [← List.take_append_drop (s.2.1.length - s.2.2.1) l]
  rw [List.filter_append, List.filter_eq_self.mpr (fun x hx => ?_), List.filter_eq_nil_iff.mpr (fun x hx => ?_), List.append_nil]
  · have : x.2.2.1 ∈ List.replicate s.2.2.1 u := by rw [← e2]; exact List.mem_map_of_mem (f := fun r : Rw => r.2.2.1) hx
    have := List.eq_of_mem_replicate this
    simp [noU, this]
  · have : x.2.2.1 ∈ List.replicate (s.2.1.length - s.2.2.1) 0 := by rw [← e1]; exact List.mem_map_of_mem (f := fun r : Rw => r.2.2.1) hx
    have := List.eq_of_mem_replicate this
    simp only [noU, this, decide_eq_true_eq]
    exact fun w => hu w.symm
theorem va_II {c : Nat} {s : QS} {l : List Rw} {u : Int32} (h : II c s l) (hu : ¬ u = 0) (hC : uniC s u) : II c (uniQ s 0) (l.filter (noU u)) ∧ (l.filter (noU u) = [] ↔ s.2.1.length = s.2.2.1) := by
  obtain ⟨e1, e2⟩ := va_cut h hu hC
  have hln := h.len
  have hst : s.2.1.length - s.2.2.1 ≤ s.2.1.length := Nat.sub_le _ _
  obtain ⟨h1, h2, h3, h4, h5, ⟨m, m1, m2, m3⟩, h7, h8⟩ := h
  rw [e1]
  have hemp : l.take (s.2.1.length - s.2.2.1) = [] ↔ s.2.1.length = s.2.2.1 := by
    rw [← List.length_eq_zero_iff, List.length_take]; omega
  have tl : (s.2.1.take (s.2.1.length - s.2.2.1)).length = s.2.1.length - s.2.2.1 := by rw [List.length_take]; omega
  have e : uniQ s 0 = ((if s.2.1.length = s.2.2.1 then -1 else s.1), s.2.1.take (s.2.1.length - s.2.2.1), 0, s.2.2.2.1, s.2.2.2.2.1, (if kTrans s.1 then s.2.2.2.2.2.1 - nI s.2.2.1 else s.2.2.2.2.2.1), s.2.2.2.2.2.2.1, s.2.2.2.2.2.2.2.1, s.2.2.2.2.2.2.2.2.1, (if s.2.1.length = s.2.2.1 then List.replicate 8 0 else s.2.2.2.2.2.2.2.2.2)) := by
    unfold uniQ
    simp
  rw [e]
  refine ⟨⟨?_, ?_, Nat.zero_le _, fun w => absurd rfl w, ?_, ?_, h7, fun p hp => ?_⟩, hemp⟩
  · show _ = s.2.1.take _
    rw [List.map_take, h1]
  · show _ = List.replicate ((s.2.1.take (s.2.1.length - s.2.2.1)).length - 0) 0 ++ List.replicate 0 s.2.2.2.1
    rw [e2, tl]
    simp
  · show ((if s.2.1.length = s.2.2.1 then -1 else s.1) = -1 ∧ s.2.1.take (s.2.1.length - s.2.2.1) = []) ∨ (((if s.2.1.length = s.2.2.1 then -1 else s.1) = 0 ∨ (if s.2.1.length = s.2.2.1 then -1 else s.1) = 1 ∨ (if s.2.1.length = s.2.2.1 then -1 else s.1) = 2 ∨ (if s.2.1.length = s.2.2.1 then -1 else s.1) = 3) ∧ s.2.1.take (s.2.1.length - s.2.2.1) ≠ [])
    by_cases a : s.2.1.length = s.2.2.1
    · rw [if_pos a]
      exact Or.inl ⟨rfl, List.length_eq_zero_iff.mp (by rw [tl]; omega)⟩
    · rw [if_neg a]
      have hne : s.2.1.take (s.2.1.length - s.2.2.1) ≠ [] := by
        intro w
        have := List.length_eq_zero_iff.mpr w
        rw [tl] at this
        omega
      rcases h5 with ⟨-, x⟩ | ⟨x, -⟩
      · exfalso; rw [x] at h3 a; simp at h3; exact a (by rw [h3]; rfl)
      · exact Or.inr ⟨x, hne⟩
  · show ∃ m, (if kTrans s.1 then s.2.2.2.2.2.1 - nI s.2.2.1 else s.2.2.2.2.2.1) = nI m ∧ m ≤ c ∧ (kTrans (if s.2.1.length = s.2.2.1 then -1 else s.1) → (s.2.1.take (s.2.1.length - s.2.2.1)).length ≤ m ∧ ∀ (j : Nat) (r : Rw), (l.take (s.2.1.length - s.2.2.1))[j]? = some r → r.2.1 = nI (m - (s.2.1.take (s.2.1.length - s.2.2.1)).length + j + 1))
    rw [tl]
    by_cases a : kTrans s.1
    · rw [if_pos a]
      obtain ⟨x1, x2⟩ := m3 a
      refine ⟨m - s.2.2.1, by rw [m1, nI_sub (by omega)], by omega, fun _ => ⟨by omega, fun j r hj => ?_⟩⟩
      have hj2 : l[j]? = some r := by
        rw [List.getElem?_take] at hj
        split at hj
        · exact hj
        · cases hj
      rw [x2 j r hj2]
      congr 1
      omega
    · rw [if_neg a]
      refine ⟨m, m1, m2, fun w => ?_⟩
      split at w
      · exact absurd w (by decide)
      · exact absurd w a
  · have hp' : p ∈ (if s.2.1.length = s.2.2.1 then List.replicate 8 0 else qP s) := hp
    by_cases a : s.2.1.length = s.2.2.1
    · rw [if_pos a] at hp'
      exact ⟨0, Nat.zero_le _, List.eq_of_mem_replicate hp'⟩
    · rw [if_neg a] at hp'
      exact h8 p hp'
theorem unit_va {c : Nat} {S : MS} {N : NS} (hR : SR c S N) {u : Int32} (hu : ¬ u = 0) : (uniN S u 0 32).1 = (unN N u 0 (N.2.1 0)).1 ∧ SR c (uniN S u 0 32).2 (unN N u 0 (N.2.1 0)).2 := by
  obtain ⟨i1, i2, i3, i4, i5, i6, i7, i8⟩ := unN_va' (u := u) (N.2.1 0) N hR.2.2.1 (Nat.le_refl _) (itL N) [] (by simp) (itL_len N)
  rw [List.append_nil] at i2
  have hn : (unN N u 0 (N.2.1 0)).2.2.1 0 ≤ N.2.1 0 := (unN_nn u 0 _ N).1
  generalize hN' : unN N u 0 (N.2.1 0) = R at *
  rw [uniN_eq]
  have hQ := fun q hq => hR.2.1 q hq
  refine ⟨?_, ?_⟩
  · show sumQ _ 32 = _
    rw [i1, ← sumQ_fq _ (itL N) (moQ_it.mp hR.2.2.1)]
    exact sumQ_congr 32 (fun q hq => ((hQ q hq).2.2.cnt hu).symm)
  · refine hR.all (fun q hq => ?_) (fun q hq => ?_) i3 i4 (i5 18 (by decide) (by decide) (by decide) (by decide) (by decide) (by decide)) (i5 19 (by decide) (by decide) (by decide) (by decide) (by decide) (by decide)) (i5 23 (by decide) (by decide) (by decide) (by decide) (by decide) (by decide)) (i5 24 (by decide) (by decide) (by decide) (by decide) (by decide) (by decide)) (i6 25 (by decide)) i7 ?_ ?_
    · show QA c (if q < 32 ∧ uniC (S.2.1 q) u then uniQ (S.2.1 q) 0 else S.2.1 q) _ q
      obtain ⟨hK, hT, hI⟩ := id (hQ q hq)
      obtain ⟨x1, x2, x3⟩ := i8 q hq
      rw [hI.cnt hu] at x1 x2 x3
      have hfq : fq (nI q) (itL R.2) = (fq (nI q) (itL N)).filter (noU u) := by rw [i2, fq_filter]
      have cc := fun a x2 x3 x4 x7 x8 x17 => congrFun (i5 a x2 x3 x4 x7 x8 x17) q
      by_cases a : uniC (S.2.1 q) u
      · rw [if_pos ⟨hq, a⟩]
        obtain ⟨v1, v2⟩ := va_II hI hu a
        rw [if_pos a] at x1 x2 x3
        rw [hfq] at x2 x3
        have hcond : (¬ (S.2.1 q).2.2.1 = 0 ∧ (fq (nI q) (itL N)).filter (noU u) = []) ↔ (S.2.1 q).2.1.length = (S.2.1 q).2.2.1 := ⟨fun w => v2.mp w.2, fun w => ⟨a.1, v2.mpr w⟩⟩
        obtain ⟨k1, k2, k3, k4, k5, k6, k7⟩ := hK
        refine ⟨⟨?_, ?_, ?_, ?_, ?_, ?_, fun r hr => ?_⟩, ?_, ?_⟩
        · show _ = if (0 : Int32) = 0 ∧ (S.2.1 q).2.1.length = (S.2.1 q).2.2.1 then -1 else (S.2.1 q).1
          rw [x2, k1]
          by_cases w : (S.2.1 q).2.1.length = (S.2.1 q).2.2.1
          · rw [if_pos (hcond.mpr w), if_pos ⟨rfl, w⟩]
          · rw [if_neg (fun z => w (hcond.mp z)), if_neg (fun z => w z.2)]
        · show _ = if (0 : Int32) = 0 ∧ kTrans (S.2.1 q).1 then (S.2.1 q).2.2.2.2.2.1 - nI (S.2.1 q).2.2.1 else (S.2.1 q).2.2.2.2.2.1
          rw [x1, k1, k2]
          by_cases w : (S.2.1 q).1 ≤ 1
          · rw [if_pos w, if_neg (fun z => hI.trans.mp z.2 w)]
          · rw [if_neg w, if_pos ⟨rfl, hI.trans.mpr w⟩]
        · exact (cc 12 (by decide) (by decide) (by decide) (by decide) (by decide) (by decide)).trans k3
        · rw [i6 15 (by decide)]; exact k4
        · rw [i6 16 (by decide)]; exact k5
        · show (if (0 : Int32) = 0 ∧ (S.2.1 q).2.1.length = (S.2.1 q).2.2.1 then List.replicate 8 0 else qP (S.2.1 q)).length = 8
          split
          · rfl
          · exact k6
        · show _ = (if (0 : Int32) = 0 ∧ (S.2.1 q).2.1.length = (S.2.1 q).2.2.1 then List.replicate 8 0 else qP (S.2.1 q)).getD r 0
          rw [x3 r hr, k7 r hr]
          by_cases w : (S.2.1 q).2.1.length = (S.2.1 q).2.2.1
          · rw [if_pos (hcond.mpr w), if_pos ⟨rfl, w⟩, List.getD_eq_getElem?_getD, List.getElem?_replicate, if_pos hr]
            rfl
          · rw [if_neg (fun z => w (hcond.mp z)), if_neg (fun z => w z.2)]
        · cases ht : qT (S.2.1 q) with
          | none => exact TI.mk_none (by exact ht) ((cc 9 (by decide) (by decide) (by decide) (by decide) (by decide) (by decide)).trans (hT.no ht))
          | some t =>
            obtain ⟨t1, t2, t3, t4, t5, t6, t7, t8⟩ := hT.yes ht
            refine TI.mk_some (by exact ht) ⟨?_, (cc 9 (by decide) (by decide) (by decide) (by decide) (by decide) (by decide)).trans t2, t3, (cc 10 (by decide) (by decide) (by decide) (by decide) (by decide) (by decide)).trans t4, (cc 13 (by decide) (by decide) (by decide) (by decide) (by decide) (by decide)).trans t5, t6, (cc 11 (by decide) (by decide) (by decide) (by decide) (by decide) (by decide)).trans t7, fun w => (cc 14 (by decide) (by decide) (by decide) (by decide) (by decide) (by decide)).trans (t8 w)⟩
            show ¬ kTemp (if (0 : Int32) = 0 ∧ (S.2.1 q).2.1.length = (S.2.1 q).2.2.1 then -1 else (S.2.1 q).1)
            split
            · decide
            · exact t1
        · rw [hfq]; exact v1
      · rw [if_neg (fun w => a w.2)]
        rw [if_neg a] at x1 x2 x3
        have e0 : N.2.2.1 8 q - nI 0 = N.2.2.1 8 q := by rw [nI_0]; exact Int32.sub_zero _
        refine (hQ q hq).congr ?_ ?_ (cc 12 (by decide) (by decide) (by decide) (by decide) (by decide) (by decide)) (by rw [i6 15 (by decide)]) (by rw [i6 16 (by decide)]) (fun r hr => ?_) (cc 9 (by decide) (by decide) (by decide) (by decide) (by decide) (by decide)) (cc 10 (by decide) (by decide) (by decide) (by decide) (by decide) (by decide)) (cc 11 (by decide) (by decide) (by decide) (by decide) (by decide) (by decide)) (cc 13 (by decide) (by decide) (by decide) (by decide) (by decide) (by decide)) (cc 14 (by decide) (by decide) (by decide) (by decide) (by decide) (by decide)) ?_
        · rw [x2, if_neg (fun w => w.1 rfl)]
        · rw [x1, e0]; split <;> rfl
        · rw [x3 r hr, if_neg (fun w => w.1 rfl)]
        · rw [hfq]
          have hno := hI.no_u hu a
          exact List.filter_eq_self.mpr (fun r hr => by simpa [noU] using hno r hr)
    · show wq (if q < 32 ∧ uniC (S.2.1 q) u then uniQ (S.2.1 q) 0 else S.2.1 q) ≤ _
      by_cases a : uniC (S.2.1 q) u
      · rw [if_pos ⟨hq, a⟩]
        have e : wq (uniQ (S.2.1 q) 0) = 0 + stb (qT (S.2.1 q)) (nI (((S.2.1 q).2.1.take ((S.2.1 q).2.1.length - (S.2.1 q).2.2.1)).length - 0)) := rfl
        have tl : ((S.2.1 q).2.1.take ((S.2.1 q).2.1.length - (S.2.1 q).2.2.1)).length = (S.2.1 q).2.1.length - (S.2.1 q).2.2.1 := by rw [List.length_take]; omega
        rw [e, tl, Nat.sub_zero]
        show _ ≤ (S.2.1 q).2.2.1 + stb (qT (S.2.1 q)) (nI ((S.2.1 q).2.1.length - (S.2.1 q).2.2.1))
        omega
      · rw [if_neg (fun w => a w.2)]; exact Nat.le_refl _
    · rw [moQ_it, i2]
      intro r hr
      exact moQ_it.mp hR.2.2.1 r (List.mem_filter.mp hr).1
    · have := hR.itc
      omega
theorem unit_sim {c : Nat} {S : MS} {N : NS} (h : SI c S N) (u d : Int32) : (uniI S u d).1 = (unM N u d).1 ∧ SI (c + 1) (uniI S u d).2 (ansS (unM N u d).2) := by
  have e : (u ≤ 0 ∨ 9 < u) ↔ (u < 1 ∨ 9 < u) := by
    have : u ≤ 0 ↔ u < 1 := by
      rw [Int32.le_iff_toInt_le, Int32.lt_iff_toInt_lt]
      have e1 : (0 : Int32).toInt = 0 := rfl
      have e2 : (1 : Int32).toInt = 1 := rfl
      omega
    rw [this]
  unfold uniI unM
  by_cases a : u ≤ 0 ∨ 9 < u
  · rw [if_pos a, if_pos (e.mp a)]
    exact ⟨rfl, h.keep⟩
  rw [if_neg a, if_neg (fun w => a (e.mpr w))]
  have hu : ¬ u = 0 := fun w => a (Or.inl (by rw [w]; decide))
  have key : (uniN S u d 32).1 = (unN N u d (N.2.1 0)).1 ∧ SR c (uniN S u d 32).2 (unN N u d (N.2.1 0)).2 := by
    by_cases b : d = 0
    · subst b; exact unit_va h.1 hu
    · exact unit_co h.1 b hu
  refine ⟨by rw [key.1], ?_⟩
  dsimp only
  exact (key.2.mono (Nat.le_succ c)).look
/-! AGE. -/
theorem agL_spec (q : Nat) (hq : q < 32) : ∀ (d : Nat) (N : NS), (fq (nI q) (itL N)).length ≤ d → N.2.1 0 < 2 ^ 30 → itL (agL N q d) = (itL N).filter (fun r => decide (¬ r.1 = nI q)) ∧ (agL N q d).1 = N.1 ∧ (∀ a, a ≠ 0 → (agL N q d).2.1 a = N.2.1 a) ∧ (∀ a, a ≠ 2 → a ≠ 3 → a ≠ 4 → a ≠ 7 → a ≠ 17 → (agL N q d).2.2.1 a = N.2.2.1 a) ∧ (∀ a, a ≠ 5 → (agL N q d).2.2.2.1 a = N.2.2.2.1 a) ∧ (agL N q d).2.2.2.2 = N.2.2.2.2 ∧ (∀ j, j ≠ q → (agL N q d).2.2.1 7 j = N.2.2.1 7 j) ∧ (∀ j, ¬ (8 * q ≤ j ∧ j < 8 * q + 8) → (agL N q d).2.2.1 17 j = N.2.2.1 17 j) ∧ (fq (nI q) (itL N) = [] → agL N q d = N) ∧ (fq (nI q) (itL N) ≠ [] → (agL N q d).2.2.1 7 q = -1 ∧ ∀ r, r < 8 → (agL N q d).2.2.1 17 (8 * q + r) = 0) := by
  intro d
  have nil : ∀ N : NS, fq (nI q) (itL N) = [] → itL N = (itL N).filter (fun r => decide (¬ r.1 = nI q)) := by
    intro N h
    refine (List.filter_eq_self.mpr (fun r hr => ?_)).symm
    have := List.filter_eq_nil_iff.mp h r hr
    simpa using this
  induction d with
  | zero =>
    intro N h _
    have h0 : fq (nI q) (itL N) = [] := List.length_eq_zero_iff.mp (by omega)
    rw [agL_zero]
    exact ⟨nil N h0, rfl, fun _ _ => rfl, fun _ _ _ _ _ _ => rfl, fun _ _ => rfl, rfl, fun _ _ => rfl, fun _ _ => rfl, fun _ => rfl, fun w => absurd h0 w⟩
  | succ d ih =>
    intro N h hb
    by_cases h0 : fq (nI q) (itL N) = []
    · have hp : plI N (nI q) 1 = none := plI_out hb (Or.inr (by rw [h0]; decide))
      rw [agL_none N q d hp]
      exact ⟨nil N h0, rfl, fun _ _ => rfl, fun _ _ _ _ _ _ => rfl, fun _ _ => rfl, rfl, fun _ _ => rfl, fun _ _ => rfl, fun _ => rfl, fun w => absurd h0 w⟩
    · obtain ⟨A, r, B, e1, e2, e3, e4⟩ := plI_at (N := N) (q := nI q) (j := 0) hb (List.length_pos_iff.mpr h0)
      have e4' : plI N (nI q) 1 = some A.length := e4
      rw [agL_some N q d e4']
      obtain ⟨o1, o2, o3, o4, o5, o6, o7⟩ := remS_o e1 q e2
      have it := itL_remS e1 q
      have hl : (fq (nI q) (A ++ B)).length + 1 = (fq (nI q) (itL N)).length := by
        rw [e1, fq_app, fq_app, fq_yes _ e2]
        simp only [List.length_append, List.length_cons]
        omega
      obtain ⟨i1, i2, i3, i4, i5, i6, i7, i8, i9, i10⟩ := ih (remS N A.length q) (by rw [it]; omega) (by rw [remS_it]; omega)
      rw [it] at i1 i9 i10
      refine ⟨?_, i2.trans o1, fun a ha => (i3 a ha).trans (o2 a ha), fun a a2 a3 a4 a7 a17 => (i4 a a2 a3 a4 a7 a17).trans (o3 a a2 a3 a4 a7 a17), fun a ha => (i5 a ha).trans (o4 a ha), i6.trans o5, fun j hj => ?_, fun j hj => ?_, fun w => absurd w h0, fun _ => ?_⟩
      · rw [i1, e1, List.filter_append, List.filter_append, List.filter_cons_of_neg (by simp [e2])]
      · rw [i7 j hj, o6 j, if_neg (fun w => hj w.1)]
      · rw [i8 j hj, o7 j, if_neg (fun w => hj w.1)]
      · by_cases he : fq (nI q) (A ++ B) = []
        · rw [i9 he]
          refine ⟨by rw [o6 q, if_pos ⟨rfl, he⟩], fun x hx => by rw [o7, if_pos ⟨by omega, he⟩]⟩
        · exact i10 he
theorem age_step {c : Nat} {S : MS} {N : NS} (h : SR c S N) (hs : Stl S) (hc : c < 600) (b : Int64) {q : Nat} (hq : q < 32) : (ageP S b q).1 = (agP N b q).1 ∧ SR c (ageP S b q).2 (agP N b q).2 ∧ Stl (ageP S b q).2 := by
  obtain ⟨hK, hT, hI⟩ := id (h.2.1 q hq)
  obtain ⟨k1, k2, k3, k4, k5, k6, k7⟩ := id hK
  have hcond : ageC (S.2.1 q) b ↔ agK N b q := by
    unfold ageC agK
    rw [k1, k4, h.lk hq, hI.temp]
    have : (if (S.2.1 q).2.2.1 = 0 then 0 else (S.2.1 q).2.2.2.1) = 0 ↔ (S.2.1 q).2.2.1 = 0 := by
      by_cases w : (S.2.1 q).2.2.1 = 0
      · rw [if_pos w]; exact ⟨fun _ => w, fun _ => rfl⟩
      · rw [if_neg w]
        refine ⟨fun z => ?_, fun z => absurd z w⟩
        exact absurd (by rw [z]; decide) (hI.2.2.2.1 w).1
    rw [this]
    exact ⟨fun w => ⟨w.1, w.2.2, w.2.1⟩, fun w => ⟨w.1, w.2.2, w.2.1⟩⟩
  unfold ageP agP
  by_cases a : ageC (S.2.1 q) b
  rotate_left
  · rw [if_neg a, if_neg (fun w => a (hcond.mpr w))]
    exact ⟨rfl, h, hs⟩
  rw [if_pos a, if_pos (hcond.mp a)]
  have hitc := h.itc
  have hfl : (fq (nI q) (itL N)).length ≤ N.2.1 0 := by
    rw [← itL_len]; exact List.length_filter_le _ _
  obtain ⟨i1, i2, i3, i4, i5, i6, i7, i8, i9, i10⟩ := agL_spec q hq (N.2.1 0) N hfl (by omega)
  have htn : qT (S.2.1 q) = none := by
    cases ht : qT (S.2.1 q) with
    | none => rfl
    | some t => exact absurd a.1 (hT.yes ht).1
  have hne : fq (nI q) (itL N) ≠ [] := by
    intro w
    have hl := hI.len
    rw [w] at hl
    rcases hI.2.2.2.2.1 with ⟨x, -⟩ | ⟨-, x⟩
    · exact a.1.1 x
    · exact x (List.length_eq_zero_iff.mp hl.symm)
  obtain ⟨j1, j2⟩ := i10 hne
  have hself : fq (nI q) ((itL N).filter (fun r => decide (¬ r.1 = nI q))) = [] := by
    unfold fq
    rw [List.filter_filter]
    refine List.filter_eq_nil_iff.mpr (fun r _ => ?_)
    simp
  refine ⟨rfl, ?_, fun x hx => ?_⟩
  · refine h.upQ hq (Nat.le_refl c) ?_ ?_ (by rw [i2]) (by rw [i2]) (by rw [i2]) (i3 1 (by decide)) (i3 2 (by decide)) (i4 18 (by decide) (by decide) (by decide) (by decide) (by decide)) (i4 19 (by decide) (by decide) (by decide) (by decide) (by decide)) (i4 23 (by decide) (by decide) (by decide) (by decide) (by decide)) (i4 24 (by decide) (by decide) (by decide) (by decide) (by decide)) (i5 25 (by decide)) i6 ?_ ?_ ?_
    · obtain ⟨h1, h2, h3, h4, h5, ⟨m, m1, m2, m3⟩, h7, h8⟩ := hI
      refine ⟨⟨j1, ?_, ?_, ?_, ?_, rfl, fun r hr => ?_⟩, ?_, ?_⟩
      · rw [i4 8 (by decide) (by decide) (by decide) (by decide) (by decide)]; exact k2
      · rw [i4 12 (by decide) (by decide) (by decide) (by decide) (by decide)]; exact k3
      · rw [i5 15 (by decide)]; exact k4
      · rw [i5 16 (by decide)]; exact k5
      · rw [j2 r hr]
        show _ = (List.replicate 8 0).getD r 0
        rw [List.getD_eq_getElem?_getD, List.getElem?_replicate, if_pos hr]
        rfl
      · refine TI.mk_none (by exact htn) ?_
        rw [i4 9 (by decide) (by decide) (by decide) (by decide) (by decide)]
        exact hT.no htn
      · rw [i1, hself]
        have hp0 : (S.2.1 q).2.2.1 = 0 := a.2.1
        refine ⟨rfl, ?_, ?_, fun w => absurd hp0 w, Or.inl ⟨rfl, rfl⟩, ⟨m, m1, m2, fun w => absurd (show kTrans (-1) from w) (by decide)⟩, h7, fun p hp => ⟨0, Nat.zero_le _, List.eq_of_mem_replicate hp⟩⟩
        · show [] = List.replicate (0 - (S.2.1 q).2.2.1) 0 ++ List.replicate (S.2.1 q).2.2.1 (S.2.1 q).2.2.2.1
          rw [hp0]; rfl
        · show (S.2.1 q).2.2.1 ≤ 0
          omega
    · intro x hx hxq
      refine (h.2.1 x hx).congr (i7 x hxq) ?_ ?_ (by rw [i5 15 (by decide)]) (by rw [i5 16 (by decide)]) (fun r hr => i8 _ (by omega)) ?_ ?_ ?_ ?_ ?_ ?_
      · rw [i4 8 (by decide) (by decide) (by decide) (by decide) (by decide)]
      · rw [i4 12 (by decide) (by decide) (by decide) (by decide) (by decide)]
      · rw [i4 9 (by decide) (by decide) (by decide) (by decide) (by decide)]
      · rw [i4 10 (by decide) (by decide) (by decide) (by decide) (by decide)]
      · rw [i4 11 (by decide) (by decide) (by decide) (by decide) (by decide)]
      · rw [i4 13 (by decide) (by decide) (by decide) (by decide) (by decide)]
      · rw [i4 14 (by decide) (by decide) (by decide) (by decide) (by decide)]
      · rw [i1, fq_filter]
        refine List.filter_eq_self.mpr (fun r hr => ?_)
        have : r.1 = nI x := by simpa [fq] using (List.mem_filter.mp hr).2
        simp only [this, decide_eq_true_eq]
        rw [nI_eq (by omega) (by omega)]
        exact hxq
    · rw [moQ_it, i1]
      intro r hr
      exact moQ_it.mp h.2.2.1 r (List.mem_filter.mp hr).1
    · have e : wq (ageQ (S.2.1 q)) = (S.2.1 q).2.2.1 + stb (qT (S.2.1 q)) (qS (ageQ (S.2.1 q))) := rfl
      rw [e, htn, a.2.1]
      show 0 + 0 + c ≤ _
      omega
    · have : (agL N q (N.2.1 0)).2.1 0 ≤ N.2.1 0 := (agL_keep q _ N h.2.2.1).2.1
      exact Nat.le_trans this hitc
  · show sed (va_up S.2.1 q (ageQ (S.2.1 q)) x)
    by_cases w : x = q
    · subst w
      rw [va_up_self]
      intro t ht
      have : qT (S.2.1 x) = some t := ht
      rw [htn] at this
      cases this
    · rw [va_up_ne _ _ w]; exact hs x hx
theorem age_loop {c : Nat} {S : MS} {N : NS} (h : SR c S N) (hs : Stl S) (hc : c < 600) (b : Int64) : ∀ n, n ≤ 32 → (ageN S b n).1 = (agM N b n).1 ∧ SR c (ageN S b n).2 (agM N b n).2 ∧ Stl (ageN S b n).2
  | 0, _ => by rw [ageN_zero, agM_zero]; exact ⟨rfl, h, hs⟩
  | n + 1, hn => by
    obtain ⟨i1, i2, i3⟩ := age_loop h hs hc b n (by omega)
    obtain ⟨j1, j2, j3⟩ := age_step i2 i3 hc b (q := n) (by omega)
    rw [ageN_succ, agM_succ]
    exact ⟨by dsimp only; rw [i1, j1], j2, j3⟩
theorem age_sim {c : Nat} {S : MS} {N : NS} (h : SI c S N) (hc : c < 600) (b : Int64) : (ageI S b).1 = nI (agM N b 32).1 ∧ SI (c + 1) (ageI S b).2 (ansS (agM N b 32).2) := by
  obtain ⟨i1, i2, i3⟩ := age_loop h.1 h.2 hc b 32 (Nat.le_refl _)
  unfold ageI
  exact ⟨by dsimp only; rw [i1], (i2.mono (Nat.le_succ c)).keep i3⟩
/-! HOW MANY TASKS AT MOST. -/
theorem lookI_up (S : MS) (i : Nat) : (lookI S i).2.2.1.length ≤ S.2.2.1.length + 1 := by
  cases ht : qT (S.2.1 i) with
  | none => rw [lookI_none ht]; omega
  | some t =>
    rw [lookI_some ht]
    generalize (lookT t (qS (S.2.1 i)) S.2.2.1.length).2 = o
    show (S.2.2.1 ++ o.toList.map (fun c => (c, 1))).length ≤ _
    cases o <;> simp
theorem lookN_up (S : MS) : ∀ n, (lookN S n).2.2.1.length ≤ S.2.2.1.length + n
  | 0 => Nat.le_refl _
  | n + 1 => by
    have := lookN_up S n
    have := lookI_up (lookN S n) n
    rw [lookN]
    omega
theorem agN_up (S : MS) (e : Int32) : ∀ d, (agN S e d).2.2.2.1.length ≤ S.2.2.1.length + 1
  | 0 => by rw [agN]; exact Nat.le_succ _
  | d + 1 => by
    rw [agN]
    split
    · exact agN_up S e d
    · split
      · unfold agT
        split
        · simp [addT]
        · show S.2.2.1.length ≤ _
          omega
      · exact agN_up S e d
theorem pdN_sum : ∀ (f : Nat) (S : MS), (pdN S f).2.2.2.1.length + (pdN S f).2.2.2.2.2.1.length = S.2.2.1.length + S.2.2.2.2.1.length := by
  intro f
  induction f with
  | zero => intro S; rfl
  | succ f ih =>
    intro S
    cases hd : S.2.2.2.2.1 with
    | nil => rw [pdN_nil f hd]; dsimp only; rw [hd]
    | cons d ds =>
      by_cases h2 : S.2.2.2.2.2.2 < d.2.2
      · rw [pdN_no f hd h2]; dsimp only; rw [hd]
      · rw [pdN_yes f hd h2]
        dsimp only
        rw [ih]
        show (S.2.2.1 ++ [(d.2.1, 1)]).length + ds.length = _
        simp
        omega
theorem SI.bd {c : Nat} {S : MS} {N : NS} (h : SI c S N) (hc : c ≤ 512) : (∀ q, q < 32 → (S.2.1 q).2.1.length ≤ 600) ∧ S.2.2.1.length ≤ 600 ∧ (∀ i k v u, (lookN (putS S i k v u) 32).2.2.1.length ≤ 600) ∧ (∀ i n d, (lookN (triS S i n d) 32).2.2.1.length ≤ 600) ∧ (∀ i, (lookN (takS S i) 32).2.2.1.length ≤ 600) ∧ (∀ t, (lookN (agN (endS S (t - 1).toNatClampNeg) t 32).2 32).2.2.1.length ≤ 600) ∧ (∀ t, (pdN (ticS S t) 200).2.2.2.1.length ≤ 600) ∧ (∀ d u, (pdN (delS S d u) 200).2.2.2.1.length ≤ 600) ∧ (∀ u d, (lookN (uniN S u d 32).2 32).2.2.1.length ≤ 600) := by
  have ht := h.1.tasks
  refine ⟨fun q hq => Nat.le_trans (h.1.len hq) (by omega), by omega, fun i k v u => ?_, fun i n d => ?_, fun i => ?_, fun t => ?_, fun t => ?_, fun d u => ?_, fun u d => ?_⟩
  · have := lookN_up (putS S i k v u) 32
    have e : (putS S i k v u).2.2.1 = S.2.2.1 := rfl
    rw [e] at this
    omega
  · have := lookN_up (triS S i n d) 32
    have e : (triS S i n d).2.2.1 = S.2.2.1 := rfl
    rw [e] at this
    omega
  · have := lookN_up (takS S i) 32
    have e : (takS S i).2.2.1 = S.2.2.1 := rfl
    rw [e] at this
    omega
  · have := lookN_up (agN (endS S (t - 1).toNatClampNeg) t 32).2 32
    have := agN_up (endS S (t - 1).toNatClampNeg) t 32
    have e : (endS S (t - 1).toNatClampNeg).2.2.1.length = S.2.2.1.length := List.length_set
    omega
  · have := pdN_sum 200 (ticS S t)
    have e : (ticS S t).2.2.1.length + (ticS S t).2.2.2.2.1.length = S.2.2.1.length + S.2.2.2.2.1.length := rfl
    omega
  · have := pdN_sum 200 (delS S d u)
    have e : (delS S d u).2.2.1.length = S.2.2.1.length := rfl
    have e2 : (delS S d u).2.2.2.2.1.length = S.2.2.2.2.1.length + 1 := by
      show (insD S.2.2.2.2.1 (S.2.2.2.2.2.1 + 1, d, u)).length = _
      unfold insD
      have := kwN_le S.2.2.2.2.1 u S.2.2.2.2.1.length
      simp
      omega
    omega
  · have := lookN_up (uniN S u d 32).2 32
    have e : (uniN S u d 32).2.2.2.1 = S.2.2.1 := by rw [uniN_eq]
    rw [e] at this
    omega
theorem SI.bdN {c : Nat} {S : MS} {N : NS} (h : SI c S N) (hc : c ≤ 512) : N.2.1 0 < 1100 ∧ N.2.1 1 + 33 ≤ 4000 ∧ N.2.1 1 + N.2.1 2 + 32 ≤ 4000 ∧ N.2.1 2 ≤ 200 ∧ moQ N := by
  have ht := h.1.tasks
  have := h.1.itc
  have e := h.1.2.2.2.1.1
  have e2 := h.1.2.2.2.2.1.2.1
  exact ⟨by omega, by omega, by omega, e2, h.1.2.2.1⟩
/-! THE BEGINNING. -/
theorem kdR_o (N : NS) : ∀ n, (kdR N n).1 = N.1 ∧ (kdR N n).2.1 = N.2.1 ∧ (∀ a, a ≠ 7 → (kdR N n).2.2.1 a = N.2.2.1 a) ∧ (kdR N n).2.2.2 = N.2.2.2 ∧ ∀ j, (kdR N n).2.2.1 7 j = if j < n then -1 else N.2.2.1 7 j
  | 0 => ⟨rfl, rfl, fun _ _ => rfl, rfl, fun j => by rw [if_neg (by omega)]; rfl⟩
  | n + 1 => by
    obtain ⟨h1, h2, h3, h4, h5⟩ := kdR_o N n
    refine ⟨h1, h2, fun a ha => ?_, h4, fun j => ?_⟩
    · rw [← h3 a ha]; simp [kdR, sI, va_up, ha]
    · have e : (kdR N (n + 1)).2.2.1 7 j = if j = n then -1 else (kdR N n).2.2.1 7 j := by simp [kdR, sI, va_up]
      rw [e, h5 j]
      by_cases a : j = n
      · rw [if_pos a, if_pos (by omega)]
      · rw [if_neg a]
        by_cases b : j < n
        · rw [if_pos b, if_pos (by omega)]
        · rw [if_neg b, if_neg (by omega)]
theorem room_eq (r : Int32) : roomS r = roomM r := by
  have e1 : (1 : Int32).toInt = 1 := rfl
  have e2 : (4096 : Int32).toInt = 4096 := rfl
  unfold roomS roomM
  by_cases a : 4096 < r
  · have hn : ¬ r < 1 := by
      rw [Int32.lt_iff_toInt_lt] at a ⊢
      omega
    rw [if_pos a, if_pos (show (1 : Int32) < 4096 by decide), if_neg hn]
  · rw [if_neg a]
    by_cases b : r < 1
    · have hn : ¬ 1 < r := by
        rw [Int32.lt_iff_toInt_lt] at b ⊢
        omega
      rw [if_pos b, if_neg hn]
    · rw [if_neg b]
      by_cases d : 1 < r
      · rw [if_pos d]
      · rw [if_neg d]
        rw [Int32.lt_iff_toInt_lt] at b d
        exact Int32.toInt_inj.mp (by omega)
theorem init_sim (r : Int32) : SI 0 (iniS r) (inN r) := by
  obtain ⟨h1, h2, h3, h4, h5⟩ := kdR_o (inN0 (roomM r)) 32
  have hit : itL (inN r) = [] := List.length_eq_zero_iff.mp (by rw [itL_len]; unfold inN; rw [h2]; rfl)
  have hdl : dlL (inN r) = [] := List.length_eq_zero_iff.mp (by rw [dlL_len]; unfold inN; rw [h2]; rfl)
  have cz : ∀ a j, a ≠ 7 → (inN r).2.2.1 a j = 0 := by
    intro a j ha
    unfold inN
    rw [h3 a ha]
    rfl
  have lz : ∀ a j, (inN r).2.2.2.1 a j = 0 := by
    intro a j
    unfold inN
    rw [h4]
    rfl
  refine ⟨⟨?_, fun q hq => ⟨⟨?_, cz 8 q (by decide), cz 12 q (by decide), lz 15 q, lz 16 q, rfl, fun x hx => ?_⟩, TI.mk_none rfl (cz 9 q (by decide)), ?_⟩, ?_, ⟨?_, fun j x hx => (by cases hx), ?_⟩, ⟨?_, ?_, ?_, ⟨0, ?_, Nat.le_refl _, ?_⟩, ?_, ?_⟩, ?_, ?_, ?_⟩, fun q hq t ht => by cases ht⟩
  · show roomS r = _
    unfold inN
    rw [h1, room_eq]
    rfl
  · show _ = -1
    unfold inN
    rw [h5 q, if_pos hq]
  · show _ = (List.replicate 8 (0 : Int32)).getD x 0
    rw [cz 17 _ (by decide), List.getD_eq_getElem?_getD, List.getElem?_replicate, if_pos hx]
    rfl
  · rw [hit]
    exact ⟨rfl, rfl, Nat.le_refl _, fun w => absurd rfl w, Or.inl ⟨rfl, rfl⟩, ⟨0, rfl, Nat.le_refl _, fun w => absurd (show kTrans (-1) from w) (by decide)⟩, ⟨0, rfl, Nat.le_refl _⟩, fun p hp => ⟨0, Nat.le_refl _, List.eq_of_mem_replicate hp⟩⟩
  · rw [moQ_it, hit]
    intro x hx
    cases hx
  · unfold inN; rw [h2]; rfl
  · show (0 : Int32) = _
    unfold inN; rw [h1]; rfl
  · rw [hdl]; rfl
  · unfold inN; rw [h2]; exact Nat.zero_le _
  · show (0 : Int32) = _
    unfold inN; rw [h1]; rfl
  · unfold inN; rw [h1]; rfl
  · rw [hdl]; intro x hx; cases hx
  · rw [hdl]; exact List.nodup_nil
  · rw [hdl]; intro x hx; cases hx
  · show (0 : Int64) = _
    unfold inN; rw [h4]; rfl
  · have : ∀ n, sumQ (fun q => wq ((iniS r).2.1 q)) n = 0 := by
      intro n
      induction n with
      | zero => rfl
      | succ n ih => rw [sumQ, ih]; rfl
    unfold Psi
    rw [this]
    exact Nat.le_refl _
  · unfold inN; rw [h2]; exact Nat.zero_le _
