theorem unO_o (N : NS) (q : Nat) : (unO N q).1 = N.1 ∧ (unO N q).2.1 = N.2.1 ∧ (∀ a, a ≠ 8 → (unO N q).2.2.1 a = N.2.2.1 a) ∧ (unO N q).2.2.2 = N.2.2.2 ∧ ∀ j, (unO N q).2.2.1 8 j = if j = q then (if N.2.2.1 7 q ≤ 1 then N.2.2.1 8 q else N.2.2.1 8 q - 1) else N.2.2.1 8 j := by
  refine ⟨rfl, rfl, fun a h => by simp [unO, sI, va_up, h], rfl, fun j => by simp [unO, sI, va_up]⟩
abbrev isU (u : Int32) : Rw → Bool := fun r => decide (r.2.2.1 = u)
abbrev noU (u : Int32) : Rw → Bool := fun r => decide (¬ r.2.2.1 = u)
/-- what a unit that goes back leaves of queue q -/
def unX (N N' : NS) (q d : Nat) : Prop := N'.2.2.1 8 q = (if N.2.2.1 7 q ≤ 1 then N.2.2.1 8 q else N.2.2.1 8 q - nI d) ∧ N'.2.2.1 7 q = (if ¬ d = 0 ∧ fq (nI q) (itL N') = [] then -1 else N.2.2.1 7 q) ∧ ∀ r, r < 8 → N'.2.2.1 17 (8 * q + r) = (if ¬ d = 0 ∧ fq (nI q) (itL N') = [] then 0 else N.2.2.1 17 (8 * q + r))
theorem fq_filter (q : Int32) (p : Rw → Bool) (l : List Rw) : fq q (l.filter p) = (fq q l).filter p := by
  unfold fq
  rw [List.filter_filter, List.filter_filter]
  congr 1
  funext x
  exact Bool.and_comm _ _
theorem i32_sub1 (a : Int32) (n : Nat) : a - 1 - nI n = a - nI (n + 1) := by
  rw [nI_succ, Int32.sub_sub, Int32.add_comm]
theorem unN_va' {u : Int32} : ∀ (k : Nat) (N : NS), moQ N → k ≤ N.2.1 0 → ∀ A B, itL N = A ++ B → A.length = k →
    (unN N u 0 k).1 = A.countP (isU u) ∧ itL (unN N u 0 k).2 = A.filter (noU u) ++ B ∧ (unN N u 0 k).2.1 = N.1 ∧ (∀ a, a ≠ 0 → (unN N u 0 k).2.2.1 a = N.2.1 a) ∧ (∀ a, a ≠ 2 → a ≠ 3 → a ≠ 4 → a ≠ 7 → a ≠ 8 → a ≠ 17 → (unN N u 0 k).2.2.2.1 a = N.2.2.1 a) ∧ (∀ a, a ≠ 5 → (unN N u 0 k).2.2.2.2.1 a = N.2.2.2.1 a) ∧ (unN N u 0 k).2.2.2.2.2 = N.2.2.2.2 ∧ ∀ q, q < 32 → unX N (unN N u 0 k).2 q ((fq (nI q) A).countP (isU u)) := by
  intro k
  induction k with
  | zero =>
    intro N _ _ A B hAB hA
    have : A = [] := List.length_eq_zero_iff.mp hA
    subst this
    rw [unN_zero]
    refine ⟨rfl, hAB, rfl, fun _ _ => rfl, fun _ _ _ _ _ _ _ => rfl, fun _ _ => rfl, rfl, fun q hq => ?_⟩
    have e : (fq (nI q) []).countP (isU u) = 0 := rfl
    rw [e]
    refine ⟨?_, ?_, fun r hr => ?_⟩
    · show N.2.2.1 8 q = if N.2.2.1 7 q ≤ 1 then N.2.2.1 8 q else N.2.2.1 8 q - nI 0
      have : N.2.2.1 8 q - nI 0 = N.2.2.1 8 q := by rw [nI_0]; exact Int32.sub_zero _
      rw [this]; split <;> rfl
    · rw [if_neg (fun w => w.1 rfl)]
    · rw [if_neg (fun w => w.1 rfl)]
  | succ k ih =>
    intro N hM hk A' B hAB hA'
    obtain ⟨A, r, rfl⟩ : ∃ A r, A' = A ++ [r] := by
      refine ⟨A'.dropLast, A'.getLast (by intro e; rw [e] at hA'; cases hA'), ?_⟩
      rw [List.dropLast_concat_getLast]
    have hA : A.length = k := by simpa using hA'
    have hcut : itL N = A ++ r :: B := by rw [hAB]; simp
    obtain ⟨g1, g2, g3⟩ := itL_at hcut
    rw [hA] at g1 g2
    have hr4 : N.2.2.1 4 k = r.2.2.1 := by rw [← g2]; rfl
    have hr2 : N.2.2.1 2 k = r.1 := by rw [← g2]; rfl
    by_cases a : N.2.2.1 4 k = u
    · obtain ⟨q0, hq0, hq0e⟩ := hM k g1
      have hr1 : r.1 = nI q0 := by rw [← hr2]; exact hq0e
      have hru : r.2.2.1 = u := by rw [← hr4]; exact a
      rw [unN_va N u 0 k q0 a rfl hq0e hq0]
      obtain ⟨u1, u2, u3, u4, u5⟩ := unO_o (sI N 4 k 0) q0
      have et : itL (unO (sI N 4 k 0) q0) = A ++ (r.1, r.2.1, 0, r.2.2.2) :: B := by
        refine itL_set hcut (by rw [u2]; rfl) ?_ (fun j hj => ?_)
        · rw [hA, ← g2]
          unfold rowN
          rw [u3 2 (by decide), u3 3 (by decide), u3 4 (by decide), u4]
          simp [sI, va_up]
        · rw [hA] at hj
          unfold rowN
          rw [u3 2 (by decide), u3 3 (by decide), u3 4 (by decide), u4]
          simp [sI, va_up, hj]
      obtain ⟨o1, o2, o3, o4, o5, o6, o7⟩ := remS_o et q0 (by exact hr1)
      have it := itL_remS et q0
      have hn1 : (remS (unO (sI N 4 k 0) q0) A.length q0).2.1 0 = N.2.1 0 - 1 := by rw [remS_it, u2]; rfl
      rw [hA] at o1 o2 o3 o4 o5 o6 o7 it hn1
      have hM1 : moQ (remS (unO (sI N 4 k 0) q0) k q0) := by
        rw [moQ_it, it]
        intro x hx
        have := moQ_it.mp hM
        rw [hcut] at this
        rcases List.mem_append.mp hx with w | w
        · exact this x (List.mem_append_left _ w)
        · exact this x (List.mem_append_right _ (List.mem_cons_of_mem _ w))
      obtain ⟨i1, i2, i3, i4, i5, i6, i7, i8⟩ := ih _ hM1 (by omega) A B it hA
      have e0 : (A ++ [r]).filter (noU u) = A.filter (noU u) := by
        rw [List.filter_append, List.filter_cons_of_neg (by simp [noU, hru])]; simp
      refine ⟨?_, ?_, ?_, fun x hx => ?_, fun x x2 x3 x4 x7 x8 x17 => ?_, fun x x5 => ?_, ?_, fun q hq => ?_⟩
      · dsimp only
        rw [i1, List.countP_append]
        simp [isU, hru]
      · dsimp only
        rw [i2, e0]
      · dsimp only
        rw [i3, o1, u1]; rfl
      · dsimp only
        rw [i4 x hx, o2 x hx, u2]; rfl
      · dsimp only
        rw [i5 x x2 x3 x4 x7 x8 x17, o3 x x2 x3 x4 x7 x17, u3 x x8]
        simp [sI, va_up, x4]
      · dsimp only
        rw [i6 x x5, o4 x x5, u4]; rfl
      · dsimp only
        rw [i7, o5, u4]; rfl
      · dsimp only
        have h7a : (unO (sI N 4 k 0) q0).2.2.1 7 = N.2.2.1 7 := by rw [u3 7 (by decide)]; simp [sI, va_up]
        have h17a : (unO (sI N 4 k 0) q0).2.2.1 17 = N.2.2.1 17 := by rw [u3 17 (by decide)]; simp [sI, va_up]
        have h8a : ∀ j, (unO (sI N 4 k 0) q0).2.2.1 8 j = if j = q0 then (if N.2.2.1 7 q0 ≤ 1 then N.2.2.1 8 q0 else N.2.2.1 8 q0 - 1) else N.2.2.1 8 j := by
          intro j
          rw [u5 j]
          have e1 : (sI N 4 k 0).2.2.1 7 = N.2.2.1 7 := by simp [sI, va_up]
          have e2 : (sI N 4 k 0).2.2.1 8 = N.2.2.1 8 := by simp [sI, va_up]
          rw [e1, e2]
        obtain ⟨x1, x2, x3⟩ := i8 q hq
        rw [o3 8 (by decide) (by decide) (by decide) (by decide) (by decide), h8a q, o6 q, h7a] at x1
        rw [o6 q, h7a] at x2
        have x3' : ∀ r, r < 8 → _ := fun r hr => by
          have := x3 r hr
          rw [o7 (8 * q + r), h17a] at this
          exact this
        rw [fq_app]
        by_cases hqq : q = q0
        · subst hqq
          have ed : (fq (nI q) A ++ fq (nI q) [r]).countP (isU u) = (fq (nI q) A).countP (isU u) + 1 := by
            rw [List.countP_append, fq_yes _ hr1]
            simp [isU, hru, fq]
          rw [ed]
          by_cases he : fq (nI q) (A ++ B) = []
          · have hfA : fq (nI q) A = [] := by rw [fq_app] at he; exact (List.append_eq_nil_iff.mp he).1
            have hd0 : (fq (nI q) A).countP (isU u) = 0 := by rw [hfA]; rfl
            have hfe : fq (nI q) (itL (unN (remS (unO (sI N 4 k 0) q) k q) u 0 k).2) = [] := by
              rw [i2, fq_app, fq_filter, hfA]
              rw [fq_app] at he
              exact (List.append_eq_nil_iff.mp he).2
            rw [hd0] at x1 x2 ⊢
            rw [if_pos (show q = q from rfl), if_pos (show q = q ∧ fq (nI q) (A ++ B) = [] from ⟨rfl, he⟩), if_pos (show (-1 : Int32) ≤ 1 by decide)] at x1
            refine ⟨?_, ?_, fun r hr => ?_⟩
            · exact x1
            · rw [x2, if_neg (fun w => w.1 rfl), if_pos ⟨rfl, he⟩, if_pos ⟨by omega, hfe⟩]
            · rw [x3' r hr, hd0, if_neg (fun w => w.1 rfl), if_pos ⟨by omega, he⟩, if_pos ⟨by omega, hfe⟩]
          · rw [if_pos (show q = q from rfl), if_neg (show ¬ (q = q ∧ fq (nI q) (A ++ B) = []) from fun w => he w.2)] at x1
            rw [if_neg (fun w : q = q ∧ _ => he w.2)] at x2
            have hcond : (¬ (fq (nI q) A).countP (isU u) = 0 ∧ fq (nI q) (itL (unN (remS (unO (sI N 4 k 0) q) k q) u 0 k).2) = []) ↔ (¬ (fq (nI q) A).countP (isU u) + 1 = 0 ∧ fq (nI q) (itL (unN (remS (unO (sI N 4 k 0) q) k q) u 0 k).2) = []) := by
              refine ⟨fun w => ⟨by omega, w.2⟩, fun w => ⟨fun w0 => he ?_, w.2⟩⟩
              have w2 := w.2
              rw [i2, fq_app, fq_filter] at w2
              rw [List.countP_eq_zero] at w0
              rw [List.filter_eq_self.mpr (fun x hx => by have := w0 x hx; simpa [isU, noU] using this)] at w2
              rw [fq_app]; exact w2
            refine ⟨?_, ?_, fun r hr => ?_⟩
            · rw [x1]
              by_cases h7 : N.2.2.1 7 q ≤ 1
              · rw [if_pos h7, if_pos h7, if_pos h7]
              · rw [if_neg h7, if_neg h7, if_neg h7, i32_sub1]
            · rw [x2]
              by_cases w : ¬ (fq (nI q) A).countP (isU u) = 0 ∧ fq (nI q) (itL (unN (remS (unO (sI N 4 k 0) q) k q) u 0 k).2) = []
              · rw [if_pos w, if_pos (hcond.mp w)]
              · rw [if_neg w, if_neg (fun z => w (hcond.mpr z))]
            · rw [x3' r hr, if_neg (fun w : (8 * q ≤ 8 * q + r ∧ 8 * q + r < 8 * q + 8) ∧ _ => he w.2)]
              by_cases w : ¬ (fq (nI q) A).countP (isU u) = 0 ∧ fq (nI q) (itL (unN (remS (unO (sI N 4 k 0) q) k q) u 0 k).2) = []
              · rw [if_pos w, if_pos (hcond.mp w)]
              · rw [if_neg w, if_neg (fun z => w (hcond.mpr z))]
        · have hqn : ¬ r.1 = nI q := by rw [hr1, nI_eq (by omega) (by omega)]; omega
          have ed : fq (nI q) A ++ fq (nI q) [r] = fq (nI q) A := by rw [fq_no _ hqn]; exact List.append_nil _
          rw [ed]
          rw [if_neg hqq, if_neg (show ¬ (q = q0 ∧ fq (nI q0) (A ++ B) = []) from fun w => hqq w.1)] at x1
          rw [if_neg (fun w : q = q0 ∧ _ => hqq w.1)] at x2
          refine ⟨x1, x2, fun r hr => ?_⟩
          rw [x3' r hr, if_neg (fun w : (8 * q0 ≤ 8 * q + r ∧ 8 * q + r < 8 * q0 + 8) ∧ _ => by omega)]
    · rw [unN_no N u 0 k a]
      have hcut2 : itL N = A ++ ([r] ++ B) := hcut
      obtain ⟨i1, i2, i3, i4, i5, i6, i7, i8⟩ := ih N hM (by omega) A ([r] ++ B) hcut2 hA
      have hru : ¬ r.2.2.1 = u := by rw [← hr4]; exact a
      refine ⟨?_, ?_, i3, i4, i5, i6, i7, fun q hq => ?_⟩
      · rw [i1, List.countP_append]; simp [isU, hru]
      · rw [i2, List.filter_append, List.filter_cons_of_pos (by simp [noU, hru])]; simp
      · have := i8 q hq
        have ed : (fq (nI q) (A ++ [r])).countP (isU u) = (fq (nI q) A).countP (isU u) := by
          rw [fq_app, List.countP_append]
          by_cases hq1 : r.1 = nI q
          · rw [fq_yes _ hq1]; simp [isU, hru, fq]
          · rw [fq_no _ hq1]; simp [fq]
        rw [ed]; exact this
