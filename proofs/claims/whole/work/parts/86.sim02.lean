theorem shI_row (N : NS) (i j : Nat) : rowN (shI N i) j = if j = i then rowN N (i + 1) else rowN N j := by
  by_cases h : j = i
  · subst h; simp [shI, rowN, sI, sL, va_up]
  · simp [shI, rowN, sI, sL, va_up, h]
theorem shR_row (N : NS) (k : Nat) : ∀ c j, rowN (shR N k c) j = if k ≤ j ∧ j < k + c then rowN N (j + 1) else rowN N j := by
  intro c
  induction c with
  | zero => intro j; rw [if_neg (by omega)]; rfl
  | succ c ih =>
    intro j
    rw [shR, shI_row, ih, ih]
    by_cases h : j = k + c
    · rw [if_pos h, if_neg (by omega), if_pos (by omega), h]
    · rw [if_neg h]
      by_cases h2 : k ≤ j ∧ j < k + c
      · rw [if_pos h2, if_pos (by omega)]
      · rw [if_neg h2, if_neg (by omega)]
theorem sN_row (N : NS) (k v j : Nat) : rowN (sN N k v) j = rowN N j := rfl
theorem itL_rem {N : NS} {A B : List Rw} {r : Rw} (h : itL N = A ++ r :: B) : itL (remN N A.length) = A ++ B := by
  obtain ⟨g1, g2, g3⟩ := itL_at h
  have hn : N.2.1 0 = A.length + (B.length + 1) := by rw [← itL_len, h]; simp
  apply List.ext_getElem?
  intro j
  unfold itL
  rw [itN_get, remN_it]
  have hr : rowN (remN N A.length) j = if A.length ≤ j ∧ j < N.2.1 0 - 1 then rowN N (j + 1) else rowN N j := by
    unfold remN
    rw [shR_row, sN_row, sN_row]
    by_cases h1 : A.length ≤ j ∧ j < N.2.1 0 - 1
    · rw [if_pos h1, if_pos (by omega)]
    · rw [if_neg h1, if_neg (by omega)]
  have hg : ∀ i, (A ++ r :: B)[i]? = if i < N.2.1 0 then some (rowN N i) else none := by
    intro i
    rw [← h]
    exact itN_get N _ i
  by_cases h1 : j < N.2.1 0 - 1
  · rw [if_pos h1, hr]
    by_cases h2 : A.length ≤ j
    · rw [if_pos ⟨h2, h1⟩]
      have := hg (j + 1)
      rw [if_pos (by omega)] at this
      rw [← this, List.getElem?_append_right (by omega), List.getElem?_append_right h2]
      have e : j + 1 - A.length = (j - A.length) + 1 := by omega
      rw [e]
      rfl
    · rw [if_neg (fun e => h2 e.1)]
      have := hg j
      rw [if_pos (by omega)] at this
      rw [← this, List.getElem?_append_left (by omega), List.getElem?_append_left (by omega)]
  · rw [if_neg h1, List.getElem?_eq_none (by simp; omega)]
theorem emR_row (N : NS) (q j : Nat) : ∀ r, rowN (emR N q r) j = rowN N j
  | 0 => rfl
  | r + 1 => emR_row N q j r
theorem emS_row (N : NS) (q j : Nat) : rowN (emS N q) j = rowN N j := by
  unfold emS
  rw [emR_row]
  rfl
theorem itN_congr {N N' : NS} (h : ∀ j, rowN N' j = rowN N j) (n : Nat) : itN N' n = itN N n := by
  unfold itN
  exact List.map_congr_left (fun j _ => h j)
theorem itL_congr {N N' : NS} (h : ∀ j, rowN N' j = rowN N j) (h0 : N'.2.1 0 = N.2.1 0) : itL N' = itL N := by
  unfold itL
  rw [h0, itN_congr h]
theorem emS_nn (N : NS) (q : Nat) : (emS N q).2.1 = N.2.1 := by unfold emS; rw [emR_nn]; rfl
theorem itL_remS {N : NS} {A B : List Rw} {r : Rw} (h : itL N = A ++ r :: B) (q : Nat) : itL (remS N A.length q) = A ++ B := by
  rw [← itL_rem h]
  unfold remS
  split
  · exact itL_congr (emS_row _ q) (by rw [emS_nn])
  · rfl
/-- what a removal keeps beside the items -/
theorem shR_o (N : NS) (k : Nat) : ∀ c, (shR N k c).1 = N.1 ∧ (∀ a, a ≠ 2 → a ≠ 3 → a ≠ 4 → (shR N k c).2.2.1 a = N.2.2.1 a) ∧ (∀ a, a ≠ 5 → (shR N k c).2.2.2.1 a = N.2.2.2.1 a) ∧ (shR N k c).2.2.2.2 = N.2.2.2.2
  | 0 => ⟨rfl, fun _ _ _ _ => rfl, fun _ _ => rfl, rfl⟩
  | c + 1 => by
    obtain ⟨h1, h2, h3, h4⟩ := shR_o N k c
    refine ⟨h1, fun a a2 a3 a4 => ?_, fun a a5 => ?_, h4⟩
    · rw [← h2 a a2 a3 a4]; simp [shR, shI, sI, sL, va_up, a2, a3, a4]
    · rw [← h3 a a5]; simp [shR, shI, sI, sL, va_up, a5]
theorem remN_o (N : NS) (k : Nat) : (remN N k).1 = N.1 ∧ (∀ a, a ≠ 0 → (remN N k).2.1 a = N.2.1 a) ∧ (∀ a, a ≠ 2 → a ≠ 3 → a ≠ 4 → (remN N k).2.2.1 a = N.2.2.1 a) ∧ (∀ a, a ≠ 5 → (remN N k).2.2.2.1 a = N.2.2.2.1 a) ∧ (remN N k).2.2.2.2 = N.2.2.2.2 := by
  obtain ⟨h1, h2, h3, h4⟩ := shR_o (sN N 0 (N.2.1 0 - 1)) k (N.2.1 0 - 1 - k)
  refine ⟨h1, fun a a0 => ?_, h2, h3, h4⟩
  unfold remN
  rw [shR_nn]
  simp [sN, va_up, a0]
theorem emR_o (N : NS) (q : Nat) : ∀ r, (emR N q r).1 = N.1 ∧ (∀ a, a ≠ 17 → (emR N q r).2.2.1 a = N.2.2.1 a) ∧ (emR N q r).2.2.2 = N.2.2.2 ∧ ∀ j, (emR N q r).2.2.1 17 j = if 8 * q ≤ j ∧ j < 8 * q + r then 0 else N.2.2.1 17 j
  | 0 => ⟨rfl, fun _ _ => rfl, rfl, fun j => by rw [if_neg (by omega)]; rfl⟩
  | r + 1 => by
    obtain ⟨h1, h2, h3, h4⟩ := emR_o N q r
    refine ⟨h1, fun a a2 => ?_, h3, fun j => ?_⟩
    · rw [← h2 a a2]; simp [emR, sI, va_up, a2]
    · have e : (emR N q (r + 1)).2.2.1 17 j = if j = 8 * q + r then 0 else (emR N q r).2.2.1 17 j := by simp [emR, sI, va_up]
      rw [e, h4]
      by_cases h : j = 8 * q + r
      · rw [if_pos h, if_pos (by omega)]
      · rw [if_neg h]
        by_cases h2 : 8 * q ≤ j ∧ j < 8 * q + r
        · rw [if_pos h2, if_pos (by omega)]
        · rw [if_neg h2, if_neg (by omega)]
theorem emS_o (N : NS) (q : Nat) : (emS N q).1 = N.1 ∧ (∀ a, a ≠ 17 → a ≠ 7 → (emS N q).2.2.1 a = N.2.2.1 a) ∧ (∀ j, (emS N q).2.2.1 7 j = if j = q then -1 else N.2.2.1 7 j) ∧ (emS N q).2.2.2 = N.2.2.2 ∧ ∀ j, (emS N q).2.2.1 17 j = if 8 * q ≤ j ∧ j < 8 * q + 8 then 0 else N.2.2.1 17 j := by
  obtain ⟨h1, h2, h3, h4⟩ := emR_o (sI N 7 q (-1)) q 8
  refine ⟨h1, fun a a1 a2 => ?_, fun j => ?_, h3, fun j => ?_⟩
  · unfold emS; rw [h2 a a1]; simp [sI, va_up, a2]
  · unfold emS; rw [h2 7 (by decide)]; simp [sI, va_up]
  · unfold emS; rw [h4]; simp [sI, va_up]
/-- a removal, whole: q's items go on or it becomes empty -/
theorem remS_o {N : NS} {A B : List Rw} {r : Rw} (h : itL N = A ++ r :: B) (q : Nat) (hq : r.1 = nI q) : (remS N A.length q).1 = N.1 ∧ (∀ a, a ≠ 0 → (remS N A.length q).2.1 a = N.2.1 a) ∧ (∀ a, a ≠ 2 → a ≠ 3 → a ≠ 4 → a ≠ 7 → a ≠ 17 → (remS N A.length q).2.2.1 a = N.2.2.1 a) ∧ (∀ a, a ≠ 5 → (remS N A.length q).2.2.2.1 a = N.2.2.2.1 a) ∧ (remS N A.length q).2.2.2.2 = N.2.2.2.2 ∧ (∀ j, (remS N A.length q).2.2.1 7 j = if j = q ∧ fq (nI q) (A ++ B) = [] then -1 else N.2.2.1 7 j) ∧ (∀ j, (remS N A.length q).2.2.1 17 j = if (8 * q ≤ j ∧ j < 8 * q + 8) ∧ fq (nI q) (A ++ B) = [] then 0 else N.2.2.1 17 j) := by
  obtain ⟨h1, h2, h3, h4, h5⟩ := remN_o N A.length
  have hm : mnN (remN N A.length) (nI q) (N.2.1 0 - 1) = (fq (nI q) (A ++ B)).length := by
    rw [← itL_rem h, itL, remN_it, mnN_F]
  unfold remS
  by_cases he : fq (nI q) (A ++ B) = []
  · rw [if_pos (by rw [hm, he]; rfl)]
    obtain ⟨e1, e2, e3, e4, e5⟩ := emS_o (remN N A.length) q
    refine ⟨e1.trans h1, fun a a0 => ?_, fun a a2 a3 a4 a7 a17 => ?_, fun a a5 => ?_, ?_, fun j => ?_, fun j => ?_⟩
    · rw [emS_nn]; exact h2 a a0
    · rw [e2 a a17 a7]; exact h3 a a2 a3 a4
    · rw [e4]; exact h4 a a5
    · rw [e4]; exact h5
    · rw [e3, h3 7 (by decide) (by decide) (by decide)]; simp [he]
    · rw [e5, h3 17 (by decide) (by decide) (by decide)]; simp [he]
  · rw [if_neg (by rw [hm]; exact fun e => he (List.length_eq_zero_iff.mp e))]
    refine ⟨h1, h2, fun a a2 a3 a4 a7 a17 => h3 a a2 a3 a4, h4, h5, fun j => ?_, fun j => ?_⟩
    · rw [h3 7 (by decide) (by decide) (by decide), if_neg (fun e => he e.2)]
    · rw [h3 17 (by decide) (by decide) (by decide), if_neg (fun e => he e.2)]
/-- one row changed -/
theorem itL_set {N N' : NS} {A B : List Rw} {r r' : Rw} (h : itL N = A ++ r :: B) (h0 : N'.2.1 0 = N.2.1 0) (hr : rowN N' A.length = r') (ho : ∀ j, j ≠ A.length → rowN N' j = rowN N j) : itL N' = A ++ r' :: B := by
  have hn : N.2.1 0 = A.length + (B.length + 1) := by rw [← itL_len, h]; simp
  apply List.ext_getElem?
  intro j
  have hg : ∀ i, (A ++ r :: B)[i]? = if i < N.2.1 0 then some (rowN N i) else none := by
    intro i
    rw [← h]
    exact itN_get N _ i
  unfold itL
  rw [itN_get, h0]
  by_cases hj : j = A.length
  · rw [hj, hr, if_pos (by omega), List.getElem?_append_right (Nat.le_refl _)]; simp
  · rw [ho j hj]
    have := hg j
    by_cases h2 : j < A.length
    · rw [← this, List.getElem?_append_left h2, List.getElem?_append_left h2]
    · rw [← this, List.getElem?_append_right (by omega), List.getElem?_append_right (by omega)]
      have e : j - A.length = (j - A.length - 1) + 1 := by omega
      rw [e]
      rfl
/-- one row more -/
theorem itL_push {N N' : NS} (h0 : N'.2.1 0 = N.2.1 0 + 1) (ho : ∀ j, j ≠ N.2.1 0 → rowN N' j = rowN N j) : itL N' = itL N ++ [rowN N' (N.2.1 0)] := by
  unfold itL
  rw [h0, itN_succ]
  congr 1
  unfold itN
  exact List.map_congr_left (fun j hj => ho j (by have := List.mem_range.mp hj; omega))
/-- sums over the queues -/
def sumQ (f : Nat → Nat) : Nat → Nat
  | 0 => 0
  | n + 1 => sumQ f n + f n
theorem sumQ_congr {f f' : Nat → Nat} : ∀ n, (∀ i, i < n → f i = f' i) → sumQ f n = sumQ f' n
  | 0, _ => rfl
  | n + 1, h => by rw [sumQ, sumQ, sumQ_congr n (fun i hi => h i (by omega)), h n (by omega)]
theorem sumQ_add (f f' : Nat → Nat) : ∀ n, sumQ (fun i => f i + f' i) n = sumQ f n + sumQ f' n
  | 0 => rfl
  | n + 1 => by rw [sumQ, sumQ, sumQ, sumQ_add f f' n]; omega
theorem sumQ_le {f f' : Nat → Nat} : ∀ n, (∀ i, i < n → f i ≤ f' i) → sumQ f n ≤ sumQ f' n
  | 0, _ => Nat.le_refl _
  | n + 1, h => by
    have := sumQ_le n (fun i hi => h i (by omega))
    have := h n (by omega)
    rw [sumQ, sumQ]; omega
theorem sumQ_one (f : Nat → Nat) : ∀ n i, i < n → f i ≤ sumQ f n
  | 0, i, h => by omega
  | n + 1, i, h => by
    rw [sumQ]
    by_cases e : i = n
    · rw [e]; omega
    · have := sumQ_one f n i (by omega); omega
theorem sumQ_up (f : Nat → Nat) (i v : Nat) : ∀ n, i < n → sumQ (fun j => if j = i then v else f j) n + f i = sumQ f n + v
  | 0, h => by omega
  | n + 1, h => by
    rw [sumQ, sumQ]
    by_cases e : i = n
    · subst e
      rw [if_pos rfl, sumQ_congr i (f' := f) (fun j hj => by rw [if_neg (by omega)])]
      omega
    · have := sumQ_up f i v n (by omega)
      rw [if_neg (by omega)]
      omega
theorem sumQ_fq (p : Rw → Bool) : ∀ (l : List Rw), (∀ r ∈ l, ∃ q : Nat, q < 32 ∧ r.1 = nI q) → sumQ (fun q => (fq (nI q) l).countP p) 32 = l.countP p
  | [], _ => by
    have : ∀ n, sumQ (fun q => (fq (nI q) []).countP p) n = 0 := by
      intro n
      induction n with
      | zero => rfl
      | succ n ih => rw [sumQ, ih]; rfl
    exact this 32
  | r :: l, h => by
    have ih := sumQ_fq p l (fun x hx => h x (List.mem_cons_of_mem _ hx))
    obtain ⟨q, hq, hr⟩ := h r (List.mem_cons_self ..)
    have e : sumQ (fun i => (fq (nI i) (r :: l)).countP p) 32 = sumQ (fun i => if i = q then (r :: fq (nI q) l).countP p else (fq (nI i) l).countP p) 32 := by
      refine sumQ_congr 32 (fun i hi => ?_)
      by_cases hiq : i = q
      · subst hiq; rw [if_pos rfl, fq_yes _ hr]
      · rw [if_neg hiq, fq_no _ (by rw [hr, nI_eq (by omega) (by omega)]; omega)]
    have := sumQ_up (fun i => (fq (nI i) l).countP p) q ((r :: fq (nI q) l).countP p) 32 hq
    rw [e]
    rw [List.countP_cons] at this ⊢
    rw [List.countP_cons]
    omega
theorem countP_true (l : List Rw) : l.countP (fun _ => true) = l.length := by simp
theorem moQ_it {N : NS} : moQ N ↔ ∀ r ∈ itL N, ∃ q : Nat, q < 32 ∧ r.1 = nI q := by
  constructor
  · intro h r hr
    obtain ⟨k, hk, rfl⟩ := List.mem_map.mp hr
    exact h k (List.mem_range.mp hk)
  · intro h k hk
    exact h (rowN N k) (List.mem_map.mpr ⟨k, List.mem_range.mpr hk, rfl⟩)
