/-! THE REFERENCE'S ITEMS AS A LIST: queue, number, unit, value. -/
abbrev Rw : Type := Int32 × Int32 × Int32 × Int64
def rowN (N : NS) (k : Nat) : Rw := (N.2.2.1 2 k, N.2.2.1 3 k, N.2.2.1 4 k, N.2.2.2.1 5 k)
def itN (N : NS) (n : Nat) : List Rw := (List.range n).map (rowN N)
def itL (N : NS) : List Rw := itN N (N.2.1 0)
def fq (q : Int32) (l : List Rw) : List Rw := l.filter (fun r => decide (r.1 = q))
theorem fq_app (q : Int32) (a b : List Rw) : fq q (a ++ b) = fq q a ++ fq q b := List.filter_append ..
theorem fq_yes {q : Int32} {r : Rw} (b : List Rw) (h : r.1 = q) : fq q (r :: b) = r :: fq q b := by simp [fq, h]
theorem fq_no {q : Int32} {r : Rw} (b : List Rw) (h : ¬ r.1 = q) : fq q (r :: b) = fq q b := by simp [fq, h]
theorem itN_succ (N : NS) (n : Nat) : itN N (n + 1) = itN N n ++ [rowN N n] := by simp [itN, List.range_succ]
theorem itN_len (N : NS) (n : Nat) : (itN N n).length = n := by simp [itN]
theorem itL_len (N : NS) : (itL N).length = N.2.1 0 := itN_len N _
theorem itN_get (N : NS) (n j : Nat) : (itN N n)[j]? = if j < n then some (rowN N j) else none := by
  unfold itN
  by_cases h : j < n
  · rw [if_pos h, List.getElem?_map, List.getElem?_range h]; rfl
  · rw [if_neg h, List.getElem?_eq_none (by simp; omega)]
theorem mnN_F (N : NS) (q : Int32) : ∀ n, mnN N q n = (fq q (itN N n)).length
  | 0 => rfl
  | n + 1 => by
    rw [itN_succ, fq_app, List.length_append, mnN, mnN_F N q n]
    by_cases h : N.2.2.1 2 n = q
    · rw [if_pos h, fq_yes _ (by exact h)]; rfl
    · rw [if_neg h, fq_no _ (by exact h)]; rfl
theorem stN_F (N : NS) (q : Int32) : ∀ n, stN N q n = (fq q (itN N n)).countP (fun r => decide (r.2.2.1 = 0))
  | 0 => rfl
  | n + 1 => by
    rw [itN_succ, fq_app, List.countP_append, stN, stN_F N q n]
    by_cases h : N.2.2.1 2 n = q
    · rw [fq_yes _ (by exact h)]
      by_cases h2 : N.2.2.1 4 n = 0
      · rw [if_pos ⟨h, h2⟩]; simp [rowN, h2, fq]
      · rw [if_neg (fun e => h2 e.2)]; simp [rowN, h2, fq]
    · rw [if_neg (fun e => h e.1), fq_no _ (by exact h)]; rfl
def lkL (l : List Rw) : Int32 := l.foldl (fun a r => if ¬ r.2.2.1 ≤ 0 then r.2.2.1 else a) 0
theorem lkN_F (N : NS) (q : Int32) : ∀ n, lkN N q n = lkL (fq q (itN N n))
  | 0 => rfl
  | n + 1 => by
    rw [itN_succ, fq_app, lkL, List.foldl_append, ← lkL, ← lkN_F N q n, lkN]
    by_cases h : N.2.2.1 2 n = q
    · rw [fq_yes _ (by exact h)]
      by_cases h2 : ¬ N.2.2.1 4 n ≤ 0
      · rw [if_pos ⟨h, h2⟩]; simp [rowN, h2, fq]
      · rw [if_neg (fun e => h2 e.2)]; exact (if_neg h2).symm
    · rw [if_neg (fun e => h e.1), fq_no _ (by exact h)]; rfl
/-- the list, cut at a place -/
theorem itL_cut (N : NS) {k : Nat} (h : k < N.2.1 0) : ∃ B, itL N = itN N k ++ rowN N k :: B := by
  refine ⟨(itL N).drop (k + 1), ?_⟩
  have h1 : (itL N)[k]? = some (rowN N k) := by unfold itL; rw [itN_get, if_pos h]
  have h2 : (itL N).take k = itN N k := by
    unfold itL itN
    rw [← List.map_take, List.take_range, Nat.min_eq_left (Nat.le_of_lt h)]
  have hl : k < (itL N).length := by rw [itL_len]; exact h
  rw [← h2]
  conv => lhs; rw [← List.take_append_drop k (itL N), List.drop_eq_getElem_cons hl]
  rw [List.getElem?_eq_getElem hl] at h1
  rw [Option.some.inj h1]
theorem itL_at {N : NS} {A B : List Rw} {r : Rw} (h : itL N = A ++ r :: B) : A.length < N.2.1 0 ∧ rowN N A.length = r ∧ itN N A.length = A := by
  have h0 : A.length < N.2.1 0 := by rw [← itL_len, h]; simp
  obtain ⟨B', hB⟩ := itL_cut N h0
  rw [hB] at h
  have := List.append_inj h (itN_len _ _)
  exact ⟨h0, (List.cons.inj this.2).1, this.1⟩
/-- the j-th item of a queue stands somewhere -/
theorem fq_cut (q : Int32) : ∀ (L : List Rw) (j : Nat), j < (fq q L).length → ∃ A r B, L = A ++ r :: B ∧ r.1 = q ∧ (fq q A).length = j
  | [], j, h => by simp [fq] at h
  | r :: L, j, h => by
    by_cases hr : r.1 = q
    · cases j with
      | zero => exact ⟨[], r, L, rfl, hr, rfl⟩
      | succ j =>
        rw [fq_yes _ hr] at h
        obtain ⟨A, r', B, e, e2, e3⟩ := fq_cut q L j (by simpa using h)
        exact ⟨r :: A, r', B, by rw [e]; rfl, e2, by rw [fq_yes _ hr]; simp [e3]⟩
    · rw [fq_no _ hr] at h
      obtain ⟨A, r', B, e, e2, e3⟩ := fq_cut q L j h
      exact ⟨r :: A, r', B, by rw [e]; rfl, e2, by rw [fq_no _ hr]; exact e3⟩
theorem plN_s (N : NS) (q i : Int32) : ∀ d k k', plN N q i d k (mnN N q k) = some k' → k ≤ k' ∧ k' < k + d ∧ N.2.2.1 2 k' = q ∧ nI (mnN N q k' + 1) = i := by
  intro d
  induction d with
  | zero => intro k k' h; cases h
  | succ d ih =>
    intro k k' h
    unfold plN at h
    split at h
    · rename_i hq
      split at h
      · rename_i hi
        cases h
        exact ⟨Nat.le_refl _, by omega, hq, hi⟩
      · have e : mnN N q k + 1 = mnN N q (k + 1) := by rw [mnN, if_pos hq]
        rw [e] at h
        have := ih _ _ h
        exact ⟨by omega, by omega, this.2.2⟩
    · rename_i hq
      have e : mnN N q k = mnN N q (k + 1) := by rw [mnN, if_neg hq]; rfl
      rw [e] at h
      have := ih _ _ h
      exact ⟨by omega, by omega, this.2.2⟩
theorem plN_n (N : NS) (q i : Int32) : ∀ d k, plN N q i d k (mnN N q k) = none → ∀ k', k ≤ k' → k' < k + d → N.2.2.1 2 k' = q → ¬ nI (mnN N q k' + 1) = i := by
  intro d
  induction d with
  | zero => intro k _ k' h1 h2; omega
  | succ d ih =>
    intro k h k' h1 h2 h3
    unfold plN at h
    split at h
    · rename_i hq
      split at h
      · cases h
      · rename_i hi
        have e : mnN N q k + 1 = mnN N q (k + 1) := by rw [mnN, if_pos hq]
        rw [e] at h
        by_cases hk : k' = k
        · rw [hk]; exact hi
        · exact ih _ h k' (by omega) (by omega) h3
    · rename_i hq
      have e : mnN N q k = mnN N q (k + 1) := by rw [mnN, if_neg hq]; rfl
      rw [e] at h
      by_cases hk : k' = k
      · rw [hk] at h3; exact absurd h3 hq
      · exact ih _ h k' (by omega) (by omega) h3
theorem plI_at {N : NS} {q : Int32} {j : Nat} (hb : N.2.1 0 < 2 ^ 30) (h : j < (fq q (itL N)).length) : ∃ A r B, itL N = A ++ r :: B ∧ r.1 = q ∧ (fq q A).length = j ∧ plI N q (nI (j + 1)) = some A.length := by
  obtain ⟨A, r, B, h1, h2, h3⟩ := fq_cut q _ j h
  obtain ⟨g1, g2, g3⟩ := itL_at h1
  refine ⟨A, r, B, h1, h2, h3, ?_⟩
  have e1 : mnN N q A.length = j := by rw [mnN_F, g3, h3]
  have hq : N.2.2.1 2 A.length = q := by rw [← h2, ← g2]; rfl
  cases hp : plI N q (nI (j + 1)) with
  | none => exact absurd (by rw [e1]) (plN_n N q _ _ 0 hp A.length (Nat.zero_le _) (by omega) hq)
  | some k =>
    obtain ⟨-, p2, p3, p4⟩ := plN_s N q _ _ 0 _ hp
    have l1 := mnN_le N q k
    have l2 := mnN_le N q A.length
    rw [nI_eq (by omega) (by omega)] at p4
    have e2 : mnN N q k = mnN N q A.length := by omega
    have mono : ∀ a b, a ≤ b → mnN N q a ≤ mnN N q b := by
      intro a b hab
      induction hab with
      | refl => exact Nat.le_refl _
      | step _ ih => exact Nat.le_trans ih (by rw [mnN]; omega)
    have hlt : ∀ a b, a < b → N.2.2.1 2 a = q → mnN N q a < mnN N q b := by
      intro a b hab ha
      have := mono (a + 1) b hab
      rw [mnN, if_pos ha] at this
      omega
    rcases Nat.lt_trichotomy k A.length with hk | hk | hk
    · have := hlt _ _ hk p3; omega
    · rw [hk]
    · have := hlt _ _ hk hq; omega
theorem plI_out {N : NS} {q i : Int32} (hb : N.2.1 0 < 2 ^ 30) (h : i < 1 ∨ nI (fq q (itL N)).length < i) : plI N q i = none := by
  cases hp : plI N q i with
  | none => rfl
  | some k =>
    exfalso
    obtain ⟨-, p2, p3, p4⟩ := plN_s N q _ _ 0 _ hp
    have l1 := mnN_le N q k
    have l2 := mnN_le N q (N.2.1 0)
    have l3 : mnN N q k + 1 ≤ mnN N q (N.2.1 0) := by
      have : ∀ a b, a < b → N.2.2.1 2 a = q → mnN N q a + 1 ≤ mnN N q b := by
        intro a b hab ha
        induction hab with
        | refl => rw [mnN, if_pos ha]; exact Nat.le_refl _
        | step _ ih => exact Nat.le_trans ih (by rw [mnN]; omega)
      exact this _ _ (by omega) p3
    rw [itL, ← mnN_F, ← p4] at h
    rcases h with h | h
    · have : (1 : Int32) = nI 1 := rfl
      rw [this, nI_ltI (by omega) (by omega)] at h
      omega
    · rw [nI_ltI (by omega) (by omega)] at h
      omega
