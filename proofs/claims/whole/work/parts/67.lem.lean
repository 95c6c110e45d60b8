theorem sI_get (N : NS) (k j : Nat) (v : Int32) : (sI N k j v).2.2.1 k j = v := by simp [sI, va_up]
/-- items from k on move one place down -/
def shI (N : NS) (i : Nat) : NS :=
  sL (sI (sI (sI N 2 i (N.2.2.1 2 (i + 1))) 3 i ((sI N 2 i (N.2.2.1 2 (i + 1))).2.2.1 3 (i + 1))) 4 i ((sI (sI N 2 i (N.2.2.1 2 (i + 1))) 3 i ((sI N 2 i (N.2.2.1 2 (i + 1))).2.2.1 3 (i + 1))).2.2.1 4 (i + 1))) 5 i ((sI (sI (sI N 2 i (N.2.2.1 2 (i + 1))) 3 i ((sI N 2 i (N.2.2.1 2 (i + 1))).2.2.1 3 (i + 1))) 4 i ((sI (sI N 2 i (N.2.2.1 2 (i + 1))) 3 i ((sI N 2 i (N.2.2.1 2 (i + 1))).2.2.1 3 (i + 1))).2.2.1 4 (i + 1))).2.2.2.1 5 (i + 1))
def shR (N : NS) (k : Nat) : Nat → NS
  | 0 => N
  | c + 1 => shI (shR N k c) (k + c)
theorem shR_nn (N : NS) (k : Nat) : ∀ c, (shR N k c).2.1 = N.2.1
  | 0 => rfl
  | c + 1 => shR_nn N k c
def remN (N : NS) (k : Nat) : NS := shR (sN N 0 (N.2.1 0 - 1)) k (N.2.1 0 - 1 - k)
theorem remN_it (N : NS) (k : Nat) : (remN N k).2.1 0 = N.2.1 0 - 1 := by
  unfold remN
  rw [shR_nn]
  simp [sN, va_up]
def remS (N : NS) (k q : Nat) : NS := if mnN (remN N k) (nI q) (N.2.1 0 - 1) = 0 then emS (remN N k) q else remN N k
/-- a look at queue q's trigger -/
abbrev moRd (N : NS) (q : Nat) : Prop := ¬ N.2.2.1 13 q = 0 ∨ nI (stN N (nI q) (N.2.1 0)) < N.2.2.1 9 q
def moRn (N : NS) (q : Nat) : Int32 := if moRd N q then 1 else 0
def moL1 (N : NS) (q : Nat) : NS := sI N 13 q (moRn N q)
abbrev moB (N : NS) (q : Nat) : Prop := moRd N q ∧ N.2.2.1 11 q = 0 ∧ ¬ nI (stN N (nI q) (N.2.1 0)) < N.2.2.1 9 q
def moL (N : NS) (q : Nat) : NS :=
  if N.2.2.1 9 q = 0 then N else if moB N q then sI (sI (sI (taskS (moL1 N q) (N.2.2.1 10 q)) 11 q (nI (N.2.1 1 + 1))) 14 q 0) 13 q 0 else moL1 N q
def moLk (N : NS) (n : Nat) : NS := match n with
  | 0 => N
  | q + 1 => moL (moLk N q) q
termination_by n
theorem moLk_zero (N : NS) : moLk N 0 = N := by rw [moLk]
theorem moLk_succ (N : NS) (q : Nat) : moLk N (q + 1) = moL (moLk N q) q := by rw [moLk]
theorem taskS_it (N : NS) (c : Int32) : (taskS N c).2.1 0 = N.2.1 0 := by simp [taskS, sS, sN, sI, va_up]
theorem taskS_bg (N : NS) (c : Int32) : (taskS N c).2.1 1 = N.2.1 1 + 1 := by simp [taskS, sS, sN, sI, va_up]
theorem moL_it (N : NS) (q : Nat) : (moL N q).2.1 0 = N.2.1 0 := by
  unfold moL
  split
  · rfl
  · split
    · show (taskS (moL1 N q) (N.2.2.1 10 q)).2.1 0 = _
      rw [taskS_it]
      rfl
    · rfl
theorem moL_bg (N : NS) (q : Nat) : (moL N q).2.1 1 ≤ N.2.1 1 + 1 := by
  unfold moL
  split
  · omega
  · split
    · show (taskS (moL1 N q) (N.2.2.1 10 q)).2.1 1 ≤ _
      rw [taskS_bg]
      exact Nat.le_refl _
    · exact Nat.le_succ _
theorem moLk_it (N : NS) : ∀ q, (moLk N q).2.1 0 = N.2.1 0
  | 0 => by rw [moLk_zero]
  | q + 1 => by rw [moLk_succ, moL_it, moLk_it]
theorem moLk_bg (N : NS) : ∀ q, (moLk N q).2.1 1 ≤ N.2.1 1 + q
  | 0 => by rw [moLk_zero]; exact Nat.le_refl _
  | q + 1 => by
    rw [moLk_succ]
    have := moL_bg (moLk N q) q
    have := moLk_bg N q
    omega
def ansS (N : NS) : NS := moLk (sS N 0 0) 32
/-- putting -/
abbrev puB (k u : Int32) : Prop := k < 0 ∨ 3 < k ∨ u < 0 ∨ 9 < u
abbrev puK (N : NS) (i : Nat) (k : Int32) : Prop := (¬ N.2.2.1 7 i = -1 ∧ ¬ N.2.2.1 7 i = k) ∨ (¬ N.2.2.1 9 i ≤ 0 ∧ k < 2)
abbrev puL (N : NS) (i : Nat) (k u : Int32) : Prop := kProt k ∧ ¬ lkN N (nI i) (N.2.1 0) = 0 ∧ ¬ lkN N (nI i) (N.2.1 0) = u
def puM2 (N : NS) (i : Nat) (k : Int32) : NS := sI (sI N 7 i k) 8 i (if k ≤ 1 then (sI N 7 i k).2.2.1 8 i else (sI N 7 i k).2.2.1 8 i + 1)
def puM6 (N : NS) (i : Nat) (k : Int32) (v : Int64) (u : Int32) : NS := sN (sI (sL (sI (puM2 N i k) 2 (N.2.1 0) (nI i)) 5 (N.2.1 0) v) 4 (N.2.1 0) (if kProt k then u else 0)) 0 (N.2.1 0 + 1)
def puNum (N : NS) (i : Nat) (k : Int32) (v : Int64) (u : Int32) : Int32 := if k ≤ 1 then nI (mnN (puM6 N i k v u) (nI i) (N.2.1 0 + 1)) else (puM6 N i k v u).2.2.1 8 i
def puM (N : NS) (i : Nat) (k : Int32) (v : Int64) (u : Int32) : Int32 × NS :=
  if puB k u then (-2, N) else if puK N i k then (-3, N) else if puL N i k u then (-5, N) else if ¬ nI (N.2.1 0) < N.1 1 then (-1, N)
  else (puNum N i k v u, sL (sI (puM6 N i k v u) 3 (N.2.1 0) (puNum N i k v u)) 15 i N.2.2.2.2)
theorem puM_it (N : NS) (i : Nat) (k : Int32) (v : Int64) (u : Int32) : (puM N i k v u).2.2.1 0 ≤ N.2.1 0 + 1 := by
  unfold puM
  repeat' split
  all_goals first | exact Nat.le_succ _ | (show (puM6 N i k v u).2.1 0 ≤ _; simp [puM6, sN, va_up])
theorem puM_bg (N : NS) (i : Nat) (k : Int32) (v : Int64) (u : Int32) : (puM N i k v u).2.2.1 1 = N.2.1 1 := by
  unfold puM
  repeat' split
  all_goals first | rfl | (show (puM6 N i k v u).2.1 1 = _; simp [puM6, sN, va_up]; rfl)
theorem k_cases {k : Int32} (h : ¬ k < 0) (h3 : ¬ 3 < k) : k = 0 ∨ k = 1 ∨ k = 2 ∨ k = 3 := by
  obtain ⟨j, hj, rfl⟩ := nI_of h
  have : j ≤ 3 := Nat.not_lt.mp fun q => h3 (nI_lt q hj)
  have hj4 : j = 0 ∨ j = 1 ∨ j = 2 ∨ j = 3 := by omega
  rcases hj4 with rfl | rfl | rfl | rfl
  · exact Or.inl rfl
  · exact Or.inr (Or.inl rfl)
  · exact Or.inr (Or.inr (Or.inl rfl))
  · exact Or.inr (Or.inr (Or.inr rfl))
theorem k_prot {k : Int32} (h : ¬ k < 0) (h3 : ¬ 3 < k) : k - k / 2 * 2 = 1 ↔ kProt k := by
  rcases k_cases h h3 with rfl | rfl | rfl | rfl <;> decide
