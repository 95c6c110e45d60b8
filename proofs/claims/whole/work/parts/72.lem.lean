/-- delays -/
def drI (N : NS) (i : Nat) : NS :=
  sL (sI (sI N 23 i (N.2.2.1 23 (i + 1))) 24 i ((sI N 23 i (N.2.2.1 23 (i + 1))).2.2.1 24 (i + 1))) 25 i ((sI (sI N 23 i (N.2.2.1 23 (i + 1))) 24 i ((sI N 23 i (N.2.2.1 23 (i + 1))).2.2.1 24 (i + 1))).2.2.2.1 25 (i + 1))
def drR (N : NS) (k : Nat) : Nat → NS
  | 0 => N
  | c + 1 => drI (drR N k c) (k + c)
theorem drR_nn (N : NS) (k : Nat) : ∀ c, (drR N k c).2.1 = N.2.1
  | 0 => rfl
  | c + 1 => drR_nn N k c
def drS (N : NS) (k : Nat) : NS := drR (sN N 2 (N.2.1 2 - 1)) k (N.2.1 2 - 1 - k)
theorem drS_dl (N : NS) (k : Nat) : (drS N k).2.1 2 = N.2.1 2 - 1 := by
  unfold drS
  rw [drR_nn]
  simp [sN, va_up]
theorem drS_nn (N : NS) (k j : Nat) (h : j ≠ 2) : (drS N k).2.1 j = N.2.1 j := by
  unfold drS
  rw [drR_nn]
  simp [sN, va_up, h]
def fnN (N : NS) (n : Int32) : Nat → Option Nat
  | 0 => none
  | k + 1 => if N.2.2.1 23 k = n then some k else fnN N n k
theorem fnN_lt (N : NS) (n : Int32) : ∀ k j, fnN N n k = some j → j < k
  | 0, _, h => by cases h
  | k + 1, j, h => by
    unfold fnN at h
    split at h
    · cases h; omega
    · have := fnN_lt N n k j h; omega
def caM (N : NS) (n : Int32) : Int32 × NS := match fnN N n (N.2.1 2) with
  | none => (0, N)
  | some k => (1, drS N k)
def deS (N : NS) (c : Int32) (u : Int64) : NS :=
  sN (sL (sI (sI (sS N 3 (N.1 3 + 1)) 23 (N.2.1 2) (N.1 3 + 1)) 24 (N.2.1 2) c) 25 (N.2.1 2) u) 2 (N.2.1 2 + 1)
def deM (N : NS) (c : Int32) (u : Int64) : Int32 × NS :=
  if N.2.1 2 = 200 then (-1, N) else if u ≤ N.2.2.2.2 then (N.1 3 + 1, taskS (sS N 3 (N.1 3 + 1)) c) else (N.1 3 + 1, deS N c u)
