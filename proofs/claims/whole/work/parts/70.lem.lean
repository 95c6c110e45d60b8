theorem plN_q (N : NS) (q i : Int32) : ∀ d k n j, plN N q i d k n = some j → N.2.2.1 2 j = q := by
  intro d
  induction d with
  | zero => intro k n j h; cases h
  | succ d ih =>
    intro k n j h
    unfold plN at h
    split at h
    · rename_i hq
      split at h
      · cases h; exact hq
      · exact ih _ _ _ h
    · exact ih _ _ _ h
theorem plI_lt {N : NS} {q i : Int32} {j : Nat} (h : plI N q i = some j) : j < N.2.1 0 := by
  have := plN_lt N q i _ _ _ _ h
  omega
theorem plI_q {N : NS} {q i : Int32} {j : Nat} (h : plI N q i = some j) : N.2.2.1 2 j = q := plN_q N q i _ _ _ _ h
abbrev gtC (N : NS) (i : Nat) (n : Int32) : Prop := N.2.2.1 12 i = n ∧ ¬ n ≤ 0
/-- get -/
def gtM (N : NS) (i : Nat) (n : Int32) : Int64 × NS :=
  if ¬ (N.2.2.1 7 i = 0 ∨ N.2.2.1 7 i = 1) then (if gtC N i n then (N.2.2.2.1 16 i, sS (sS N 0 1) 0 0) else (0, sS (sS N 0 1) 0 1))
  else match plI (sS N 0 1) (nI i) n with
    | none => (0, sS N 0 1)
    | some k => (N.2.2.2.1 5 k, sL (sS (sS N 0 1) 0 0) 15 i N.2.2.2.2)
/-- nexting -/
abbrev nxV (N : NS) (i j : Nat) : Int32 := N.2.2.1 17 (8 * i + j) + 1
def nxM (N : NS) (i j : Nat) : Int32 × NS :=
  if ¬ N.2.2.1 7 i ≤ 1 then (-3, N) else if ¬ nxV N i j ≤ nI (mnN N (nI i) (N.2.1 0)) then (-4, N) else (nxV N i j, sL (sI N 17 (8 * i + j) (nxV N i j)) 15 i N.2.2.2.2)
/-- taking -/
def tkS (N : NS) (i k : Nat) : NS := sI (sL (sI N 12 i (N.2.2.1 3 k)) 16 i (N.2.2.2.1 5 k)) 14 i 1
def tkM (N : NS) (i : Nat) : Int32 × NS :=
  if N.2.2.1 7 i = 0 ∨ N.2.2.1 7 i = 1 then (-3, N) else match plI N (nI i) 1 with
    | none => (-4, N)
    | some k => if ¬ N.2.2.1 4 k ≤ 0 then (-5, N) else ((remS (tkS N i k) k i).2.2.1 12 i, remS (tkS N i k) k i)
/-- triggers -/
def trM (N : NS) (i : Nat) (n c : Int32) : Int32 × NS :=
  if n < 0 ∨ 4096 < n then (-2, N) else if N.2.2.1 7 i = 0 ∨ N.2.2.1 7 i = 1 then (-3, N) else (1, sI (sI (sI (sI (sI N 9 i n) 10 i c) 13 i 1) 11 i 0) 14 i 0)
def saM (N : NS) (t : Int32) : Int32 := if t ≤ 0 ∨ nI (N.2.1 1) < t then 0 else N.2.2.1 18 (t - 1).toNatClampNeg
/-- ending -/
def enT (N : NS) (q : Nat) : Int32 × NS :=
  if N.2.2.1 14 q = 0 ∧ 0 < stN N (nI q) (N.2.1 0) then (nI (N.2.1 1 + 1), sI (sI (taskS N (N.2.2.1 10 q)) 11 q (nI (N.2.1 1 + 1))) 14 q 0) else (0, sI (sI N 11 q 0) 14 q 0)
def enN (N : NS) (t : Int32) (d : Nat) : Int32 × NS := match d with
  | 0 => (0, N)
  | d + 1 => if N.2.2.1 9 (31 - d) = 0 ∨ ¬ N.2.2.1 11 (31 - d) = t then enN N t d else enT N (31 - d)
termination_by d
theorem enN_zero (N : NS) (t : Int32) : enN N t 0 = (0, N) := by rw [enN]
theorem enN_succ (N : NS) (t : Int32) (d : Nat) : enN N t (d + 1) = if N.2.2.1 9 (31 - d) = 0 ∨ ¬ N.2.2.1 11 (31 - d) = t then enN N t d else enT N (31 - d) := by rw [enN]
def enS (N : NS) (j : Nat) : NS := sS (sI N 19 j 0) 2 (N.1 2 - 1)
def enM (N : NS) (t : Int32) : Int32 × NS :=
  if t < 1 ∨ nI (N.2.1 1) < t then (-4, N) else if N.2.2.1 19 (t - 1).toNatClampNeg = 0 then (-4, N) else enN (enS N (t - 1).toNatClampNeg) t 32
/-- rewriting -/
def rwM (N : NS) (i : Nat) (n : Int32) (v : Int64) : Int32 × NS :=
  if ¬ N.2.2.1 7 i ≤ 1 then (-3, N) else match plI N (nI i) n with
    | none => (-4, N)
    | some k => (1, sL (sL N 5 k v) 15 i N.2.2.2.2)
/-- count -/
def ctM (N : NS) (w : Int32) : Int32 :=
  if ¬ (w < 0 ∨ 32 ≤ w) then nI (mnN N w (N.2.1 0)) else if ¬ (w < 32 ∨ 64 ≤ w) then N.2.2.1 7 (w - 32).toNatClampNeg
  else if w = 64 then nI (N.2.1 0) else if w = 65 then nI (N.2.1 1) else if w = 66 then N.1 2 else if w = 67 then nI (N.2.1 2) else -2
theorem emR_nn (N : NS) (q : Nat) : ∀ r, (emR N q r).2.1 = N.2.1
  | 0 => rfl
  | r + 1 => emR_nn N q r
theorem remS_it (N : NS) (k q : Nat) : (remS N k q).2.1 0 = N.2.1 0 - 1 := by
  unfold remS
  split
  · unfold emS
    rw [emR_nn]
    exact remN_it N k
  · exact remN_it N k
theorem remN_bg (N : NS) (k : Nat) : (remN N k).2.1 1 = N.2.1 1 := by
  unfold remN
  rw [shR_nn]
  simp [sN, va_up]
theorem remS_bg (N : NS) (k q : Nat) : (remS N k q).2.1 1 = N.2.1 1 := by
  unfold remS
  split
  · unfold emS
    rw [emR_nn]
    exact remN_bg N k
  · exact remN_bg N k
