/-- the reference's own counts -/
def mnN (N : NS) (q : Int32) : Nat → Nat
  | 0 => 0
  | k + 1 => mnN N q k + (if N.2.2.1 2 k = q then 1 else 0)
def stN (N : NS) (q : Int32) : Nat → Nat
  | 0 => 0
  | k + 1 => stN N q k + (if N.2.2.1 2 k = q ∧ N.2.2.1 4 k = 0 then 1 else 0)
def lkN (N : NS) (q : Int32) : Nat → Int32
  | 0 => 0
  | k + 1 => if N.2.2.1 2 k = q ∧ ¬ N.2.2.1 4 k ≤ 0 then N.2.2.1 4 k else lkN N q k
def plN (N : NS) (q i : Int32) : Nat → Nat → Nat → Option Nat
  | 0, _, _ => none
  | d + 1, k, n => if N.2.2.1 2 k = q then (if nI (n + 1) = i then some k else plN N q i d (k + 1) (n + 1)) else plN N q i d (k + 1) n
def plI (N : NS) (q i : Int32) : Option Nat := plN N q i (N.2.1 0) 0 0
def plV (o : Option Nat) : Int32 := match o with
  | none => -1
  | some k => nI k
theorem plN_lt (N : NS) (q i : Int32) : ∀ d k n j, plN N q i d k n = some j → k ≤ j ∧ j < k + d := by
  intro d
  induction d with
  | zero => intro k n j h; cases h
  | succ d ih =>
    intro k n j h
    unfold plN at h
    split at h
    · split at h
      · cases h; omega
      · have := ih _ _ _ h; omega
    · have := ih _ _ _ h; omega
theorem mnN_le (N : NS) (q : Int32) : ∀ k, mnN N q k ≤ k
  | 0 => Nat.le_refl _
  | k + 1 => by
    have := mnN_le N q k
    unfold mnN
    split <;> omega
theorem stN_le (N : NS) (q : Int32) : ∀ k, stN N q k ≤ k
  | 0 => Nat.le_refl _
  | k + 1 => by
    have := stN_le N q k
    unfold stN
    split <;> omega
def moT (k : Int32) : Prop := k = 0 ∨ k = 1
def taskS (N : NS) (c : Int32) : NS := sS (sN (sI (sI N 18 (N.2.1 1) c) 19 (N.2.1 1) 1) 1 (N.2.1 1 + 1)) 2 (N.1 2 + 1)
/-- a queue's readers forget -/
def emR (N : NS) (q : Nat) : Nat → NS
  | 0 => N
  | r + 1 => sI (emR N q r) 17 (8 * q + r) 0
def emS (N : NS) (q : Nat) : NS := emR (sI N 7 q (-1)) q 8
