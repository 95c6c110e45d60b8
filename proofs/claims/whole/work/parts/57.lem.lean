/-- where a new delay goes -/
def kwN (ds : List DS) (u : Int64) : Nat → Nat
  | 0 => 0
  | n + 1 => if ((ds[n]?).getD (0, 0, 0)).2.2 ≤ u then n + 1 else kwN ds u n
theorem kwN_le (ds : List DS) (u : Int64) : ∀ n, kwN ds u n ≤ n
  | 0 => Nat.le_refl _
  | n + 1 => by
    unfold kwN
    split
    · exact Nat.le_refl _
    · exact Nat.le_succ_of_le (kwN_le ds u n)
def insD (ds : List DS) (d : DS) : List DS := ds.take (kwN ds d.2.2 ds.length) ++ d :: ds.drop (kwN ds d.2.2 ds.length)
def pdS (S : MS) (d : DS) (ds : List DS) : MS := (S.1, S.2.1, S.2.2.1 ++ [(d.2.1, 1)], S.2.2.2.1 + 1, ds, S.2.2.2.2.2)
/-- posting what is due, at most so many -/
def pdN (S : MS) : Nat → Nat × MS
  | 0 => (0, S)
  | f + 1 => match S.2.2.2.2.1 with
    | [] => (0, S)
    | d :: ds => if S.2.2.2.2.2.2 < d.2.2 then (0, S) else ((pdN (pdS S d ds) f).1 + 1, (pdN (pdS S d ds) f).2)
theorem pdN_nil {S : MS} (f : Nat) (h : S.2.2.2.2.1 = []) : pdN S (f + 1) = (0, S) := by unfold pdN; rw [h]
theorem pdN_no {S : MS} (f : Nat) {d : DS} {ds : List DS} (h : S.2.2.2.2.1 = d :: ds) (h2 : S.2.2.2.2.2.2 < d.2.2) : pdN S (f + 1) = (0, S) := by
  conv => lhs; unfold pdN
  rw [h]
  exact if_pos h2
theorem pdN_yes {S : MS} (f : Nat) {d : DS} {ds : List DS} (h : S.2.2.2.2.1 = d :: ds) (h2 : ¬ S.2.2.2.2.2.2 < d.2.2) : pdN S (f + 1) = ((pdN (pdS S d ds) f).1 + 1, (pdN (pdS S d ds) f).2) := by
  conv => lhs; unfold pdN
  rw [h]
  exact if_neg h2
theorem pdN_len (f : Nat) : ∀ S : MS, S.2.2.1.length ≤ (pdN S f).2.2.2.1.length := by
  induction f with
  | zero => intro S; exact Nat.le_refl _
  | succ f ih =>
    intro S
    cases hd : S.2.2.2.2.1 with
    | nil => rw [pdN_nil f hd]; exact Nat.le_refl _
    | cons d ds =>
      by_cases h2 : S.2.2.2.2.2.2 < d.2.2
      · rw [pdN_no f hd h2]; exact Nat.le_refl _
      · rw [pdN_yes f hd h2]
        have := ih (pdS S d ds)
        simp [pdS] at this ⊢
        omega
def delS (S : MS) (c : Int32) (u : Int64) : MS := (S.1, S.2.1, S.2.2.1, S.2.2.2.1, insD S.2.2.2.2.1 (S.2.2.2.2.2.1 + 1, c, u), S.2.2.2.2.2.1 + 1, S.2.2.2.2.2.2)
def delI (S : MS) (c : Int32) (u : Int64) : Int32 × MS :=
  if ¬ nI S.2.2.2.2.1.length < 200 then (-1, S) else (S.2.2.2.2.2.1 + 1, (pdN (delS S c u) 200).2)
def ticS (S : MS) (t : Int64) : MS := (S.1, S.2.1, S.2.2.1, S.2.2.2.1, S.2.2.2.2.1, S.2.2.2.2.2.1, t)
def ticI (S : MS) (t : Int64) : Int32 × MS := if t < S.2.2.2.2.2.2 then (-1, S) else (nI (pdN (ticS S t) 200).1, (pdN (ticS S t) 200).2)
/-- cancel: from place i on -/
def canN (S : MS) (n : Int32) : Nat → Nat → Int32 × MS
  | 0, _ => (0, S)
  | d + 1, i => if ((S.2.2.2.2.1[i]?).getD (0, 0, 0)).1 = n then (1, (S.1, S.2.1, S.2.2.1, S.2.2.2.1, S.2.2.2.2.1.eraseIdx i, S.2.2.2.2.2)) else canN S n d (i + 1)
def canI (S : MS) (n : Int32) : Int32 × MS := canN S n S.2.2.2.2.1.length 0
theorem i64_nle {x y : Int64} : ¬ x ≤ y ↔ y < x := by
  rw [Int64.le_iff_toInt_le, Int64.lt_iff_toInt_lt]
  omega
theorem i64_nlt {x y : Int64} : ¬ x < y ↔ y ≤ x := by
  rw [Int64.le_iff_toInt_le, Int64.lt_iff_toInt_lt]
  omega
