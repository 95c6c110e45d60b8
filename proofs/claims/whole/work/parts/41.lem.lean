def tot (S : MS) : Nat → Nat
  | 0 => 0
  | n + 1 => tot S n + (S.2.1 n).2.1.length
theorem capA_pay {n cap : Nat} (h : n ≤ cap) : (if n < cap then 0 else capA n cap) + 4 * cap ≤ 4 * capA n cap := by
  unfold capA
  split
  · omega
  · split <;> omega
theorem capA_ok {n cap : Nat} (h : n ≤ 600) (hc : cap ≤ 1000) (hn : n ≤ cap) : capA n cap ≤ 1000 := by
  unfold capA
  split
  · omega
  · split <;> omega
theorem ALr.la {M : ZM} {z a arr cap : Nat} {es : List Nat} (h : ALr M z a arr es cap) : M a ≠ none := by
  obtain ⟨⟨mc, h1⟩, -⟩ := h
  rw [h1]
  simp
/-- what a look at a trigger does, with n items that stand and k tasks begun before -/
def lookT (t : TS) (n : Int32) (k : Nat) : TS × Option Int32 :=
  if n < t.1 then ((t.1, t.2.1, 1, t.2.2.2.1, t.2.2.2.2), none)
  else if ¬ t.2.2.1 = 0 ∧ t.2.2.2.1 = 0 then ((t.1, t.2.1, 0, nI (k + 1), 0), some t.2.1) else (t, none)
def setTr (s : QS) (t : Option TS) : QS := (s.1, s.2.1, s.2.2.1, s.2.2.2.1, s.2.2.2.2.1, s.2.2.2.2.2.1, s.2.2.2.2.2.2.1, s.2.2.2.2.2.2.2.1, t, s.2.2.2.2.2.2.2.2.2)
def addT (S : MS) (q : Nat → QS) (c : Option Int32) : MS := (S.1, q, S.2.2.1 ++ c.toList.map (fun c => (c, 1)), (if c = none then S.2.2.2.1 else S.2.2.2.1 + 1), S.2.2.2.2)
def lookI (S : MS) (i : Nat) : MS := match (S.2.1 i).2.2.2.2.2.2.2.2.1 with
  | none => S
  | some t => addT S (va_up S.2.1 i (setTr (S.2.1 i) (some (lookT t (nI ((S.2.1 i).2.1.length - (S.2.1 i).2.2.1)) S.2.2.1.length).1))) (lookT t (nI ((S.2.1 i).2.1.length - (S.2.1 i).2.2.1)) S.2.2.1.length).2
def lookN (S : MS) : Nat → MS
  | 0 => S
  | n + 1 => lookI (lookN S n) n
theorem Kp.ow {M : ZM} {own : Nat → Nat} {k : Nat} {M' : ZM} {j : Nat} (h : ∀ y, M y ≠ none → own y = k → M' y = M y) : Kp M own k M' (ow M own j) := fun y hy hk => ⟨h y hy hk, by rw [ow_old hy]; exact hk⟩
theorem lookI_len (S : MS) (i : Nat) : S.2.2.1.length ≤ (lookI S i).2.2.1.length := by
  unfold lookI
  split
  · exact Nat.le_refl _
  · simp [addT]
theorem lookN_len (S : MS) {i j : Nat} (h : i ≤ j) : (lookN S i).2.2.1.length ≤ (lookN S j).2.2.1.length := by
  induction h with
  | refl => exact Nat.le_refl _
  | step _ ih => exact Nat.le_trans ih (lookI_len _ _)
theorem TaR.len {M : ZM} {z : Nat} {own : Nat → Nat} {lt cap : Nat} {ts : List (Int32 × Int32)} (h : TaR M z own lt ts cap) : ts.length ≤ cap := by
  obtain ⟨arr, es, h2, h4, -⟩ := h
  rw [← h4]
  exact h2.2.2.1
