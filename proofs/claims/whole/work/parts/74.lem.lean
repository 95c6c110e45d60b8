/-- the first delay that is due -/
def fiN (N : NS) : Nat → Option Nat
  | 0 => none
  | k + 1 => if N.2.2.2.1 25 k ≤ N.2.2.2.2 ∧ (∀ f, fiN N k = some f → N.2.2.2.1 25 k < N.2.2.2.1 25 f) then some k else fiN N k
theorem fiN_lt (N : NS) : ∀ k j, fiN N k = some j → j < k
  | 0, _, h => by cases h
  | k + 1, j, h => by
    unfold fiN at h
    split at h
    · cases h; omega
    · have := fiN_lt N k j h; omega
def tiN (N : NS) (d : Nat) : Nat × NS := match d with
  | 0 => (0, N)
  | d + 1 => match fiN N (N.2.1 2) with
    | none => (0, N)
    | some k => ((tiN (drS (taskS N (N.2.2.1 24 k)) k) d).1 + 1, (tiN (drS (taskS N (N.2.2.1 24 k)) k) d).2)
termination_by d
theorem tiN_none (N : NS) (d : Nat) (h : fiN N (N.2.1 2) = none) : tiN N (d + 1) = (0, N) := by rw [tiN, h]
theorem tiN_some (N : NS) (d : Nat) {k : Nat} (h : fiN N (N.2.1 2) = some k) : tiN N (d + 1) = ((tiN (drS (taskS N (N.2.2.1 24 k)) k) d).1 + 1, (tiN (drS (taskS N (N.2.2.1 24 k)) k) d).2) := by rw [tiN, h]
def tiM (N : NS) (t : Int64) : Int32 × NS := if t < N.2.2.2.2 then (-1, N) else (nI (tiN (sW N t) (N.2.1 2 + 1)).1, (tiN (sW N t) (N.2.1 2 + 1)).2)
/-- every item's queue is one -/
def moQ (N : NS) : Prop := ∀ k, k < N.2.1 0 → ∃ q : Nat, q < 32 ∧ N.2.2.1 2 k = nI q
/-- unit's end: items k - 1, .., 0 -/
def unO (N : NS) (q : Nat) : NS := sI N 8 q (if N.2.2.1 7 q ≤ 1 then N.2.2.1 8 q else N.2.2.1 8 q - 1)
def unN (N : NS) (u c : Int32) (k : Nat) : Nat × NS := match k with
  | 0 => (0, N)
  | k + 1 => if ¬ N.2.2.1 4 k = u then unN N u c k
    else if ¬ c = 0 then ((unN (sI N 4 k 0) u c k).1 + 1, (unN (sI N 4 k 0) u c k).2)
    else ((unN (remS (unO (sI N 4 k 0) (N.2.2.1 2 k).toNatClampNeg) k (N.2.2.1 2 k).toNatClampNeg) u c k).1 + 1, (unN (remS (unO (sI N 4 k 0) (N.2.2.1 2 k).toNatClampNeg) k (N.2.2.1 2 k).toNatClampNeg) u c k).2)
termination_by k
theorem unN_zero (N : NS) (u c : Int32) : unN N u c 0 = (0, N) := by rw [unN]
theorem unN_no (N : NS) (u c : Int32) (k : Nat) (h : ¬ N.2.2.1 4 k = u) : unN N u c (k + 1) = unN N u c k := by rw [unN, if_pos h]
theorem unN_st (N : NS) (u c : Int32) (k : Nat) (h : N.2.2.1 4 k = u) (hc : ¬ c = 0) : unN N u c (k + 1) = ((unN (sI N 4 k 0) u c k).1 + 1, (unN (sI N 4 k 0) u c k).2) := by rw [unN, if_neg (not_not_intro h), if_pos hc]
theorem unN_va (N : NS) (u c : Int32) (k q : Nat) (h : N.2.2.1 4 k = u) (hc : c = 0) (hq : N.2.2.1 2 k = nI q) (hq2 : q < 32) : unN N u c (k + 1) = ((unN (remS (unO (sI N 4 k 0) q) k q) u c k).1 + 1, (unN (remS (unO (sI N 4 k 0) q) k q) u c k).2) := by
  rw [unN, if_neg (not_not_intro h), if_neg (not_not_intro hc), hq, nI_clamp (by omega)]
def unM (N : NS) (u c : Int32) : Int32 × NS := if u < 1 ∨ 9 < u then (-2, N) else (nI (unN N u c (N.2.1 0)).1, (unN N u c (N.2.1 0)).2)
/-- what remove leaves of the queues' column -/
theorem shR_2 (N : NS) (k : Nat) : ∀ c j, (shR N k c).2.2.1 2 j = if k ≤ j ∧ j < k + c then N.2.2.1 2 (j + 1) else N.2.2.1 2 j := by
  intro c
  induction c with
  | zero => intro j; rw [if_neg (by omega)]; rfl
  | succ c ih =>
    intro j
    have e : (shR N k (c + 1)).2.2.1 2 j = va_up ((shR N k c).2.2.1 2) (k + c) ((shR N k c).2.2.1 2 (k + c + 1)) j := rfl
    rw [e]
    by_cases hj : j = k + c
    · rw [hj, va_up_self, ih, if_neg (by omega), if_pos (by omega)]
    · rw [va_up_ne _ _ hj, ih]
      by_cases h1 : k ≤ j ∧ j < k + c
      · rw [if_pos h1, if_pos (by omega)]
      · rw [if_neg h1, if_neg (by omega)]
theorem emR_2 (N : NS) (q : Nat) : ∀ r, (emR N q r).2.2.1 2 = N.2.2.1 2
  | 0 => rfl
  | r + 1 => emR_2 N q r
theorem remS_2 (N : NS) (k q j : Nat) : (remS N k q).2.2.1 2 j = if k ≤ j ∧ j < N.2.1 0 - 1 then N.2.2.1 2 (j + 1) else N.2.2.1 2 j := by
  have e : (remS N k q).2.2.1 2 = (remN N k).2.2.1 2 := by
    unfold remS
    split
    · unfold emS
      rw [emR_2]
      rfl
    · rfl
  rw [e]
  unfold remN
  rw [shR_2]
  have : (sN N 0 (N.2.1 0 - 1)).2.2.1 = N.2.2.1 := rfl
  rw [this]
  by_cases h : k ≤ j ∧ j < N.2.1 0 - 1
  · rw [if_pos h, if_pos (by omega)]
  · rw [if_neg h, if_neg (by omega)]
theorem moQ.rem {N : NS} (h : moQ N) (k q : Nat) (hk : k < N.2.1 0) : moQ (remS N k q) := by
  intro j hj
  rw [remS_it] at hj
  rw [remS_2]
  split
  · exact h (j + 1) (by omega)
  · exact h j (by omega)
/-- age -/
def agL (N : NS) (q : Nat) (d : Nat) : NS := match d with
  | 0 => N
  | d + 1 => match plI N (nI q) 1 with
    | none => N
    | some k => agL (remS N k q) q d
termination_by d
theorem agL_zero (N : NS) (q : Nat) : agL N q 0 = N := by rw [agL]
theorem agL_some (N : NS) (q d : Nat) {k : Nat} (h : plI N (nI q) 1 = some k) : agL N q (d + 1) = agL (remS N k q) q d := by rw [agL, h]
theorem agL_none (N : NS) (q d : Nat) (h : plI N (nI q) 1 = none) : agL N q (d + 1) = N := by rw [agL, h]
theorem plN_none (N : NS) (q : Int32) : ∀ d k, plN N q 1 d k 0 = none → ∀ j, k ≤ j → j < k + d → ¬ N.2.2.1 2 j = q := by
  intro d
  induction d with
  | zero => intro k _ j h1 h2; omega
  | succ d ih =>
    intro k h j h1 h2
    unfold plN at h
    split at h
    · rw [if_pos (by rfl)] at h
      cases h
    · rename_i hq
      by_cases hj : j = k
      · rw [hj]; exact hq
      · exact ih (k + 1) h j (by omega) (by omega)
theorem mnN_0 (N : NS) (q : Int32) : ∀ n, (∀ j, j < n → ¬ N.2.2.1 2 j = q) → mnN N q n = 0
  | 0, _ => rfl
  | n + 1, h => by
    unfold mnN
    rw [mnN_0 N q n (fun j hj => h j (by omega)), if_neg (h n (by omega))]
theorem plI_none {N : NS} {q : Int32} (h : plI N q 1 = none) : mnN N q (N.2.1 0) = 0 := mnN_0 N q _ (fun j hj => plN_none N q _ 0 h j (Nat.zero_le _) (by omega))
theorem mnN_pos (N : NS) (q : Int32) : ∀ n j, j < n → N.2.2.1 2 j = q → 0 < mnN N q n
  | 0, j, h, _ => by omega
  | n + 1, j, h, e => by
    unfold mnN
    by_cases hj : j = n
    · rw [hj] at e
      rw [if_pos e]
      omega
    · have := mnN_pos N q n j (by omega) e
      omega
abbrev agK (N : NS) (b : Int64) (q : Nat) : Prop := (N.2.2.1 7 q = 0 ∨ N.2.2.1 7 q = 1) ∧ N.2.2.2.1 15 q < b ∧ lkN N (nI q) (N.2.1 0) = 0
def agP (N : NS) (b : Int64) (q : Nat) : Nat × NS := if agK N b q then (1, agL N q (N.2.1 0)) else (0, N)
def agM (N : NS) (b : Int64) (n : Nat) : Nat × NS := match n with
  | 0 => (0, N)
  | q + 1 => ((agM N b q).1 + (agP (agM N b q).2 b q).1, (agP (agM N b q).2 b q).2)
termination_by n
theorem agM_zero (N : NS) (b : Int64) : agM N b 0 = (0, N) := by rw [agM]
theorem agM_succ (N : NS) (b : Int64) (q : Nat) : agM N b (q + 1) = ((agM N b q).1 + (agP (agM N b q).2 b q).1, (agP (agM N b q).2 b q).2) := by rw [agM]
theorem agL_keep (q : Nat) : ∀ (d : Nat) (N : NS), moQ N → moQ (agL N q d) ∧ (agL N q d).2.1 0 ≤ N.2.1 0 ∧ (agL N q d).2.1 1 = N.2.1 1 := by
  intro d
  induction d with
  | zero => intro N h; rw [agL_zero]; exact ⟨h, Nat.le_refl _, rfl⟩
  | succ d ih =>
    intro N h
    cases hp : plI N (nI q) 1 with
    | none => rw [agL_none _ _ _ hp]; exact ⟨h, Nat.le_refl _, rfl⟩
    | some k =>
      rw [agL_some _ _ _ hp]
      have hk := plI_lt hp
      obtain ⟨h1, h2, h3⟩ := ih _ (h.rem k q hk)
      rw [remS_it] at h2
      rw [remS_bg] at h3
      exact ⟨h1, by omega, h3⟩
theorem agP_keep {N : NS} (b : Int64) (q : Nat) (h : moQ N) : moQ (agP N b q).2 ∧ (agP N b q).2.2.1 0 ≤ N.2.1 0 ∧ (agP N b q).2.2.1 1 = N.2.1 1 := by
  unfold agP
  split
  · exact agL_keep q _ N h
  · exact ⟨h, Nat.le_refl _, rfl⟩
theorem agM_keep {N : NS} (b : Int64) (h : moQ N) : ∀ n, moQ (agM N b n).2 ∧ (agM N b n).2.2.1 0 ≤ N.2.1 0 ∧ (agM N b n).2.2.1 1 = N.2.1 1
  | 0 => by rw [agM_zero]; exact ⟨h, Nat.le_refl _, rfl⟩
  | n + 1 => by
    obtain ⟨h1, h2, h3⟩ := agM_keep b h n
    obtain ⟨g1, g2, g3⟩ := agP_keep b n h1
    rw [agM_succ]
    exact ⟨g1, Nat.le_trans g2 h2, g3.trans h3⟩
