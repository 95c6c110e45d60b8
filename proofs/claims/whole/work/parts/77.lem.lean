theorem nxM_nn (N : NS) (i j : Nat) : (nxM N i j).2.2.1 = N.2.1 := by
  unfold nxM
  repeat' split
  all_goals rfl
theorem tkM_it (N : NS) (i : Nat) : (tkM N i).2.2.1 0 ≤ N.2.1 0 ∧ (tkM N i).2.2.1 1 = N.2.1 1 := by
  unfold tkM
  split
  · exact ⟨Nat.le_refl _, rfl⟩
  · split
    · exact ⟨Nat.le_refl _, rfl⟩
    · split
      · exact ⟨Nat.le_refl _, rfl⟩
      · dsimp only
        rw [remS_it, remS_bg]
        exact ⟨Nat.sub_le _ _, rfl⟩
theorem trM_nn (N : NS) (i : Nat) (n c : Int32) : (trM N i n c).2.2.1 = N.2.1 := by
  unfold trM
  repeat' split
  all_goals rfl
theorem rwM_nn (N : NS) (i : Nat) (n : Int32) (v : Int64) : (rwM N i n v).2.2.1 = N.2.1 := by
  unfold rwM
  repeat' split
  all_goals rfl
theorem enT_nn (N : NS) (q : Nat) : (enT N q).2.2.1 0 = N.2.1 0 ∧ (enT N q).2.2.1 1 ≤ N.2.1 1 + 1 := by
  unfold enT
  split
  · exact ⟨taskS_it N (N.2.2.1 10 q), Nat.le_of_eq (taskS_bg N (N.2.2.1 10 q))⟩
  · exact ⟨rfl, Nat.le_succ _⟩
theorem enN_nn (N : NS) (t : Int32) : ∀ d, (enN N t d).2.2.1 0 = N.2.1 0 ∧ (enN N t d).2.2.1 1 ≤ N.2.1 1 + 1
  | 0 => by rw [enN_zero]; exact ⟨rfl, Nat.le_succ _⟩
  | d + 1 => by
    rw [enN_succ]
    split
    · exact enN_nn N t d
    · exact enT_nn N _
theorem enM_nn (N : NS) (t : Int32) : (enM N t).2.2.1 0 = N.2.1 0 ∧ (enM N t).2.2.1 1 ≤ N.2.1 1 + 1 := by
  unfold enM
  split
  · exact ⟨rfl, Nat.le_succ _⟩
  · split
    · exact ⟨rfl, Nat.le_succ _⟩
    · exact enN_nn _ _ _
theorem unN_nn (u c : Int32) : ∀ (k : Nat) (N : NS), (unN N u c k).2.2.1 0 ≤ N.2.1 0 ∧ (unN N u c k).2.2.1 1 = N.2.1 1 := by
  intro k
  induction k with
  | zero => intro N; rw [unN_zero]; exact ⟨Nat.le_refl _, rfl⟩
  | succ k ih =>
    intro N
    rw [unN]
    split
    · exact ih N
    · split
      · exact ih _
      · have := ih (remS (unO (sI N 4 k 0) (N.2.2.1 2 k).toNatClampNeg) k (N.2.2.1 2 k).toNatClampNeg)
        rw [remS_it, remS_bg] at this
        exact ⟨Nat.le_trans this.1 (Nat.sub_le _ _), this.2⟩
theorem unM_nn (N : NS) (u c : Int32) : (unM N u c).2.2.1 0 ≤ N.2.1 0 ∧ (unM N u c).2.2.1 1 = N.2.1 1 := by
  unfold unM
  split
  · exact ⟨Nat.le_refl _, rfl⟩
  · exact unN_nn u c _ N
