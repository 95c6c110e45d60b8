set_option maxHeartbeats 4000000 in
set_option maxRecDepth 100000 in
theorem c_Mo_isQueue (l : Launch) (g : ZG) (M : ZM) (q : Int32)  : ZC vcl tlx GT l g y_Mo_isQueue b_Mo_isQueue 1 (Option.some FieldType.boolean) (ZRm 0 0 0) [.int q] M (fun r M' => M = M' ∧ r = some (.int (if q < 0 ∨ 32 ≤ q then 0 else 1))) := by
  refine ZC.of (by decide) (Nat.le_of_ble_eq_true rfl) rfl (fun k hz0 => ?_)
  refine z_iload_n d_Mo_isQueue_0 rfl ?_
  refine z_if_lt (tgt := 14) d_Mo_isQueue_1 (by decide) (fun h1 => ?_) (fun h1 => ?_)
  · skip
    refine z_iconst (v := 0) d_Mo_isQueue_14 (by decide) ?_
    refine z_zreturn d_Mo_isQueue_15 rfl (by decide) ?_ (by decide) (by decide)
    exact ⟨rfl, by first | simp [h1, h7] | simp [h1]⟩
  · skip
    refine z_iload_n d_Mo_isQueue_4 rfl ?_
    refine z_bipush (v := 32) d_Mo_isQueue_5 (by decide) ?_
    refine z_icmp_ge (tgt := 14) d_Mo_isQueue_7 (by decide) (fun h7 => ?_) (fun h7 => ?_)
    · skip
      refine z_iconst (v := 0) d_Mo_isQueue_14 (by decide) ?_
      refine z_zreturn d_Mo_isQueue_15 rfl (by decide) ?_ (by decide) (by decide)
      exact ⟨rfl, by first | simp [h1, h7] | simp [h1]⟩
    · skip
      refine z_iconst (v := 1) d_Mo_isQueue_10 (by decide) ?_
      refine z_goto (tgt := 15) d_Mo_isQueue_11 (by decide) ?_
      refine z_zreturn d_Mo_isQueue_15 rfl (by decide) ?_ (by decide) (by decide)
      exact ⟨rfl, by first | simp [h1, h7] | simp [h1]⟩
set_option maxHeartbeats 4000000 in
set_option maxRecDepth 100000 in
theorem c_Mo_thrown (l : Launch) (g : ZG) (m : Nat) (ad : Nat → Nat) (N : NS) (hA : zAd g.2.2.2.1 m ad) : ZC vcl tlx GT l g y_Mo_thrown b_Mo_thrown 1 (Option.some FieldType.int) (ZRm 0 0 0) [.ref m] (zmo g.2.2.2.1 m ad N) (fun r M' => r = some (.int (N.1 0)) ∧ M' = zmo g.2.2.2.1 m ad (N)) := by
  refine ZC.of (by decide) (Nat.le_of_ble_eq_true rfl) rfl (fun k hz0 => ?_)
  refine z_aload_n d_Mo_thrown_0 rfl ?_
  refine z_get d_Mo_thrown_1 zf_Mo_76 (zmo_m _ _ _ _) rfl ?_
  refine z_ireturn d_Mo_thrown_4 rfl ?_ (by decide) (by decide)
  exact ⟨rfl, rfl⟩
set_option maxHeartbeats 4000000 in
set_option maxRecDepth 100000 in
theorem c_Mo_isTemporary (l : Launch) (g : ZG) (m : Nat) (ad : Nat → Nat) (N : NS) (q : Nat) (hA : zAd g.2.2.2.1 m ad) (hq : q < 32) : ZC vcl tlx GT l g y_Mo_isTemporary b_Mo_isTemporary 2 (Option.some FieldType.boolean) (ZRm 0 0 0) [.ref m, .int (nI q)] (zmo g.2.2.2.1 m ad N) (fun r M' => r = some (.int (if N.2.2.1 7 q = 0 ∨ N.2.2.1 7 q = 1 then 1 else 0)) ∧ M' = zmo g.2.2.2.1 m ad (N)) := by
  refine ZC.of (by decide) (Nat.le_of_ble_eq_true rfl) rfl (fun k hz0 => ?_)
  refine z_aload_n d_Mo_isTemporary_0 rfl ?_
  refine z_get d_Mo_isTemporary_1 zf_Mo_23 (zmo_m _ _ _ _) rfl ?_
  refine z_iload_n d_Mo_isTemporary_4 rfl ?_
  refine z_iald d_Mo_isTemporary_5 (rd_7 hA _) rfl (by first | omega | (dsimp only [sI, sL, sS, sN, sW]; omega) | (simp only [sI, sL, sS, sN, sW, va_up_self]; omega) | (simp [sI, sL, sS, sN, sW, va_up]; omega)) (ri_get (by first | omega | (dsimp only [sI, sL, sS, sN, sW]; omega) | (simp only [sI, sL, sS, sN, sW, va_up_self]; omega) | (simp [sI, sL, sS, sN, sW, va_up]; omega))) ?_
  refine z_if_eq (tgt := 19) d_Mo_isTemporary_6 (by decide) (fun h6 => ?_) (fun h6 => ?_)
  · skip
    refine z_iconst (v := 1) d_Mo_isTemporary_19 (by decide) ?_
    refine z_goto (tgt := 24) d_Mo_isTemporary_20 (by decide) ?_
    refine z_zreturn d_Mo_isTemporary_24 rfl (by decide) ?_ (by decide) (by decide)
    exact ⟨by first | simp [h6, h16] | simp [h6], rfl⟩
  · skip
    refine z_aload_n d_Mo_isTemporary_9 rfl ?_
    refine z_get d_Mo_isTemporary_10 zf_Mo_23 (zmo_m _ _ _ _) rfl ?_
    refine z_iload_n d_Mo_isTemporary_13 rfl ?_
    refine z_iald d_Mo_isTemporary_14 (rd_7 hA _) rfl (by first | omega | (dsimp only [sI, sL, sS, sN, sW]; omega) | (simp only [sI, sL, sS, sN, sW, va_up_self]; omega) | (simp [sI, sL, sS, sN, sW, va_up]; omega)) (ri_get (by first | omega | (dsimp only [sI, sL, sS, sN, sW]; omega) | (simp only [sI, sL, sS, sN, sW, va_up_self]; omega) | (simp [sI, sL, sS, sN, sW, va_up]; omega))) ?_
    refine z_iconst (v := 1) d_Mo_isTemporary_15 (by decide) ?_
    refine z_icmp_ne (tgt := 23) d_Mo_isTemporary_16 (by decide) (fun h16 => ?_) (fun h16 => ?_)
    · skip
      refine z_iconst (v := 0) d_Mo_isTemporary_23 (by decide) ?_
      refine z_zreturn d_Mo_isTemporary_24 rfl (by decide) ?_ (by decide) (by decide)
      exact ⟨by first | simp [h6, h16] | simp [h6], rfl⟩
    · skip
      refine z_iconst (v := 1) d_Mo_isTemporary_19 (by decide) ?_
      refine z_goto (tgt := 24) d_Mo_isTemporary_20 (by decide) ?_
      refine z_zreturn d_Mo_isTemporary_24 rfl (by decide) ?_ (by decide) (by decide)
      exact ⟨by first | simp [h6, h16] | simp [h6], rfl⟩
set_option maxHeartbeats 4000000 in
set_option maxRecDepth 100000 in
theorem c_Mo_isTransient (l : Launch) (g : ZG) (m : Nat) (ad : Nat → Nat) (N : NS) (q : Nat) (hA : zAd g.2.2.2.1 m ad) (hq : q < 32) : ZC vcl tlx GT l g y_Mo_isTransient b_Mo_isTransient 2 (Option.some FieldType.boolean) (ZRm 0 0 0) [.ref m, .int (nI q)] (zmo g.2.2.2.1 m ad N) (fun r M' => r = some (.int (if N.2.2.1 7 q ≤ 1 then 0 else 1)) ∧ M' = zmo g.2.2.2.1 m ad (N)) := by
  refine ZC.of (by decide) (Nat.le_of_ble_eq_true rfl) rfl (fun k hz0 => ?_)
  refine z_aload_n d_Mo_isTransient_0 rfl ?_
  refine z_get d_Mo_isTransient_1 zf_Mo_23 (zmo_m _ _ _ _) rfl ?_
  refine z_iload_n d_Mo_isTransient_4 rfl ?_
  refine z_iald d_Mo_isTransient_5 (rd_7 hA _) rfl (by first | omega | (dsimp only [sI, sL, sS, sN, sW]; omega) | (simp only [sI, sL, sS, sN, sW, va_up_self]; omega) | (simp [sI, sL, sS, sN, sW, va_up]; omega)) (ri_get (by first | omega | (dsimp only [sI, sL, sS, sN, sW]; omega) | (simp only [sI, sL, sS, sN, sW, va_up_self]; omega) | (simp [sI, sL, sS, sN, sW, va_up]; omega))) ?_
  refine z_iconst (v := 1) d_Mo_isTransient_6 (by decide) ?_
  refine z_icmp_le (tgt := 14) d_Mo_isTransient_7 (by decide) (fun h7 => ?_) (fun h7 => ?_)
  · skip
    refine z_iconst (v := 0) d_Mo_isTransient_14 (by decide) ?_
    refine z_zreturn d_Mo_isTransient_15 rfl (by decide) ?_ (by decide) (by decide)
    exact ⟨by simp [h7], rfl⟩
  · skip
    refine z_iconst (v := 1) d_Mo_isTransient_10 (by decide) ?_
    refine z_goto (tgt := 15) d_Mo_isTransient_11 (by decide) ?_
    refine z_zreturn d_Mo_isTransient_15 rfl (by decide) ?_ (by decide) (by decide)
    exact ⟨by simp [h7], rfl⟩
set_option maxHeartbeats 4000000 in
set_option maxRecDepth 100000 in
theorem lp_Mo_many (g : ZG) (k0 : ZK) (m : Nat) (ad : Nat → Nat) (N : NS) (q : Int32) (hA : zAd g.2.2.2.1 m ad)  (hit : N.2.1 0 ≤ 1100) : ∀ (d k : Nat), k + d = N.2.1 0 → ZW vcl tlx GT "MonitorQueuesModel" b_Mo_many 4 (Option.some FieldType.int) "many" (ZRm 0 0 0) g k0 (fun r M' => r = some (.int (nI (mnN N q (N.2.1 0)))) ∧ M' = zmo g.2.2.2.1 m ad (N)) [some (.ref m), some (.int q), some (.int (nI (mnN N q k))), some (.int (nI k))] 4 [] (zmo g.2.2.2.1 m ad N) 0 0 := by
  intro d
  induction d with
  | zero =>
    intro k hk
    refine z_iload_n d_Mo_many_4 rfl ?_
    refine z_aload_n d_Mo_many_5 rfl ?_
    refine z_get d_Mo_many_6 zf_Mo_79 (zmo_m _ _ _ _) rfl ?_
    refine z_icmp_ge (tgt := 36) d_Mo_many_9 (by decide) (fun h9 => ?_) (fun h9 => False.elim (h9 (nI_le (show N.2.1 0 ≤ k by omega) (by omega))))
    refine z_iload_n d_Mo_many_36 rfl ?_
    refine z_ireturn d_Mo_many_37 rfl ?_ (by decide) (by decide)
    rw [show k = N.2.1 0 by omega]
    exact ⟨rfl, rfl⟩
  | succ d ih =>
    intro k hk
    refine z_iload_n d_Mo_many_4 rfl ?_
    refine z_aload_n d_Mo_many_5 rfl ?_
    refine z_get d_Mo_many_6 zf_Mo_79 (zmo_m _ _ _ _) rfl ?_
    refine z_icmp_ge (tgt := 36) d_Mo_many_9 (by decide) (fun h9 => False.elim (nI_ge (show k < N.2.1 0 by omega) (by omega) h9)) (fun h9 => ?_)
    refine z_iload_n d_Mo_many_12 rfl ?_
    refine z_aload_n d_Mo_many_13 rfl ?_
    refine z_get d_Mo_many_14 zf_Mo_7 (zmo_m _ _ _ _) rfl ?_
    refine z_iload_n d_Mo_many_17 rfl ?_
    refine z_iald d_Mo_many_18 (rd_2 hA _) rfl (by first | omega | (dsimp only [sI, sL, sS, sN, sW]; omega) | (simp only [sI, sL, sS, sN, sW, va_up_self]; omega) | (simp [sI, sL, sS, sN, sW, va_up]; omega)) (ri_get (by first | omega | (dsimp only [sI, sL, sS, sN, sW]; omega) | (simp only [sI, sL, sS, sN, sW, va_up_self]; omega) | (simp [sI, sL, sS, sN, sW, va_up]; omega))) ?_
    refine z_iload_n d_Mo_many_19 rfl ?_
    refine z_icmp_ne (tgt := 27) d_Mo_many_20 (by decide) (fun h20 => ?_) (fun h20 => ?_)
    · skip
      have hc : ¬ N.2.2.1 2 k = q := h20
      refine z_iconst (v := 0) d_Mo_many_27 (by decide) ?_
      refine z_iadd d_Mo_many_28 ?_
      first | rw [show nI (mnN N q k) + 1 = nI (mnN N q (k + 1)) by rw [nI_1, mnN, if_pos hc]] | rw [show nI (mnN N q k) + 0 = nI (mnN N q (k + 1)) by rw [mnN, if_neg hc, Nat.add_zero, Int32.add_zero]]
      refine z_istore_n (i := 2) d_Mo_many_29 rfl (by decide) rfl ?_
      refine z_iinc (v := nI (k + 1)) d_Mo_many_30 rfl (nI_1 k) (by decide) rfl ?_
      refine z_goto (tgt := 4) d_Mo_many_33 (by decide) ?_
      exact ih (k + 1) (by omega)
    · skip
      have hc : N.2.2.1 2 k = q := h20
      refine z_iconst (v := 1) d_Mo_many_23 (by decide) ?_
      refine z_goto (tgt := 28) d_Mo_many_24 (by decide) ?_
      refine z_iadd d_Mo_many_28 ?_
      first | rw [show nI (mnN N q k) + 1 = nI (mnN N q (k + 1)) by rw [nI_1, mnN, if_pos hc]] | rw [show nI (mnN N q k) + 0 = nI (mnN N q (k + 1)) by rw [mnN, if_neg hc, Nat.add_zero, Int32.add_zero]]
      refine z_istore_n (i := 2) d_Mo_many_29 rfl (by decide) rfl ?_
      refine z_iinc (v := nI (k + 1)) d_Mo_many_30 rfl (nI_1 k) (by decide) rfl ?_
      refine z_goto (tgt := 4) d_Mo_many_33 (by decide) ?_
      exact ih (k + 1) (by omega)
set_option maxHeartbeats 4000000 in
set_option maxRecDepth 100000 in
theorem c_Mo_many (l : Launch) (g : ZG) (m : Nat) (ad : Nat → Nat) (N : NS) (q : Int32) (hA : zAd g.2.2.2.1 m ad) (hit : N.2.1 0 ≤ 1100) : ZC vcl tlx GT l g y_Mo_many b_Mo_many 4 (Option.some FieldType.int) (ZRm 0 0 0) [.ref m, .int q] (zmo g.2.2.2.1 m ad N) (fun r M' => r = some (.int (nI (mnN N q (N.2.1 0)))) ∧ M' = zmo g.2.2.2.1 m ad (N)) := by
  refine ZC.of (by decide) (Nat.le_of_ble_eq_true rfl) rfl (fun k hz0 => ?_)
  refine z_iconst (v := 0) d_Mo_many_0 (by decide) ?_
  refine z_istore_n (i := 2) d_Mo_many_1 rfl (by decide) rfl ?_
  refine z_iconst (v := 0) d_Mo_many_2 (by decide) ?_
  refine z_istore_n (i := 3) d_Mo_many_3 rfl (by decide) rfl ?_
  exact lp_Mo_many g k m ad N q hA hit (N.2.1 0) 0 (by simp)
set_option maxHeartbeats 4000000 in
set_option maxRecDepth 100000 in
theorem lp_Mo_standing (g : ZG) (k0 : ZK) (m : Nat) (ad : Nat → Nat) (N : NS) (q : Int32) (hA : zAd g.2.2.2.1 m ad)  (hit : N.2.1 0 ≤ 1100) : ∀ (d k : Nat), k + d = N.2.1 0 → ZW vcl tlx GT "MonitorQueuesModel" b_Mo_standing 4 (Option.some FieldType.int) "standing" (ZRm 0 0 0) g k0 (fun r M' => r = some (.int (nI (stN N q (N.2.1 0)))) ∧ M' = zmo g.2.2.2.1 m ad (N)) [some (.ref m), some (.int q), some (.int (nI (stN N q k))), some (.int (nI k))] 4 [] (zmo g.2.2.2.1 m ad N) 0 0 := by
  intro d
  induction d with
  | zero =>
    intro k hk
    refine z_iload_n d_Mo_standing_4 rfl ?_
    refine z_aload_n d_Mo_standing_5 rfl ?_
    refine z_get d_Mo_standing_6 zf_Mo_79 (zmo_m _ _ _ _) rfl ?_
    refine z_icmp_ge (tgt := 45) d_Mo_standing_9 (by decide) (fun h9 => ?_) (fun h9 => False.elim (h9 (nI_le (show N.2.1 0 ≤ k by omega) (by omega))))
    refine z_iload_n d_Mo_standing_45 rfl ?_
    refine z_ireturn d_Mo_standing_46 rfl ?_ (by decide) (by decide)
    rw [show k = N.2.1 0 by omega]
    exact ⟨rfl, rfl⟩
  | succ d ih =>
    intro k hk
    refine z_iload_n d_Mo_standing_4 rfl ?_
    refine z_aload_n d_Mo_standing_5 rfl ?_
    refine z_get d_Mo_standing_6 zf_Mo_79 (zmo_m _ _ _ _) rfl ?_
    refine z_icmp_ge (tgt := 45) d_Mo_standing_9 (by decide) (fun h9 => False.elim (nI_ge (show k < N.2.1 0 by omega) (by omega) h9)) (fun h9 => ?_)
    refine z_iload_n d_Mo_standing_12 rfl ?_
    refine z_aload_n d_Mo_standing_13 rfl ?_
    refine z_get d_Mo_standing_14 zf_Mo_7 (zmo_m _ _ _ _) rfl ?_
    refine z_iload_n d_Mo_standing_17 rfl ?_
    refine z_iald d_Mo_standing_18 (rd_2 hA _) rfl (by first | omega | (dsimp only [sI, sL, sS, sN, sW]; omega) | (simp only [sI, sL, sS, sN, sW, va_up_self]; omega) | (simp [sI, sL, sS, sN, sW, va_up]; omega)) (ri_get (by first | omega | (dsimp only [sI, sL, sS, sN, sW]; omega) | (simp only [sI, sL, sS, sN, sW, va_up_self]; omega) | (simp [sI, sL, sS, sN, sW, va_up]; omega))) ?_
    refine z_iload_n d_Mo_standing_19 rfl ?_
    refine z_icmp_ne (tgt := 36) d_Mo_standing_20 (by decide) (fun h20 => ?_) (fun h20 => ?_)
    · skip
      have hc : ¬ (N.2.2.1 2 k = q ∧ N.2.2.1 4 k = 0) := fun h => h20 h.1
      refine z_iconst (v := 0) d_Mo_standing_36 (by decide) ?_
      refine z_iadd d_Mo_standing_37 ?_
      first | rw [show nI (stN N q k) + 1 = nI (stN N q (k + 1)) by rw [nI_1, stN, if_pos hc]] | rw [show nI (stN N q k) + 0 = nI (stN N q (k + 1)) by rw [stN, if_neg hc, Nat.add_zero, Int32.add_zero]]
      refine z_istore_n (i := 2) d_Mo_standing_38 rfl (by decide) rfl ?_
      refine z_iinc (v := nI (k + 1)) d_Mo_standing_39 rfl (nI_1 k) (by decide) rfl ?_
      refine z_goto (tgt := 4) d_Mo_standing_42 (by decide) ?_
      exact ih (k + 1) (by omega)
    · skip
      refine z_aload_n d_Mo_standing_23 rfl ?_
      refine z_get d_Mo_standing_24 zf_Mo_16 (zmo_m _ _ _ _) rfl ?_
      refine z_iload_n d_Mo_standing_27 rfl ?_
      refine z_iald d_Mo_standing_28 (rd_4 hA _) rfl (by first | omega | (dsimp only [sI, sL, sS, sN, sW]; omega) | (simp only [sI, sL, sS, sN, sW, va_up_self]; omega) | (simp [sI, sL, sS, sN, sW, va_up]; omega)) (ri_get (by first | omega | (dsimp only [sI, sL, sS, sN, sW]; omega) | (simp only [sI, sL, sS, sN, sW, va_up_self]; omega) | (simp [sI, sL, sS, sN, sW, va_up]; omega))) ?_
      refine z_if_ne (tgt := 36) d_Mo_standing_29 (by decide) (fun h29 => ?_) (fun h29 => ?_)
      · skip
        have hc : ¬ (N.2.2.1 2 k = q ∧ N.2.2.1 4 k = 0) := fun h => h29 h.2
        refine z_iconst (v := 0) d_Mo_standing_36 (by decide) ?_
        refine z_iadd d_Mo_standing_37 ?_
        first | rw [show nI (stN N q k) + 1 = nI (stN N q (k + 1)) by rw [nI_1, stN, if_pos hc]] | rw [show nI (stN N q k) + 0 = nI (stN N q (k + 1)) by rw [stN, if_neg hc, Nat.add_zero, Int32.add_zero]]
        refine z_istore_n (i := 2) d_Mo_standing_38 rfl (by decide) rfl ?_
        refine z_iinc (v := nI (k + 1)) d_Mo_standing_39 rfl (nI_1 k) (by decide) rfl ?_
        refine z_goto (tgt := 4) d_Mo_standing_42 (by decide) ?_
        exact ih (k + 1) (by omega)
      · skip
        have hc : N.2.2.1 2 k = q ∧ N.2.2.1 4 k = 0 := ⟨h20, h29⟩
        refine z_iconst (v := 1) d_Mo_standing_32 (by decide) ?_
        refine z_goto (tgt := 37) d_Mo_standing_33 (by decide) ?_
        refine z_iadd d_Mo_standing_37 ?_
        first | rw [show nI (stN N q k) + 1 = nI (stN N q (k + 1)) by rw [nI_1, stN, if_pos hc]] | rw [show nI (stN N q k) + 0 = nI (stN N q (k + 1)) by rw [stN, if_neg hc, Nat.add_zero, Int32.add_zero]]
        refine z_istore_n (i := 2) d_Mo_standing_38 rfl (by decide) rfl ?_
        refine z_iinc (v := nI (k + 1)) d_Mo_standing_39 rfl (nI_1 k) (by decide) rfl ?_
        refine z_goto (tgt := 4) d_Mo_standing_42 (by decide) ?_
        exact ih (k + 1) (by omega)
set_option maxHeartbeats 4000000 in
set_option maxRecDepth 100000 in
theorem c_Mo_standing (l : Launch) (g : ZG) (m : Nat) (ad : Nat → Nat) (N : NS) (q : Int32) (hA : zAd g.2.2.2.1 m ad) (hit : N.2.1 0 ≤ 1100) : ZC vcl tlx GT l g y_Mo_standing b_Mo_standing 4 (Option.some FieldType.int) (ZRm 0 0 0) [.ref m, .int q] (zmo g.2.2.2.1 m ad N) (fun r M' => r = some (.int (nI (stN N q (N.2.1 0)))) ∧ M' = zmo g.2.2.2.1 m ad (N)) := by
  refine ZC.of (by decide) (Nat.le_of_ble_eq_true rfl) rfl (fun k hz0 => ?_)
  refine z_iconst (v := 0) d_Mo_standing_0 (by decide) ?_
  refine z_istore_n (i := 2) d_Mo_standing_1 rfl (by decide) rfl ?_
  refine z_iconst (v := 0) d_Mo_standing_2 (by decide) ?_
  refine z_istore_n (i := 3) d_Mo_standing_3 rfl (by decide) rfl ?_
  exact lp_Mo_standing g k m ad N q hA hit (N.2.1 0) 0 (by simp)
set_option maxHeartbeats 4000000 in
set_option maxRecDepth 100000 in
theorem lp_Mo_lockOf (g : ZG) (k0 : ZK) (m : Nat) (ad : Nat → Nat) (N : NS) (q : Int32) (hA : zAd g.2.2.2.1 m ad)  (hit : N.2.1 0 ≤ 1100) : ∀ (d k : Nat), k + d = N.2.1 0 → ZW vcl tlx GT "MonitorQueuesModel" b_Mo_lockOf 4 (Option.some FieldType.int) "lockOf" (ZRm 0 0 0) g k0 (fun r M' => r = some (.int (lkN N q (N.2.1 0))) ∧ M' = zmo g.2.2.2.1 m ad (N)) [some (.ref m), some (.int q), some (.int (lkN N q k)), some (.int (nI k))] 4 [] (zmo g.2.2.2.1 m ad N) 0 0 := by
  intro d
  induction d with
  | zero =>
    intro k hk
    refine z_iload_n d_Mo_lockOf_4 rfl ?_
    refine z_aload_n d_Mo_lockOf_5 rfl ?_
    refine z_get d_Mo_lockOf_6 zf_Mo_79 (zmo_m _ _ _ _) rfl ?_
    refine z_icmp_ge (tgt := 48) d_Mo_lockOf_9 (by decide) (fun h9 => ?_) (fun h9 => False.elim (h9 (nI_le (show N.2.1 0 ≤ k by omega) (by omega))))
    refine z_iload_n d_Mo_lockOf_48 rfl ?_
    refine z_ireturn d_Mo_lockOf_49 rfl ?_ (by decide) (by decide)
    rw [show k = N.2.1 0 by omega]
    exact ⟨rfl, rfl⟩
  | succ d ih =>
    intro k hk
    refine z_iload_n d_Mo_lockOf_4 rfl ?_
    refine z_aload_n d_Mo_lockOf_5 rfl ?_
    refine z_get d_Mo_lockOf_6 zf_Mo_79 (zmo_m _ _ _ _) rfl ?_
    refine z_icmp_ge (tgt := 48) d_Mo_lockOf_9 (by decide) (fun h9 => False.elim (nI_ge (show k < N.2.1 0 by omega) (by omega) h9)) (fun h9 => ?_)
    refine z_aload_n d_Mo_lockOf_12 rfl ?_
    refine z_get d_Mo_lockOf_13 zf_Mo_7 (zmo_m _ _ _ _) rfl ?_
    refine z_iload_n d_Mo_lockOf_16 rfl ?_
    refine z_iald d_Mo_lockOf_17 (rd_2 hA _) rfl (by first | omega | (dsimp only [sI, sL, sS, sN, sW]; omega) | (simp only [sI, sL, sS, sN, sW, va_up_self]; omega) | (simp [sI, sL, sS, sN, sW, va_up]; omega)) (ri_get (by first | omega | (dsimp only [sI, sL, sS, sN, sW]; omega) | (simp only [sI, sL, sS, sN, sW, va_up_self]; omega) | (simp [sI, sL, sS, sN, sW, va_up]; omega))) ?_
    refine z_iload_n d_Mo_lockOf_18 rfl ?_
    refine z_icmp_ne (tgt := 40) d_Mo_lockOf_19 (by decide) (fun h19 => ?_) (fun h19 => ?_)
    · skip
      have hc : ¬ (N.2.2.1 2 k = q ∧ ¬ N.2.2.1 4 k ≤ 0) := fun h => h19 h.1
      refine z_iload_n d_Mo_lockOf_40 rfl ?_
      first | rw [show N.2.2.1 4 k = lkN N q (k + 1) by rw [lkN, if_pos hc]] | rw [show lkN N q k = lkN N q (k + 1) by rw [lkN, if_neg hc]]
      refine z_istore_n (i := 2) d_Mo_lockOf_41 rfl (by decide) rfl ?_
      refine z_iinc (v := nI (k + 1)) d_Mo_lockOf_42 rfl (nI_1 k) (by decide) rfl ?_
      refine z_goto (tgt := 4) d_Mo_lockOf_45 (by decide) ?_
      exact ih (k + 1) (by omega)
    · skip
      refine z_aload_n d_Mo_lockOf_22 rfl ?_
      refine z_get d_Mo_lockOf_23 zf_Mo_16 (zmo_m _ _ _ _) rfl ?_
      refine z_iload_n d_Mo_lockOf_26 rfl ?_
      refine z_iald d_Mo_lockOf_27 (rd_4 hA _) rfl (by first | omega | (dsimp only [sI, sL, sS, sN, sW]; omega) | (simp only [sI, sL, sS, sN, sW, va_up_self]; omega) | (simp [sI, sL, sS, sN, sW, va_up]; omega)) (ri_get (by first | omega | (dsimp only [sI, sL, sS, sN, sW]; omega) | (simp only [sI, sL, sS, sN, sW, va_up_self]; omega) | (simp [sI, sL, sS, sN, sW, va_up]; omega))) ?_
      refine z_if_le (tgt := 40) d_Mo_lockOf_28 (by decide) (fun h28 => ?_) (fun h28 => ?_)
      · skip
        have hc : ¬ (N.2.2.1 2 k = q ∧ ¬ N.2.2.1 4 k ≤ 0) := fun h => h.2 h28
        refine z_iload_n d_Mo_lockOf_40 rfl ?_
        first | rw [show N.2.2.1 4 k = lkN N q (k + 1) by rw [lkN, if_pos hc]] | rw [show lkN N q k = lkN N q (k + 1) by rw [lkN, if_neg hc]]
        refine z_istore_n (i := 2) d_Mo_lockOf_41 rfl (by decide) rfl ?_
        refine z_iinc (v := nI (k + 1)) d_Mo_lockOf_42 rfl (nI_1 k) (by decide) rfl ?_
        refine z_goto (tgt := 4) d_Mo_lockOf_45 (by decide) ?_
        exact ih (k + 1) (by omega)
      · skip
        have hc : N.2.2.1 2 k = q ∧ ¬ N.2.2.1 4 k ≤ 0 := ⟨h19, h28⟩
        refine z_aload_n d_Mo_lockOf_31 rfl ?_
        refine z_get d_Mo_lockOf_32 zf_Mo_16 (zmo_m _ _ _ _) rfl ?_
        refine z_iload_n d_Mo_lockOf_35 rfl ?_
        refine z_iald d_Mo_lockOf_36 (rd_4 hA _) rfl (by first | omega | (dsimp only [sI, sL, sS, sN, sW]; omega) | (simp only [sI, sL, sS, sN, sW, va_up_self]; omega) | (simp [sI, sL, sS, sN, sW, va_up]; omega)) (ri_get (by first | omega | (dsimp only [sI, sL, sS, sN, sW]; omega) | (simp only [sI, sL, sS, sN, sW, va_up_self]; omega) | (simp [sI, sL, sS, sN, sW, va_up]; omega))) ?_
        refine z_goto (tgt := 41) d_Mo_lockOf_37 (by decide) ?_
        first | rw [show N.2.2.1 4 k = lkN N q (k + 1) by rw [lkN, if_pos hc]] | rw [show lkN N q k = lkN N q (k + 1) by rw [lkN, if_neg hc]]
        refine z_istore_n (i := 2) d_Mo_lockOf_41 rfl (by decide) rfl ?_
        refine z_iinc (v := nI (k + 1)) d_Mo_lockOf_42 rfl (nI_1 k) (by decide) rfl ?_
        refine z_goto (tgt := 4) d_Mo_lockOf_45 (by decide) ?_
        exact ih (k + 1) (by omega)
set_option maxHeartbeats 4000000 in
set_option maxRecDepth 100000 in
theorem c_Mo_lockOf (l : Launch) (g : ZG) (m : Nat) (ad : Nat → Nat) (N : NS) (q : Int32) (hA : zAd g.2.2.2.1 m ad) (hit : N.2.1 0 ≤ 1100) : ZC vcl tlx GT l g y_Mo_lockOf b_Mo_lockOf 4 (Option.some FieldType.int) (ZRm 0 0 0) [.ref m, .int q] (zmo g.2.2.2.1 m ad N) (fun r M' => r = some (.int (lkN N q (N.2.1 0))) ∧ M' = zmo g.2.2.2.1 m ad (N)) := by
  refine ZC.of (by decide) (Nat.le_of_ble_eq_true rfl) rfl (fun k hz0 => ?_)
  refine z_iconst (v := 0) d_Mo_lockOf_0 (by decide) ?_
  refine z_istore_n (i := 2) d_Mo_lockOf_1 rfl (by decide) rfl ?_
  refine z_iconst (v := 0) d_Mo_lockOf_2 (by decide) ?_
  refine z_istore_n (i := 3) d_Mo_lockOf_3 rfl (by decide) rfl ?_
  exact lp_Mo_lockOf g k m ad N q hA hit (N.2.1 0) 0 (by simp)
set_option maxHeartbeats 4000000 in
set_option maxRecDepth 100000 in
theorem lp_Mo_placeOf (g : ZG) (k0 : ZK) (m : Nat) (ad : Nat → Nat) (N : NS) (q i : Int32) (hA : zAd g.2.2.2.1 m ad)  (hit : N.2.1 0 ≤ 1100) : ∀ (d k n : Nat), k + d = N.2.1 0 → plI N q i = plN N q i d k n → ZW vcl tlx GT "MonitorQueuesModel" b_Mo_placeOf 5 (Option.some FieldType.int) "placeOf" (ZRm 0 0 0) g k0 (fun r M' => r = some (.int (plV (plI N q i))) ∧ M' = zmo g.2.2.2.1 m ad (N)) [some (.ref m), some (.int q), some (.int i), some (.int (nI n)), some (.int (nI k))] 5 [] (zmo g.2.2.2.1 m ad N) 0 0 := by
  intro d
  induction d with
  | zero =>
    intro k n hk hp
    refine z_iload d_Mo_placeOf_5 rfl ?_
    refine z_aload_n d_Mo_placeOf_7 rfl ?_
    refine z_get d_Mo_placeOf_8 zf_Mo_79 (zmo_m _ _ _ _) rfl ?_
    refine z_icmp_ge (tgt := 58) d_Mo_placeOf_11 (by decide) (fun h11 => ?_) (fun h11 => False.elim (h11 (nI_le (show N.2.1 0 ≤ k by omega) (by omega))))
    refine z_iconst (v := (-1)) d_Mo_placeOf_58 (by decide) ?_
    refine z_ireturn d_Mo_placeOf_59 rfl ?_ (by decide) (by decide)
    rw [hp]
    exact ⟨rfl, rfl⟩
  | succ d ih =>
    intro k n hk hp
    refine z_iload d_Mo_placeOf_5 rfl ?_
    refine z_aload_n d_Mo_placeOf_7 rfl ?_
    refine z_get d_Mo_placeOf_8 zf_Mo_79 (zmo_m _ _ _ _) rfl ?_
    refine z_icmp_ge (tgt := 58) d_Mo_placeOf_11 (by decide) (fun h11 => False.elim (nI_ge (show k < N.2.1 0 by omega) (by omega) h11)) (fun h11 => ?_)
    refine z_iload_n d_Mo_placeOf_14 rfl ?_
    refine z_aload_n d_Mo_placeOf_15 rfl ?_
    refine z_get d_Mo_placeOf_16 zf_Mo_7 (zmo_m _ _ _ _) rfl ?_
    refine z_iload d_Mo_placeOf_19 rfl ?_
    refine z_iald d_Mo_placeOf_21 (rd_2 hA _) rfl (by first | omega | (dsimp only [sI, sL, sS, sN, sW]; omega) | (simp only [sI, sL, sS, sN, sW, va_up_self]; omega) | (simp [sI, sL, sS, sN, sW, va_up]; omega)) (ri_get (by first | omega | (dsimp only [sI, sL, sS, sN, sW]; omega) | (simp only [sI, sL, sS, sN, sW, va_up_self]; omega) | (simp [sI, sL, sS, sN, sW, va_up]; omega))) ?_
    refine z_iload_n d_Mo_placeOf_22 rfl ?_
    refine z_icmp_ne (tgt := 30) d_Mo_placeOf_23 (by decide) (fun h23 => ?_) (fun h23 => ?_)
    · skip
      have hc : ¬ N.2.2.1 2 k = q := h23
      refine z_iconst (v := 0) d_Mo_placeOf_30 (by decide) ?_
      refine z_iadd d_Mo_placeOf_31 ?_
      rw [Int32.add_zero]
      refine z_istore_n (i := 3) d_Mo_placeOf_32 rfl (by decide) rfl ?_
      have hp2 : plI N q i = plN N q i d (k + 1) n := by rw [hp, plN, if_neg hc]
      refine z_aload_n d_Mo_placeOf_33 rfl ?_
      refine z_get d_Mo_placeOf_34 zf_Mo_7 (zmo_m _ _ _ _) rfl ?_
      refine z_iload d_Mo_placeOf_37 rfl ?_
      refine z_iald d_Mo_placeOf_39 (rd_2 hA _) rfl (by first | omega | (dsimp only [sI, sL, sS, sN, sW]; omega) | (simp only [sI, sL, sS, sN, sW, va_up_self]; omega) | (simp [sI, sL, sS, sN, sW, va_up]; omega)) (ri_get (by first | omega | (dsimp only [sI, sL, sS, sN, sW]; omega) | (simp only [sI, sL, sS, sN, sW, va_up_self]; omega) | (simp [sI, sL, sS, sN, sW, va_up]; omega))) ?_
      refine z_iload_n d_Mo_placeOf_40 rfl ?_
      refine z_icmp_ne (tgt := 52) d_Mo_placeOf_41 (by decide) (fun h41 => ?_) (fun h41 => False.elim (hc h41))
      refine z_iinc (v := nI (k + 1)) d_Mo_placeOf_52 rfl (nI_1 k) (by decide) rfl ?_
      refine z_goto (tgt := 5) d_Mo_placeOf_55 (by decide) ?_
      exact ih (k + 1) n (by omega) hp2
      skip
    · skip
      have hc : N.2.2.1 2 k = q := h23
      refine z_iconst (v := 1) d_Mo_placeOf_26 (by decide) ?_
      refine z_goto (tgt := 31) d_Mo_placeOf_27 (by decide) ?_
      refine z_iadd d_Mo_placeOf_31 ?_
      rw [nI_1]
      refine z_istore_n (i := 3) d_Mo_placeOf_32 rfl (by decide) rfl ?_
      refine z_aload_n d_Mo_placeOf_33 rfl ?_
      refine z_get d_Mo_placeOf_34 zf_Mo_7 (zmo_m _ _ _ _) rfl ?_
      refine z_iload d_Mo_placeOf_37 rfl ?_
      refine z_iald d_Mo_placeOf_39 (rd_2 hA _) rfl (by first | omega | (dsimp only [sI, sL, sS, sN, sW]; omega) | (simp only [sI, sL, sS, sN, sW, va_up_self]; omega) | (simp [sI, sL, sS, sN, sW, va_up]; omega)) (ri_get (by first | omega | (dsimp only [sI, sL, sS, sN, sW]; omega) | (simp only [sI, sL, sS, sN, sW, va_up_self]; omega) | (simp [sI, sL, sS, sN, sW, va_up]; omega))) ?_
      refine z_iload_n d_Mo_placeOf_40 rfl ?_
      refine z_icmp_ne (tgt := 52) d_Mo_placeOf_41 (by decide) (fun h41 => False.elim (h41 hc)) (fun h41 => ?_)
      refine z_iload_n d_Mo_placeOf_44 rfl ?_
      refine z_iload_n d_Mo_placeOf_45 rfl ?_
      refine z_icmp_ne (tgt := 52) d_Mo_placeOf_46 (by decide) (fun h46 => ?_) (fun h46 => ?_)
      · skip
        have hp2 : plI N q i = plN N q i d (k + 1) (n + 1) := by rw [hp, plN, if_pos hc, if_neg h46]
        refine z_iinc (v := nI (k + 1)) d_Mo_placeOf_52 rfl (nI_1 k) (by decide) rfl ?_
        refine z_goto (tgt := 5) d_Mo_placeOf_55 (by decide) ?_
        exact ih (k + 1) (n + 1) (by omega) hp2
      · skip
        have hp2 : plI N q i = some k := by rw [hp, plN, if_pos hc, if_pos h46]
        refine z_iload d_Mo_placeOf_49 rfl ?_
        refine z_ireturn d_Mo_placeOf_51 rfl ?_ (by decide) (by decide)
        rw [hp2]
        exact ⟨rfl, rfl⟩
      skip
set_option maxHeartbeats 4000000 in
set_option maxRecDepth 100000 in
theorem c_Mo_placeOf (l : Launch) (g : ZG) (m : Nat) (ad : Nat → Nat) (N : NS) (q i : Int32) (hA : zAd g.2.2.2.1 m ad) (hit : N.2.1 0 ≤ 1100) : ZC vcl tlx GT l g y_Mo_placeOf b_Mo_placeOf 5 (Option.some FieldType.int) (ZRm 0 0 0) [.ref m, .int q, .int i] (zmo g.2.2.2.1 m ad N) (fun r M' => r = some (.int (plV (plI N q i))) ∧ M' = zmo g.2.2.2.1 m ad (N)) := by
  refine ZC.of (by decide) (Nat.le_of_ble_eq_true rfl) rfl (fun k hz0 => ?_)
  refine z_iconst (v := 0) d_Mo_placeOf_0 (by decide) ?_
  refine z_istore_n (i := 3) d_Mo_placeOf_1 rfl (by decide) rfl ?_
  refine z_iconst (v := 0) d_Mo_placeOf_2 (by decide) ?_
  refine z_istore d_Mo_placeOf_3 (by decide) rfl ?_
  exact lp_Mo_placeOf g k m ad N q i hA hit (N.2.1 0) 0 0 (by simp) rfl
set_option maxHeartbeats 4000000 in
set_option maxRecDepth 100000 in
theorem c_Mo_task (l : Launch) (g : ZG) (m : Nat) (ad : Nat → Nat) (N : NS) (c : Int32) (hA : zAd g.2.2.2.1 m ad) (hb : N.2.1 1 < 4000) : ZC vcl tlx GT l g y_Mo_task b_Mo_task 2 (Option.some FieldType.int) (ZRm 0 0 0) [.ref m, .int c] (zmo g.2.2.2.1 m ad N) (fun r M' => r = some (.int (nI (N.2.1 1 + 1))) ∧ M' = zmo g.2.2.2.1 m ad (taskS N c)) := by
  refine ZC.of (by decide) (Nat.le_of_ble_eq_true rfl) rfl (fun k hz0 => ?_)
  refine z_aload_n d_Mo_task_0 rfl ?_
  refine z_get d_Mo_task_1 zf_Mo_57 (zmo_m _ _ _ _) rfl ?_
  refine z_aload_n d_Mo_task_4 rfl ?_
  refine z_get d_Mo_task_5 zf_Mo_90 (zmo_m _ _ _ _) rfl ?_
  refine z_iload_n d_Mo_task_8 rfl ?_
  refine z_iast d_Mo_task_9 (rd_18 hA _) rfl (by first | omega | (dsimp only [sI, sL, sS, sN, sW]; omega) | (simp only [sI, sL, sS, sN, sW, va_up_self]; omega) | (simp [sI, sL, sS, sN, sW, va_up]; omega)) (by rw [ri_len]; exact (by first | omega | (dsimp only [sI, sL, sS, sN, sW]; omega) | (simp only [sI, sL, sS, sN, sW, va_up_self]; omega) | (simp [sI, sL, sS, sN, sW, va_up]; omega))) ?_
  rw [wr_18 hA]
  refine z_aload_n d_Mo_task_10 rfl ?_
  refine z_get d_Mo_task_11 zf_Mo_60 (zmo_m _ _ _ _) rfl ?_
  refine z_aload_n d_Mo_task_14 rfl ?_
  refine z_get d_Mo_task_15 zf_Mo_90 (zmo_m _ _ _ _) rfl ?_
  refine z_iconst (v := 1) d_Mo_task_18 (by decide) ?_
  refine z_zast d_Mo_task_19 (rd_19 hA _) rfl (by first | omega | (dsimp only [sI, sL, sS, sN, sW]; omega) | (simp only [sI, sL, sS, sN, sW, va_up_self]; omega) | (simp [sI, sL, sS, sN, sW, va_up]; omega)) (by rw [ri_len]; exact (by first | omega | (dsimp only [sI, sL, sS, sN, sW]; omega) | (simp only [sI, sL, sS, sN, sW, va_up_self]; omega) | (simp [sI, sL, sS, sN, sW, va_up]; omega))) rfl ?_
  rw [wr_19 hA]
  refine z_aload_n d_Mo_task_20 rfl ?_
  refine z_dup d_Mo_task_21 rfl ?_
  refine z_get d_Mo_task_22 zf_Mo_90 (zmo_m _ _ _ _) rfl ?_
  refine z_iconst (v := 1) d_Mo_task_25 (by decide) ?_
  refine z_iadd d_Mo_task_26 ?_
  rw [show ∀ x : Nat, nI x + 1 = nI (x + 1) from nI_1]
  refine z_put d_Mo_task_27 zp_Mo_90 (zmo_m _ _ _ _) rfl rfl ?_
  rw [ws_20]
  refine z_aload_n d_Mo_task_30 rfl ?_
  refine z_dup d_Mo_task_31 rfl ?_
  refine z_get d_Mo_task_32 zf_Mo_93 (zmo_m _ _ _ _) rfl ?_
  refine z_iconst (v := 1) d_Mo_task_35 (by decide) ?_
  refine z_iadd d_Mo_task_36 ?_
  refine z_put d_Mo_task_37 zp_Mo_93 (zmo_m _ _ _ _) rfl rfl ?_
  rw [ws_21]
  refine z_aload_n d_Mo_task_40 rfl ?_
  refine z_get d_Mo_task_41 zf_Mo_90 (zmo_m _ _ _ _) rfl ?_
  refine z_ireturn d_Mo_task_44 rfl ?_ (by decide) (by decide)
  exact ⟨rfl, rfl⟩
set_option maxHeartbeats 4000000 in
set_option maxRecDepth 100000 in
theorem lp_Mo_emptied (g : ZG) (k0 : ZK) (m : Nat) (ad : Nat → Nat) (N : NS) (q : Nat) (hA : zAd g.2.2.2.1 m ad) (hq : q < 32) : ∀ (d r : Nat), r + d = 8 → ZW vcl tlx GT "MonitorQueuesModel" b_Mo_emptied 3 none "emptied" (ZRm 0 0 0) g k0 (fun r M' => r = none ∧ M' = zmo g.2.2.2.1 m ad (emR N q 8)) [some (.ref m), some (.int (nI q)), some (.int (nI r))] 9 [] (zmo g.2.2.2.1 m ad (emR N q r)) 0 0 := by
  intro d
  induction d with
  | zero =>
    intro r hr
    obtain rfl : r = 8 := by omega
    refine z_iload_n d_Mo_emptied_9 rfl ?_
    refine z_bipush (v := 8) d_Mo_emptied_10 (by decide) ?_
    refine z_icmp_ge (tgt := 33) d_Mo_emptied_12 (by decide) (fun h12 => ?_) (fun h12 => False.elim (h12 (by decide)))
    refine z_return d_Mo_emptied_33 rfl ?_ (by decide) (by decide)
    exact ⟨rfl, rfl⟩
  | succ d ih =>
    intro r hr
    refine z_iload_n d_Mo_emptied_9 rfl ?_
    refine z_bipush (v := 8) d_Mo_emptied_10 (by decide) ?_
    refine z_icmp_ge (tgt := 33) d_Mo_emptied_12 (by decide) (fun h12 => False.elim (nI_ge (show r < 8 by omega) (by decide) h12)) (fun h12 => ?_)
    refine z_aload_n d_Mo_emptied_15 rfl ?_
    refine z_get d_Mo_emptied_16 zf_Mo_54 (zmo_m _ _ _ _) rfl ?_
    refine z_bipush (v := 8) d_Mo_emptied_19 (by decide) ?_
    refine z_iload_n d_Mo_emptied_21 rfl ?_
    refine z_imul d_Mo_emptied_22 ?_
    refine z_iload_n d_Mo_emptied_23 rfl ?_
    refine z_iadd d_Mo_emptied_24 ?_
    rw [show (8 : Int32) * nI q + nI r = nI (8 * q + r) by rw [← nI_add, ← nI_mul]; rfl]
    refine z_iconst (v := 0) d_Mo_emptied_25 (by decide) ?_
    refine z_iast d_Mo_emptied_26 (rd_17 hA _) rfl (by first | omega | (dsimp only [sI, sL, sS, sN, sW]; omega) | (simp only [sI, sL, sS, sN, sW, va_up_self]; omega) | (simp [sI, sL, sS, sN, sW, va_up]; omega)) (by rw [ri_len]; exact (by first | omega | (dsimp only [sI, sL, sS, sN, sW]; omega) | (simp only [sI, sL, sS, sN, sW, va_up_self]; omega) | (simp [sI, sL, sS, sN, sW, va_up]; omega))) ?_
    rw [wr_17 hA]
    refine z_iinc (v := nI (r + 1)) d_Mo_emptied_27 rfl (nI_1 r) (by decide) rfl ?_
    refine z_goto (tgt := 9) d_Mo_emptied_30 (by decide) ?_
    exact ih (r + 1) (by omega)
set_option maxHeartbeats 4000000 in
set_option maxRecDepth 100000 in
theorem c_Mo_emptied (l : Launch) (g : ZG) (m : Nat) (ad : Nat → Nat) (N : NS) (q : Nat) (hA : zAd g.2.2.2.1 m ad) (hq : q < 32) : ZC vcl tlx GT l g y_Mo_emptied b_Mo_emptied 3 none (ZRm 0 0 0) [.ref m, .int (nI q)] (zmo g.2.2.2.1 m ad N) (fun r M' => r = none ∧ M' = zmo g.2.2.2.1 m ad (emS N q)) := by
  refine ZC.of (by decide) (Nat.le_of_ble_eq_true rfl) rfl (fun k hz0 => ?_)
  refine z_aload_n d_Mo_emptied_0 rfl ?_
  refine z_get d_Mo_emptied_1 zf_Mo_23 (zmo_m _ _ _ _) rfl ?_
  refine z_iload_n d_Mo_emptied_4 rfl ?_
  refine z_iconst (v := (-1)) d_Mo_emptied_5 (by decide) ?_
  refine z_iast d_Mo_emptied_6 (rd_7 hA _) rfl (by first | omega | (dsimp only [sI, sL, sS, sN, sW]; omega) | (simp only [sI, sL, sS, sN, sW, va_up_self]; omega) | (simp [sI, sL, sS, sN, sW, va_up]; omega)) (by rw [ri_len]; exact (by first | omega | (dsimp only [sI, sL, sS, sN, sW]; omega) | (simp only [sI, sL, sS, sN, sW, va_up_self]; omega) | (simp [sI, sL, sS, sN, sW, va_up]; omega))) ?_
  rw [wr_7 hA]
  refine z_iconst (v := 0) d_Mo_emptied_7 (by decide) ?_
  refine z_istore_n (i := 2) d_Mo_emptied_8 rfl (by decide) rfl ?_
  exact lp_Mo_emptied g k m ad (sI N 7 q (-1)) q hA hq 8 0 rfl
