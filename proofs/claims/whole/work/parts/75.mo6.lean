set_option maxHeartbeats 4000000 in
set_option maxRecDepth 100000 in
theorem lp_Mo_drop (g : ZG) (k0 : ZK) (m : Nat) (ad : Nat → Nat) (N : NS) (k : Nat) (hA : zAd g.2.2.2.1 m ad)  (hdl : N.2.1 2 ≤ 200) (hk : k < N.2.1 2) : ∀ (d c : Nat), c + d = N.2.1 2 - 1 - k → ZW vcl tlx GT "MonitorQueuesModel" b_Mo_drop 3 none "drop" (ZRm 0 0 0) g k0 (fun r M' => r = none ∧ M' = zmo g.2.2.2.1 m ad (drS N k)) [some (.ref m), some (.int (nI k)), some (.int (nI (k + c)))] 12 [] (zmo g.2.2.2.1 m ad (drR (sN N 2 (N.2.1 2 - 1)) k c)) 0 0 := by
  intro d
  induction d with
  | zero =>
    intro c hc
    have hnn : (drR (sN N 2 (N.2.1 2 - 1)) k c).2.1 2 = N.2.1 2 - 1 := by rw [drR_nn]; simp [sN, va_up]
    obtain rfl : c = N.2.1 2 - 1 - k := by omega
    refine z_iload_n d_Mo_drop_12 rfl ?_
    refine z_aload_n d_Mo_drop_13 rfl ?_
    refine z_get d_Mo_drop_14 zf_Mo_153 (zmo_m _ _ _ _) rfl ?_
    rw [show nI ((drR (sN N 2 (N.2.1 2 - 1)) k (N.2.1 2 - 1 - k)).2.1 2) = nI (N.2.1 2 - 1) by rw [hnn]]
    refine z_icmp_ge (tgt := 68) d_Mo_drop_17 (by decide) (fun h17 => ?_) (fun h17 => False.elim (h17 (nI_le (by omega) (by omega))))
    refine z_return d_Mo_drop_68 rfl ?_ (by decide) (by decide)
    exact ⟨rfl, rfl⟩
  | succ d ih =>
    intro c hc
    have hnn : (drR (sN N 2 (N.2.1 2 - 1)) k c).2.1 2 = N.2.1 2 - 1 := by rw [drR_nn]; simp [sN, va_up]
    refine z_iload_n d_Mo_drop_12 rfl ?_
    refine z_aload_n d_Mo_drop_13 rfl ?_
    refine z_get d_Mo_drop_14 zf_Mo_153 (zmo_m _ _ _ _) rfl ?_
    rw [show nI ((drR (sN N 2 (N.2.1 2 - 1)) k c).2.1 2) = nI (N.2.1 2 - 1) by rw [hnn]]
    refine z_icmp_ge (tgt := 68) d_Mo_drop_17 (by decide) (fun h17 => False.elim (nI_ge (show k + c < N.2.1 2 - 1 by omega) (by omega) h17)) (fun h17 => ?_)
    refine z_aload_n d_Mo_drop_20 rfl ?_
    refine z_get d_Mo_drop_21 zf_Mo_63 (zmo_m _ _ _ _) rfl ?_
    refine z_iload_n d_Mo_drop_24 rfl ?_
    refine z_aload_n d_Mo_drop_25 rfl ?_
    refine z_get d_Mo_drop_26 zf_Mo_63 (zmo_m _ _ _ _) rfl ?_
    refine z_iload_n d_Mo_drop_29 rfl ?_
    refine z_iconst (v := 1) d_Mo_drop_30 (by decide) ?_
    refine z_iadd d_Mo_drop_31 ?_
    rw [nI_1]
    refine z_iald d_Mo_drop_32 (rd_23 hA _) rfl (by first | omega | (dsimp only [sI, sL, sS, sN, sW]; omega) | (simp only [sI, sL, sS, sN, sW, va_up_self]; omega) | (simp [sI, sL, sS, sN, sW, va_up]; omega)) (ri_get (by first | omega | (dsimp only [sI, sL, sS, sN, sW]; omega) | (simp only [sI, sL, sS, sN, sW, va_up_self]; omega) | (simp [sI, sL, sS, sN, sW, va_up]; omega))) ?_
    refine z_iast d_Mo_drop_33 (rd_23 hA _) rfl (by first | omega | (dsimp only [sI, sL, sS, sN, sW]; omega) | (simp only [sI, sL, sS, sN, sW, va_up_self]; omega) | (simp [sI, sL, sS, sN, sW, va_up]; omega)) (by rw [ri_len]; exact (by first | omega | (dsimp only [sI, sL, sS, sN, sW]; omega) | (simp only [sI, sL, sS, sN, sW, va_up_self]; omega) | (simp [sI, sL, sS, sN, sW, va_up]; omega))) ?_
    rw [wr_23 hA]
    refine z_aload_n d_Mo_drop_34 rfl ?_
    refine z_get d_Mo_drop_35 zf_Mo_66 (zmo_m _ _ _ _) rfl ?_
    refine z_iload_n d_Mo_drop_38 rfl ?_
    refine z_aload_n d_Mo_drop_39 rfl ?_
    refine z_get d_Mo_drop_40 zf_Mo_66 (zmo_m _ _ _ _) rfl ?_
    refine z_iload_n d_Mo_drop_43 rfl ?_
    refine z_iconst (v := 1) d_Mo_drop_44 (by decide) ?_
    refine z_iadd d_Mo_drop_45 ?_
    rw [nI_1]
    refine z_iald d_Mo_drop_46 (rd_24 hA _) rfl (by first | omega | (dsimp only [sI, sL, sS, sN, sW]; omega) | (simp only [sI, sL, sS, sN, sW, va_up_self]; omega) | (simp [sI, sL, sS, sN, sW, va_up]; omega)) (ri_get (by first | omega | (dsimp only [sI, sL, sS, sN, sW]; omega) | (simp only [sI, sL, sS, sN, sW, va_up_self]; omega) | (simp [sI, sL, sS, sN, sW, va_up]; omega))) ?_
    refine z_iast d_Mo_drop_47 (rd_24 hA _) rfl (by first | omega | (dsimp only [sI, sL, sS, sN, sW]; omega) | (simp only [sI, sL, sS, sN, sW, va_up_self]; omega) | (simp [sI, sL, sS, sN, sW, va_up]; omega)) (by rw [ri_len]; exact (by first | omega | (dsimp only [sI, sL, sS, sN, sW]; omega) | (simp only [sI, sL, sS, sN, sW, va_up_self]; omega) | (simp [sI, sL, sS, sN, sW, va_up]; omega))) ?_
    rw [wr_24 hA]
    refine z_aload_n d_Mo_drop_48 rfl ?_
    refine z_get d_Mo_drop_49 zf_Mo_69 (zmo_m _ _ _ _) rfl ?_
    refine z_iload_n d_Mo_drop_52 rfl ?_
    refine z_aload_n d_Mo_drop_53 rfl ?_
    refine z_get d_Mo_drop_54 zf_Mo_69 (zmo_m _ _ _ _) rfl ?_
    refine z_iload_n d_Mo_drop_57 rfl ?_
    refine z_iconst (v := 1) d_Mo_drop_58 (by decide) ?_
    refine z_iadd d_Mo_drop_59 ?_
    rw [nI_1]
    refine z_lald d_Mo_drop_60 (rd_25 hA _) rfl (by first | omega | (dsimp only [sI, sL, sS, sN, sW]; omega) | (simp only [sI, sL, sS, sN, sW, va_up_self]; omega) | (simp [sI, sL, sS, sN, sW, va_up]; omega)) (rl_get (by first | omega | (dsimp only [sI, sL, sS, sN, sW]; omega) | (simp only [sI, sL, sS, sN, sW, va_up_self]; omega) | (simp [sI, sL, sS, sN, sW, va_up]; omega))) ?_
    refine z_last d_Mo_drop_61 (rd_25 hA _) rfl (by first | omega | (dsimp only [sI, sL, sS, sN, sW]; omega) | (simp only [sI, sL, sS, sN, sW, va_up_self]; omega) | (simp [sI, sL, sS, sN, sW, va_up]; omega)) (by rw [rl_len]; exact (by first | omega | (dsimp only [sI, sL, sS, sN, sW]; omega) | (simp only [sI, sL, sS, sN, sW, va_up_self]; omega) | (simp [sI, sL, sS, sN, sW, va_up]; omega))) ?_
    rw [wr_25 hA]
    refine z_iinc (v := nI (k + (c + 1))) d_Mo_drop_62 rfl (nI_1 (k + c)) (by decide) rfl ?_
    refine z_goto (tgt := 12) d_Mo_drop_65 (by decide) ?_
    exact ih (c + 1) (by omega)
set_option maxHeartbeats 4000000 in
set_option maxRecDepth 100000 in
theorem c_Mo_drop (l : Launch) (g : ZG) (m : Nat) (ad : Nat → Nat) (N : NS) (k : Nat) (hA : zAd g.2.2.2.1 m ad) (hk : k < N.2.1 2) (hdl : N.2.1 2 ≤ 200) : ZC vcl tlx GT l g y_Mo_drop b_Mo_drop 3 none (ZRm 0 0 0) [.ref m, .int (nI k)] (zmo g.2.2.2.1 m ad N) (fun r M' => r = none ∧ M' = zmo g.2.2.2.1 m ad (drS N k)) := by
  refine ZC.of (by decide) (Nat.le_of_ble_eq_true rfl) rfl (fun k0 hz0 => ?_)
  refine z_aload_n d_Mo_drop_0 rfl ?_
  refine z_dup d_Mo_drop_1 rfl ?_
  refine z_get d_Mo_drop_2 zf_Mo_153 (zmo_m _ _ _ _) rfl ?_
  refine z_iconst (v := 1) d_Mo_drop_5 (by decide) ?_
  refine z_isub d_Mo_drop_6 ?_
  rw [nI_pd (by omega)]
  refine z_put d_Mo_drop_7 zp_Mo_153 (zmo_m _ _ _ _) rfl rfl ?_
  rw [ws_26]
  refine z_iload_n d_Mo_drop_10 rfl ?_
  refine z_istore_n (i := 2) d_Mo_drop_11 rfl (by decide) rfl ?_
  exact lp_Mo_drop g k0 m ad N k hA hdl hk (N.2.1 2 - 1 - k) 0 (by omega)
set_option maxHeartbeats 4000000 in
set_option maxRecDepth 100000 in
theorem c_Mo_delay (l : Launch) (g : ZG) (m : Nat) (ad : Nat → Nat) (N : NS) (c : Int32) (u : Int64) (hA : zAd g.2.2.2.1 m ad) (hit : N.2.1 0 < 1100) (hbg : N.2.1 1 + 33 ≤ 4000) (hdl : N.2.1 2 ≤ 200) : ZC vcl tlx GT l g y_Mo_delay b_Mo_delay 4 (Option.some FieldType.int) (ZRm 3 0 0) [.ref m, .int c, .long u] (zmo g.2.2.2.1 m ad N) (fun r M' => r = some (.int (deM N c u).1) ∧ M' = zmo g.2.2.2.1 m ad (ansS (deM N c u).2)) := by
  refine ZC.of (by decide) (Nat.le_of_ble_eq_true rfl) rfl (fun k0 hz0 => ?_)
  refine z_aload_n d_Mo_delay_0 rfl ?_
  refine z_get d_Mo_delay_1 zf_Mo_153 (zmo_m _ _ _ _) rfl ?_
  refine z_sipush (v := 200) d_Mo_delay_4 (by decide) ?_
  refine z_icmp_ne (tgt := 16) d_Mo_delay_7 (by decide) (fun h7 => ?_) (fun h7 => ?_)
  · skip
    have hd : ¬ N.2.1 2 = 200 := fun e => h7 (by rw [e]; rfl)
    refine z_aload_n d_Mo_delay_16 rfl ?_
    refine z_dup d_Mo_delay_17 rfl ?_
    refine z_get d_Mo_delay_18 zf_Mo_156 (zmo_m _ _ _ _) rfl ?_
    refine z_iconst (v := 1) d_Mo_delay_21 (by decide) ?_
    refine z_iadd d_Mo_delay_22 ?_
    refine z_put d_Mo_delay_23 zp_Mo_156 (zmo_m _ _ _ _) rfl rfl ?_
    rw [ws_27]
    refine z_lload_n d_Mo_delay_26 rfl ?_
    refine z_aload_n d_Mo_delay_27 rfl ?_
    refine z_get d_Mo_delay_28 zf_Mo_112 (zmo_m _ _ _ _) rfl ?_
    refine z_lcmp d_Mo_delay_31 ?_
    refine z_if_gt (tgt := 50) d_Mo_delay_32 (by decide) (fun h32 => ?_) (fun h32 => ?_)
    · skip
      have hu : ¬ u ≤ N.2.2.2.2 := i64_nle.mpr ((lg_cmp_gt _ _).mp h32)
      refine z_aload_n d_Mo_delay_50 rfl ?_
      refine z_get d_Mo_delay_51 zf_Mo_63 (zmo_m _ _ _ _) rfl ?_
      refine z_aload_n d_Mo_delay_54 rfl ?_
      refine z_get d_Mo_delay_55 zf_Mo_153 (zmo_m _ _ _ _) rfl ?_
      rw [show nI ((sS N 3 (N.1 3 + 1)).2.1 2) = nI (N.2.1 2) from rfl]
      refine z_aload_n d_Mo_delay_58 rfl ?_
      refine z_get d_Mo_delay_59 zf_Mo_156 (zmo_m _ _ _ _) rfl ?_
      rw [show (sS N 3 (N.1 3 + 1)).1 3 = N.1 3 + 1 from rfl]
      refine z_iast d_Mo_delay_62 (rd_23 hA _) rfl (by first | omega | (dsimp only [sI, sL, sS, sN, sW]; omega) | (simp only [sI, sL, sS, sN, sW, va_up_self]; omega) | (simp [sI, sL, sS, sN, sW, va_up]; omega)) (by rw [ri_len]; exact (by first | omega | (dsimp only [sI, sL, sS, sN, sW]; omega) | (simp only [sI, sL, sS, sN, sW, va_up_self]; omega) | (simp [sI, sL, sS, sN, sW, va_up]; omega))) ?_
      rw [wr_23 hA]
      refine z_aload_n d_Mo_delay_63 rfl ?_
      refine z_get d_Mo_delay_64 zf_Mo_66 (zmo_m _ _ _ _) rfl ?_
      refine z_aload_n d_Mo_delay_67 rfl ?_
      refine z_get d_Mo_delay_68 zf_Mo_153 (zmo_m _ _ _ _) rfl ?_
      rw [show nI ((sI (sS N 3 (N.1 3 + 1)) 23 (N.2.1 2) (N.1 3 + 1)).2.1 2) = nI (N.2.1 2) from rfl]
      refine z_iload_n d_Mo_delay_71 rfl ?_
      refine z_iast d_Mo_delay_72 (rd_24 hA _) rfl (by first | omega | (dsimp only [sI, sL, sS, sN, sW]; omega) | (simp only [sI, sL, sS, sN, sW, va_up_self]; omega) | (simp [sI, sL, sS, sN, sW, va_up]; omega)) (by rw [ri_len]; exact (by first | omega | (dsimp only [sI, sL, sS, sN, sW]; omega) | (simp only [sI, sL, sS, sN, sW, va_up_self]; omega) | (simp [sI, sL, sS, sN, sW, va_up]; omega))) ?_
      rw [wr_24 hA]
      refine z_aload_n d_Mo_delay_73 rfl ?_
      refine z_get d_Mo_delay_74 zf_Mo_69 (zmo_m _ _ _ _) rfl ?_
      refine z_aload_n d_Mo_delay_77 rfl ?_
      refine z_get d_Mo_delay_78 zf_Mo_153 (zmo_m _ _ _ _) rfl ?_
      rw [show nI ((sI (sI (sS N 3 (N.1 3 + 1)) 23 (N.2.1 2) (N.1 3 + 1)) 24 (N.2.1 2) c).2.1 2) = nI (N.2.1 2) from rfl]
      refine z_lload_n d_Mo_delay_81 rfl ?_
      refine z_last d_Mo_delay_82 (rd_25 hA _) rfl (by first | omega | (dsimp only [sI, sL, sS, sN, sW]; omega) | (simp only [sI, sL, sS, sN, sW, va_up_self]; omega) | (simp [sI, sL, sS, sN, sW, va_up]; omega)) (by rw [rl_len]; exact (by first | omega | (dsimp only [sI, sL, sS, sN, sW]; omega) | (simp only [sI, sL, sS, sN, sW, va_up_self]; omega) | (simp [sI, sL, sS, sN, sW, va_up]; omega))) ?_
      rw [wr_25 hA]
      refine z_aload_n d_Mo_delay_83 rfl ?_
      refine z_dup d_Mo_delay_84 rfl ?_
      refine z_get d_Mo_delay_85 zf_Mo_153 (zmo_m _ _ _ _) rfl ?_
      refine z_iconst (v := 1) d_Mo_delay_88 (by decide) ?_
      refine z_iadd d_Mo_delay_89 ?_
      rw [show nI ((sL (sI (sI (sS N 3 (N.1 3 + 1)) 23 (N.2.1 2) (N.1 3 + 1)) 24 (N.2.1 2) c) 25 (N.2.1 2) u).2.1 2) + 1 = nI (N.2.1 2 + 1) from nI_1 _]
      refine z_put d_Mo_delay_90 zp_Mo_153 (zmo_m _ _ _ _) rfl rfl ?_
      rw [ws_26]
      rw [show sN (sL (sI (sI (sS N 3 (N.1 3 + 1)) 23 (N.2.1 2) (N.1 3 + 1)) 24 (N.2.1 2) c) 25 (N.2.1 2) u) 2 (N.2.1 2 + 1) = deS N c u from rfl]
      refine z_aload_n d_Mo_delay_93 rfl ?_
      refine z_aload_n d_Mo_delay_94 rfl ?_
      refine z_get d_Mo_delay_95 zf_Mo_156 (zmo_m _ _ _ _) rfl ?_
      refine z_callV gt_good d_Mo_delay_98 zv_Mo_120 (zmo_m _ _ _ _) rfl (fun l => c_Mo_answer l g m ad (deS N c u) _ hA (by show N.2.1 0 ≤ 1100; omega) (by show N.2.1 1 + 32 ≤ 4000; omega)) rfl rfl ⟨Nat.le_of_ble_eq_true rfl, Nat.le_of_ble_eq_true rfl⟩ (Nat.le_of_ble_eq_true rfl) (Nat.le_of_ble_eq_true rfl) (Nat.le_of_ble_eq_true rfl) ?_
      rintro _ _ ⟨rfl, rfl⟩
      refine z_ireturn d_Mo_delay_101 rfl ?_ (by decide) (by decide)
      first | (rw [show deM N c u = (-1, N) from if_pos hd]; exact ⟨rfl, rfl⟩) | (rw [show deM N c u = (N.1 3 + 1, taskS (sS N 3 (N.1 3 + 1)) c) from by unfold deM; rw [if_neg hd, if_pos hu]]; exact ⟨rfl, rfl⟩) | (rw [show deM N c u = (N.1 3 + 1, deS N c u) from by unfold deM; rw [if_neg hd, if_neg hu]]; exact ⟨rfl, rfl⟩)
    · skip
      have hu : u ≤ N.2.2.2.2 := i64_nlt.mp (fun q => h32 ((lg_cmp_gt _ _).mpr q))
      refine z_aload_n d_Mo_delay_35 rfl ?_
      refine z_iload_n d_Mo_delay_36 rfl ?_
      refine z_callV gt_good d_Mo_delay_37 zv_Mo_99 (zmo_m _ _ _ _) rfl (fun l => c_Mo_task l g m ad (sS N 3 (N.1 3 + 1)) c hA (by show N.2.1 1 < 4000; omega)) rfl rfl ⟨Nat.le_of_ble_eq_true rfl, Nat.le_of_ble_eq_true rfl⟩ (Nat.le_of_ble_eq_true rfl) (Nat.le_of_ble_eq_true rfl) (Nat.le_of_ble_eq_true rfl) ?_
      rintro _ _ ⟨rfl, rfl⟩
      refine z_pop d_Mo_delay_40 rfl ?_
      refine z_aload_n d_Mo_delay_41 rfl ?_
      refine z_aload_n d_Mo_delay_42 rfl ?_
      refine z_get d_Mo_delay_43 zf_Mo_156 (zmo_m _ _ _ _) rfl ?_
      refine z_callV gt_good d_Mo_delay_46 zv_Mo_120 (zmo_m _ _ _ _) rfl (fun l => c_Mo_answer l g m ad (taskS (sS N 3 (N.1 3 + 1)) c) _ hA (by rw [taskS_it]; exact Nat.le_of_lt hit) (by rw [taskS_bg]; show N.2.1 1 + 1 + 32 ≤ 4000; omega)) rfl rfl ⟨Nat.le_of_ble_eq_true rfl, Nat.le_of_ble_eq_true rfl⟩ (Nat.le_of_ble_eq_true rfl) (Nat.le_of_ble_eq_true rfl) (Nat.le_of_ble_eq_true rfl) ?_
      rintro _ _ ⟨rfl, rfl⟩
      refine z_ireturn d_Mo_delay_49 rfl ?_ (by decide) (by decide)
      first | (rw [show deM N c u = (-1, N) from if_pos hd]; exact ⟨rfl, rfl⟩) | (rw [show deM N c u = (N.1 3 + 1, taskS (sS N 3 (N.1 3 + 1)) c) from by unfold deM; rw [if_neg hd, if_pos hu]]; exact ⟨rfl, rfl⟩) | (rw [show deM N c u = (N.1 3 + 1, deS N c u) from by unfold deM; rw [if_neg hd, if_neg hu]]; exact ⟨rfl, rfl⟩)
  · skip
    have hd : N.2.1 2 = 200 := (nI_eq (b := 200) (by omega) (by decide)).mp h7
    refine z_aload_n d_Mo_delay_10 rfl ?_
    refine z_iconst (v := (-1)) d_Mo_delay_11 (by decide) ?_
    refine z_callV gt_good d_Mo_delay_12 zv_Mo_120 (zmo_m _ _ _ _) rfl (fun l => c_Mo_answer l g m ad (N) (-1) hA (Nat.le_of_lt hit) (by omega)) rfl rfl ⟨Nat.le_of_ble_eq_true rfl, Nat.le_of_ble_eq_true rfl⟩ (Nat.le_of_ble_eq_true rfl) (Nat.le_of_ble_eq_true rfl) (Nat.le_of_ble_eq_true rfl) ?_
    rintro _ _ ⟨rfl, rfl⟩
    refine z_ireturn d_Mo_delay_15 rfl ?_ (by decide) (by decide)
    first | (rw [show deM N c u = (-1, N) from if_pos hd]; exact ⟨rfl, rfl⟩) | (rw [show deM N c u = (N.1 3 + 1, taskS (sS N 3 (N.1 3 + 1)) c) from by unfold deM; rw [if_neg hd, if_pos hu]]; exact ⟨rfl, rfl⟩) | (rw [show deM N c u = (N.1 3 + 1, deS N c u) from by unfold deM; rw [if_neg hd, if_neg hu]]; exact ⟨rfl, rfl⟩)
set_option maxHeartbeats 4000000 in
set_option maxRecDepth 100000 in
theorem lp_Mo_cancel (g : ZG) (k0 : ZK) (m : Nat) (ad : Nat → Nat) (N : NS) (n : Int32) (hA : zAd g.2.2.2.1 m ad) (hit : N.2.1 0 < 1100) (hbg : N.2.1 1 + 32 ≤ 4000) (hdl : N.2.1 2 ≤ 200) : ∀ (d k : Nat), k + d = N.2.1 2 → ZW vcl tlx GT "MonitorQueuesModel" b_Mo_cancel 4 (Option.some FieldType.int) "cancel" (ZRm 3 0 0) g k0 (fun r M' => r = some (.int (caM N n).1) ∧ M' = zmo g.2.2.2.1 m ad (ansS (caM N n).2)) [some (.ref m), some (.int n), some (.int (plV (fnN N n k))), some (.int (nI k))] 4 [] (zmo g.2.2.2.1 m ad N) 0 0 := by
  intro d
  induction d with
  | zero =>
    intro k hk
    refine z_iload_n d_Mo_cancel_4 rfl ?_
    refine z_aload_n d_Mo_cancel_5 rfl ?_
    refine z_get d_Mo_cancel_6 zf_Mo_153 (zmo_m _ _ _ _) rfl ?_
    refine z_icmp_ge (tgt := 34) d_Mo_cancel_9 (by decide) (fun h9 => ?_) (fun h9 => False.elim (h9 (nI_le (show N.2.1 2 ≤ k by omega) (by omega))))
    obtain rfl : k = N.2.1 2 := by omega
    cases hf : fnN N n (N.2.1 2) with
    | none =>
      refine z_iload_n d_Mo_cancel_34 rfl ?_
      refine z_iconst (v := (-1)) d_Mo_cancel_35 (by decide) ?_
      refine z_icmp_ne (tgt := 45) d_Mo_cancel_36 (by decide) (fun h36 => False.elim (h36 rfl)) (fun h36 => ?_)
      refine z_aload_n d_Mo_cancel_39 rfl ?_
      refine z_iconst (v := 0) d_Mo_cancel_40 (by decide) ?_
      refine z_callV gt_good d_Mo_cancel_41 zv_Mo_120 (zmo_m _ _ _ _) rfl (fun l => c_Mo_answer l g m ad (N) 0 hA (Nat.le_of_lt hit) hbg) rfl rfl ⟨Nat.le_of_ble_eq_true rfl, Nat.le_of_ble_eq_true rfl⟩ (Nat.le_of_ble_eq_true rfl) (Nat.le_of_ble_eq_true rfl) (Nat.le_of_ble_eq_true rfl) ?_
      rintro _ _ ⟨rfl, rfl⟩
      refine z_ireturn d_Mo_cancel_44 rfl ?_ (by decide) (by decide)
      rw [show caM N n = (0, N) from by unfold caM; rw [hf]]
      exact ⟨rfl, rfl⟩
    | some j =>
      have hj := fnN_lt N n _ _ hf
      rw [show plV (some j) = nI j from rfl]
      refine z_iload_n d_Mo_cancel_34 rfl ?_
      refine z_iconst (v := (-1)) d_Mo_cancel_35 (by decide) ?_
      refine z_icmp_ne (tgt := 45) d_Mo_cancel_36 (by decide) (fun h36 => ?_) (fun h36 => False.elim (absurd h36 (fun e => nI_pos (show j < 2 ^ 31 by omega) (by rw [e]; decide))))
      refine z_aload_n d_Mo_cancel_45 rfl ?_
      refine z_iload_n d_Mo_cancel_46 rfl ?_
      refine z_callV gt_good d_Mo_cancel_47 zv_Mo_159 (zmo_m _ _ _ _) rfl (fun l => c_Mo_drop l g m ad N j hA hj hdl) rfl rfl ⟨Nat.le_of_ble_eq_true rfl, Nat.le_of_ble_eq_true rfl⟩ (Nat.le_of_ble_eq_true rfl) (Nat.le_of_ble_eq_true rfl) (Nat.le_of_ble_eq_true rfl) ?_
      rintro _ _ ⟨rfl, rfl⟩
      refine z_aload_n d_Mo_cancel_50 rfl ?_
      refine z_iconst (v := 1) d_Mo_cancel_51 (by decide) ?_
      refine z_callV gt_good d_Mo_cancel_52 zv_Mo_120 (zmo_m _ _ _ _) rfl (fun l => c_Mo_answer l g m ad (drS N j) 1 hA (by rw [drS_nn _ _ _ (by decide)]; exact Nat.le_of_lt hit) (by rw [drS_nn _ _ _ (by decide)]; exact hbg)) rfl rfl ⟨Nat.le_of_ble_eq_true rfl, Nat.le_of_ble_eq_true rfl⟩ (Nat.le_of_ble_eq_true rfl) (Nat.le_of_ble_eq_true rfl) (Nat.le_of_ble_eq_true rfl) ?_
      rintro _ _ ⟨rfl, rfl⟩
      refine z_ireturn d_Mo_cancel_55 rfl ?_ (by decide) (by decide)
      rw [show caM N n = (1, drS N j) from by unfold caM; rw [hf]]
      exact ⟨rfl, rfl⟩
  | succ d ih =>
    intro k hk
    refine z_iload_n d_Mo_cancel_4 rfl ?_
    refine z_aload_n d_Mo_cancel_5 rfl ?_
    refine z_get d_Mo_cancel_6 zf_Mo_153 (zmo_m _ _ _ _) rfl ?_
    refine z_icmp_ge (tgt := 34) d_Mo_cancel_9 (by decide) (fun h9 => False.elim (nI_ge (show k < N.2.1 2 by omega) (by omega) h9)) (fun h9 => ?_)
    refine z_aload_n d_Mo_cancel_12 rfl ?_
    refine z_get d_Mo_cancel_13 zf_Mo_63 (zmo_m _ _ _ _) rfl ?_
    refine z_iload_n d_Mo_cancel_16 rfl ?_
    refine z_iald d_Mo_cancel_17 (rd_23 hA _) rfl (by first | omega | (dsimp only [sI, sL, sS, sN, sW]; omega) | (simp only [sI, sL, sS, sN, sW, va_up_self]; omega) | (simp [sI, sL, sS, sN, sW, va_up]; omega)) (ri_get (by first | omega | (dsimp only [sI, sL, sS, sN, sW]; omega) | (simp only [sI, sL, sS, sN, sW, va_up_self]; omega) | (simp [sI, sL, sS, sN, sW, va_up]; omega))) ?_
    refine z_iload_n d_Mo_cancel_18 rfl ?_
    refine z_icmp_ne (tgt := 26) d_Mo_cancel_19 (by decide) (fun h19 => ?_) (fun h19 => ?_)
    · skip
      have hc : ¬ N.2.2.1 23 k = n := h19
      refine z_iload_n d_Mo_cancel_26 rfl ?_
      first | refine z_istore_n (i := 2) (L' := [some (.ref m), some (.int n), some (.int (plV (fnN N n (k + 1)))), some (.int (nI k))]) d_Mo_cancel_27 rfl (by decide) (by rw [show plV (fnN N n (k + 1)) = nI k from by rw [fnN, if_pos hc]; rfl]; rfl) ?_ | refine z_istore_n (i := 2) (L' := [some (.ref m), some (.int n), some (.int (plV (fnN N n (k + 1)))), some (.int (nI k))]) d_Mo_cancel_27 rfl (by decide) (by rw [show plV (fnN N n (k + 1)) = plV (fnN N n k) from by rw [fnN, if_neg hc]]; rfl) ?_
      refine z_iinc (v := nI (k + 1)) d_Mo_cancel_28 rfl (nI_1 k) (by decide) rfl ?_
      refine z_goto (tgt := 4) d_Mo_cancel_31 (by decide) ?_
      exact ih (k + 1) (by omega)
    · skip
      have hc : N.2.2.1 23 k = n := h19
      refine z_iload_n d_Mo_cancel_22 rfl ?_
      refine z_goto (tgt := 27) d_Mo_cancel_23 (by decide) ?_
      first | refine z_istore_n (i := 2) (L' := [some (.ref m), some (.int n), some (.int (plV (fnN N n (k + 1)))), some (.int (nI k))]) d_Mo_cancel_27 rfl (by decide) (by rw [show plV (fnN N n (k + 1)) = nI k from by rw [fnN, if_pos hc]; rfl]; rfl) ?_ | refine z_istore_n (i := 2) (L' := [some (.ref m), some (.int n), some (.int (plV (fnN N n (k + 1)))), some (.int (nI k))]) d_Mo_cancel_27 rfl (by decide) (by rw [show plV (fnN N n (k + 1)) = plV (fnN N n k) from by rw [fnN, if_neg hc]]; rfl) ?_
      refine z_iinc (v := nI (k + 1)) d_Mo_cancel_28 rfl (nI_1 k) (by decide) rfl ?_
      refine z_goto (tgt := 4) d_Mo_cancel_31 (by decide) ?_
      exact ih (k + 1) (by omega)
set_option maxHeartbeats 4000000 in
set_option maxRecDepth 100000 in
theorem c_Mo_cancel (l : Launch) (g : ZG) (m : Nat) (ad : Nat → Nat) (N : NS) (n : Int32) (hA : zAd g.2.2.2.1 m ad) (hit : N.2.1 0 < 1100) (hbg : N.2.1 1 + 32 ≤ 4000) (hdl : N.2.1 2 ≤ 200) : ZC vcl tlx GT l g y_Mo_cancel b_Mo_cancel 4 (Option.some FieldType.int) (ZRm 3 0 0) [.ref m, .int n] (zmo g.2.2.2.1 m ad N) (fun r M' => r = some (.int (caM N n).1) ∧ M' = zmo g.2.2.2.1 m ad (ansS (caM N n).2)) := by
  refine ZC.of (by decide) (Nat.le_of_ble_eq_true rfl) rfl (fun k0 hz0 => ?_)
  refine z_iconst (v := (-1)) d_Mo_cancel_0 (by decide) ?_
  refine z_istore_n (i := 2) d_Mo_cancel_1 rfl (by decide) rfl ?_
  refine z_iconst (v := 0) d_Mo_cancel_2 (by decide) ?_
  refine z_istore_n (i := 3) d_Mo_cancel_3 rfl (by decide) rfl ?_
  exact lp_Mo_cancel g k0 m ad N n hA hit hbg hdl (N.2.1 2) 0 (by simp)
