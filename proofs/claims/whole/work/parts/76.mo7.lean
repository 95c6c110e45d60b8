theorem fiN_s0 {P : NS} {k : Nat} (h : fiN P k = none) : fiN P (k + 1) = if P.2.2.2.1 25 k ≤ P.2.2.2.2 then some k else none := by
  rw [fiN, h]
  simp
theorem fiN_s1 {P : NS} {k f : Nat} (h : fiN P k = some f) : fiN P (k + 1) = if P.2.2.2.1 25 k ≤ P.2.2.2.2 ∧ P.2.2.2.1 25 k < P.2.2.2.1 25 f then some k else some f := by
  rw [fiN, h]
  simp
set_option maxHeartbeats 4000000 in
set_option maxRecDepth 100000 in
theorem lp_Mo_tickI (g : ZG) (k0 : ZK) (post : Option Value → ZM → Prop) (m : Nat) (ad : Nat → Nat) (P : NS) (t : Int64) (n : Int32) (hA : zAd g.2.2.2.1 m ad) (hdl : P.2.1 2 ≤ 200) (hn : ZW vcl tlx GT "MonitorQueuesModel" b_Mo_tick 7 (Option.some FieldType.int) "tick" (ZRm 3 0 0) g k0 post [some (.ref m), some (.long t), none, some (.int n), some (.int 1), some (.int (plV (fiN P (P.2.1 2)))), some (.int (nI (P.2.1 2)))] 99 [] (zmo g.2.2.2.1 m ad P) 0 0) : ∀ (d k : Nat), k + d = P.2.1 2 → ZW vcl tlx GT "MonitorQueuesModel" b_Mo_tick 7 (Option.some FieldType.int) "tick" (ZRm 3 0 0) g k0 post [some (.ref m), some (.long t), none, some (.int n), some (.int 1), some (.int (plV (fiN P k))), some (.int (nI k))] 36 [] (zmo g.2.2.2.1 m ad P) 0 0 := by
  intro d
  induction d with
  | zero =>
    intro k hk
    obtain rfl : k = P.2.1 2 := by omega
    refine z_iload d_Mo_tick_36 rfl ?_
    refine z_aload_n d_Mo_tick_38 rfl ?_
    refine z_get d_Mo_tick_39 zf_Mo_153 (zmo_m _ _ _ _) rfl ?_
    refine z_icmp_ge (tgt := 99) d_Mo_tick_42 (by decide) (fun h42 => ?_) (fun h42 => False.elim (h42 (nI_le (Nat.le_refl _) (by omega))))
    exact hn
  | succ d ih =>
    intro k hk
    cases hf : fiN P k with
    | none =>
      refine z_iload d_Mo_tick_36 rfl ?_
      refine z_aload_n d_Mo_tick_38 rfl ?_
      refine z_get d_Mo_tick_39 zf_Mo_153 (zmo_m _ _ _ _) rfl ?_
      refine z_icmp_ge (tgt := 99) d_Mo_tick_42 (by decide) (fun h42 => False.elim (nI_ge (show k < P.2.1 2 by omega) (by omega) h42)) (fun h42 => ?_)
      refine z_aload_n d_Mo_tick_45 rfl ?_
      refine z_get d_Mo_tick_46 zf_Mo_69 (zmo_m _ _ _ _) rfl ?_
      refine z_iload d_Mo_tick_49 rfl ?_
      refine z_lald d_Mo_tick_51 (rd_25 hA _) rfl (by first | omega | (dsimp only [sI, sL, sS, sN, sW]; omega) | (simp only [sI, sL, sS, sN, sW, va_up_self]; omega) | (simp [sI, sL, sS, sN, sW, va_up]; omega)) (rl_get (by first | omega | (dsimp only [sI, sL, sS, sN, sW]; omega) | (simp only [sI, sL, sS, sN, sW, va_up_self]; omega) | (simp [sI, sL, sS, sN, sW, va_up]; omega))) ?_
      refine z_aload_n d_Mo_tick_52 rfl ?_
      refine z_get d_Mo_tick_53 zf_Mo_112 (zmo_m _ _ _ _) rfl ?_
      refine z_lcmp d_Mo_tick_56 ?_
      refine z_if_gt (tgt := 89) d_Mo_tick_57 (by decide) (fun h57 => ?_) (fun h57 => ?_)
      · skip
        have hc : ¬ P.2.2.2.1 25 k ≤ P.2.2.2.2 := i64_nle.mpr ((lg_cmp_gt _ _).mp h57)
        refine z_iload d_Mo_tick_89 rfl ?_
        refine z_istore (L' := [some (.ref m), some (.long t), none, some (.int n), some (.int 1), some (.int (plV (fiN P (k + 1)))), some (.int (nI k))]) d_Mo_tick_91 (by decide) (by rw [show fiN P (k + 1) = none from by rw [fiN_s0 hf, if_neg hc]]; rfl) ?_
        refine z_iinc (v := nI (k + 1)) d_Mo_tick_93 rfl (nI_1 k) (by decide) rfl ?_
        refine z_goto (tgt := 36) d_Mo_tick_96 (by decide) ?_
        exact ih (k + 1) (by omega)
        skip
      · skip
        have hc : P.2.2.2.1 25 k ≤ P.2.2.2.2 := i64_nlt.mp (fun q => h57 ((lg_cmp_gt _ _).mpr q))
        refine z_iload d_Mo_tick_60 rfl ?_
        refine z_iconst (v := (-1)) d_Mo_tick_62 (by decide) ?_
        refine z_icmp_eq (tgt := 84) d_Mo_tick_63 (by decide) (fun h63 => ?_) (fun h63 => False.elim (h63 rfl))
        refine z_iload d_Mo_tick_84 rfl ?_
        refine z_goto (tgt := 91) d_Mo_tick_86 (by decide) ?_
        refine z_istore (L' := [some (.ref m), some (.long t), none, some (.int n), some (.int 1), some (.int (plV (fiN P (k + 1)))), some (.int (nI k))]) d_Mo_tick_91 (by decide) (by rw [show fiN P (k + 1) = some k from by rw [fiN_s0 hf, if_pos hc]]; rfl) ?_
        refine z_iinc (v := nI (k + 1)) d_Mo_tick_93 rfl (nI_1 k) (by decide) rfl ?_
        refine z_goto (tgt := 36) d_Mo_tick_96 (by decide) ?_
        exact ih (k + 1) (by omega)
    | some f =>
      have hfl := fiN_lt P k f hf
      refine z_iload d_Mo_tick_36 rfl ?_
      refine z_aload_n d_Mo_tick_38 rfl ?_
      refine z_get d_Mo_tick_39 zf_Mo_153 (zmo_m _ _ _ _) rfl ?_
      refine z_icmp_ge (tgt := 99) d_Mo_tick_42 (by decide) (fun h42 => False.elim (nI_ge (show k < P.2.1 2 by omega) (by omega) h42)) (fun h42 => ?_)
      refine z_aload_n d_Mo_tick_45 rfl ?_
      refine z_get d_Mo_tick_46 zf_Mo_69 (zmo_m _ _ _ _) rfl ?_
      refine z_iload d_Mo_tick_49 rfl ?_
      refine z_lald d_Mo_tick_51 (rd_25 hA _) rfl (by first | omega | (dsimp only [sI, sL, sS, sN, sW]; omega) | (simp only [sI, sL, sS, sN, sW, va_up_self]; omega) | (simp [sI, sL, sS, sN, sW, va_up]; omega)) (rl_get (by first | omega | (dsimp only [sI, sL, sS, sN, sW]; omega) | (simp only [sI, sL, sS, sN, sW, va_up_self]; omega) | (simp [sI, sL, sS, sN, sW, va_up]; omega))) ?_
      refine z_aload_n d_Mo_tick_52 rfl ?_
      refine z_get d_Mo_tick_53 zf_Mo_112 (zmo_m _ _ _ _) rfl ?_
      refine z_lcmp d_Mo_tick_56 ?_
      refine z_if_gt (tgt := 89) d_Mo_tick_57 (by decide) (fun h57 => ?_) (fun h57 => ?_)
      · skip
        have hc : ¬ (P.2.2.2.1 25 k ≤ P.2.2.2.2 ∧ P.2.2.2.1 25 k < P.2.2.2.1 25 f) := fun h => i64_nle.mpr ((lg_cmp_gt _ _).mp h57) h.1
        refine z_iload d_Mo_tick_89 rfl ?_
        refine z_istore (L' := [some (.ref m), some (.long t), none, some (.int n), some (.int 1), some (.int (plV (fiN P (k + 1)))), some (.int (nI k))]) d_Mo_tick_91 (by decide) (by rw [show fiN P (k + 1) = some f from by rw [fiN_s1 hf, if_neg hc]]; rfl) ?_
        refine z_iinc (v := nI (k + 1)) d_Mo_tick_93 rfl (nI_1 k) (by decide) rfl ?_
        refine z_goto (tgt := 36) d_Mo_tick_96 (by decide) ?_
        exact ih (k + 1) (by omega)
        skip
      · skip
        refine z_iload d_Mo_tick_60 rfl ?_
        refine z_iconst (v := (-1)) d_Mo_tick_62 (by decide) ?_
        refine z_icmp_eq (tgt := 84) d_Mo_tick_63 (by decide) (fun h63 => False.elim (nI_pos (show f < 2 ^ 31 by omega) (by rw [show nI f = -1 from h63]; decide))) (fun h63 => ?_)
        refine z_aload_n d_Mo_tick_66 rfl ?_
        refine z_get d_Mo_tick_67 zf_Mo_69 (zmo_m _ _ _ _) rfl ?_
        refine z_iload d_Mo_tick_70 rfl ?_
        refine z_lald d_Mo_tick_72 (rd_25 hA _) rfl (by first | omega | (dsimp only [sI, sL, sS, sN, sW]; omega) | (simp only [sI, sL, sS, sN, sW, va_up_self]; omega) | (simp [sI, sL, sS, sN, sW, va_up]; omega)) (rl_get (by first | omega | (dsimp only [sI, sL, sS, sN, sW]; omega) | (simp only [sI, sL, sS, sN, sW, va_up_self]; omega) | (simp [sI, sL, sS, sN, sW, va_up]; omega))) ?_
        refine z_aload_n d_Mo_tick_73 rfl ?_
        refine z_get d_Mo_tick_74 zf_Mo_69 (zmo_m _ _ _ _) rfl ?_
        refine z_iload d_Mo_tick_77 rfl ?_
        rw [show plV (some f) = nI f from rfl]
        refine z_lald d_Mo_tick_79 (rd_25 hA _) rfl (by first | omega | (dsimp only [sI, sL, sS, sN, sW]; omega) | (simp only [sI, sL, sS, sN, sW, va_up_self]; omega) | (simp [sI, sL, sS, sN, sW, va_up]; omega)) (rl_get (by first | omega | (dsimp only [sI, sL, sS, sN, sW]; omega) | (simp only [sI, sL, sS, sN, sW, va_up_self]; omega) | (simp [sI, sL, sS, sN, sW, va_up]; omega))) ?_
        refine z_lcmp d_Mo_tick_80 ?_
        refine z_if_ge (tgt := 89) d_Mo_tick_81 (by decide) (fun h81 => ?_) (fun h81 => ?_)
        · skip
          have hc : ¬ (P.2.2.2.1 25 k ≤ P.2.2.2.2 ∧ P.2.2.2.1 25 k < P.2.2.2.1 25 f) := fun h => i64_nlt.mpr ((lg_cmp_ge _ _).mp h81) h.2
          refine z_iload d_Mo_tick_89 rfl ?_
          refine z_istore (L' := [some (.ref m), some (.long t), none, some (.int n), some (.int 1), some (.int (plV (fiN P (k + 1)))), some (.int (nI k))]) d_Mo_tick_91 (by decide) (by rw [show fiN P (k + 1) = some f from by rw [fiN_s1 hf, if_neg hc]]; rfl) ?_
          refine z_iinc (v := nI (k + 1)) d_Mo_tick_93 rfl (nI_1 k) (by decide) rfl ?_
          refine z_goto (tgt := 36) d_Mo_tick_96 (by decide) ?_
          exact ih (k + 1) (by omega)
          skip
        · skip
          have hc : P.2.2.2.1 25 k ≤ P.2.2.2.2 ∧ P.2.2.2.1 25 k < P.2.2.2.1 25 f := ⟨i64_nlt.mp (fun q => h57 ((lg_cmp_gt _ _).mpr q)), i64_nle.mp (fun q => h81 ((lg_cmp_ge _ _).mpr q))⟩
          refine z_iload d_Mo_tick_84 rfl ?_
          refine z_goto (tgt := 91) d_Mo_tick_86 (by decide) ?_
          refine z_istore (L' := [some (.ref m), some (.long t), none, some (.int n), some (.int 1), some (.int (plV (fiN P (k + 1)))), some (.int (nI k))]) d_Mo_tick_91 (by decide) (by rw [show fiN P (k + 1) = some k from by rw [fiN_s1 hf, if_pos hc]]; rfl) ?_
          refine z_iinc (v := nI (k + 1)) d_Mo_tick_93 rfl (nI_1 k) (by decide) rfl ?_
          refine z_goto (tgt := 36) d_Mo_tick_96 (by decide) ?_
          exact ih (k + 1) (by omega)
set_option maxHeartbeats 4000000 in
set_option maxRecDepth 100000 in
theorem lp_Mo_tick (g : ZG) (k0 : ZK) (m : Nat) (ad : Nat → Nat) (t : Int64) (R : Nat × NS) (hA : zAd g.2.2.2.1 m ad) : ∀ (d n : Nat) (P : NS) (lo lo2 : Option Value), P.2.1 2 < d → P.2.1 2 ≤ 200 → P.2.1 1 + P.2.1 2 + 32 ≤ 4000 → P.2.1 0 < 1100 → R = (n + (tiN P d).1, (tiN P d).2) → ZW vcl tlx GT "MonitorQueuesModel" b_Mo_tick 7 (Option.some FieldType.int) "tick" (ZRm 3 0 0) g k0 (fun r M' => r = some (.int (nI R.1)) ∧ M' = zmo g.2.2.2.1 m ad (ansS R.2)) [some (.ref m), some (.long t), none, some (.int (nI n)), some (.int 1), lo, lo2] 25 [] (zmo g.2.2.2.1 m ad P) 0 0 := by
  intro d
  induction d with
  | zero =>
    intro n P lo lo2 hd
    omega
  | succ d ih =>
    intro n P lo lo2 hd h2 h1 h0 hR
    refine z_iload d_Mo_tick_25 rfl ?_
    refine z_if_eq (tgt := 144) d_Mo_tick_27 (by decide) (fun h27 => False.elim (absurd h27 (by decide))) (fun h27 => ?_)
    refine z_iconst (v := (-1)) d_Mo_tick_30 (by decide) ?_
    refine z_istore d_Mo_tick_31 (by decide) rfl ?_
    refine z_iconst (v := 0) d_Mo_tick_33 (by decide) ?_
    refine z_istore d_Mo_tick_34 (by decide) rfl ?_
    refine lp_Mo_tickI g k0 _ m ad P t _ hA h2 ?_ (P.2.1 2) 0 (by omega)
    cases hf : fiN P (P.2.1 2) with
    | none =>
      rw [tiN_none P d hf] at hR
      refine z_iload d_Mo_tick_99 rfl ?_
      refine z_iconst (v := (-1)) d_Mo_tick_101 (by decide) ?_
      refine z_icmp_eq (tgt := 109) d_Mo_tick_102 (by decide) (fun h102 => ?_) (fun h102 => False.elim (h102 rfl))
      refine z_iconst (v := 0) d_Mo_tick_109 (by decide) ?_
      refine z_istore d_Mo_tick_110 (by decide) rfl ?_
      refine z_iload d_Mo_tick_112 rfl ?_
      refine z_if_ne (tgt := 120) d_Mo_tick_114 (by decide) (fun h114 => False.elim (absurd h114 (by decide))) (fun h114 => ?_)
      refine z_goto (tgt := 25) d_Mo_tick_117 (by decide) ?_
      refine z_iload d_Mo_tick_25 rfl ?_
      refine z_if_eq (tgt := 144) d_Mo_tick_27 (by decide) (fun h27 => ?_) (fun h27 => False.elim (h27 rfl))
      refine z_aload_n d_Mo_tick_144 rfl ?_
      refine z_iload_n d_Mo_tick_145 rfl ?_
      refine z_callV gt_good d_Mo_tick_146 zv_Mo_120 (zmo_m _ _ _ _) rfl (fun l => c_Mo_answer l g m ad P _ hA (Nat.le_of_lt h0) (by omega)) rfl rfl ⟨Nat.le_of_ble_eq_true rfl, Nat.le_of_ble_eq_true rfl⟩ (Nat.le_of_ble_eq_true rfl) (Nat.le_of_ble_eq_true rfl) (Nat.le_of_ble_eq_true rfl) ?_
      rintro _ _ ⟨rfl, rfl⟩
      refine z_ireturn d_Mo_tick_149 rfl ?_ (by decide) (by decide)
      rw [hR]
      exact ⟨rfl, rfl⟩
    | some f =>
      have hfl := fiN_lt P _ f hf
      have hdt : (taskS P (P.2.2.1 24 f)).2.1 2 ≤ 200 := h2
      rw [tiN_some P d hf] at hR
      rw [show plV (some f) = nI f from rfl]
      refine z_iload d_Mo_tick_99 rfl ?_
      refine z_iconst (v := (-1)) d_Mo_tick_101 (by decide) ?_
      refine z_icmp_eq (tgt := 109) d_Mo_tick_102 (by decide) (fun h102 => False.elim (nI_pos (show f < 2 ^ 31 by omega) (by rw [show nI f = -1 from h102]; decide))) (fun h102 => ?_)
      refine z_iconst (v := 1) d_Mo_tick_105 (by decide) ?_
      refine z_goto (tgt := 110) d_Mo_tick_106 (by decide) ?_
      refine z_istore d_Mo_tick_110 (by decide) rfl ?_
      refine z_iload d_Mo_tick_112 rfl ?_
      refine z_if_ne (tgt := 120) d_Mo_tick_114 (by decide) (fun h114 => ?_) (fun h114 => False.elim (absurd h114 (by decide)))
      refine z_aload_n d_Mo_tick_120 rfl ?_
      refine z_aload_n d_Mo_tick_121 rfl ?_
      refine z_get d_Mo_tick_122 zf_Mo_66 (zmo_m _ _ _ _) rfl ?_
      refine z_iload d_Mo_tick_125 rfl ?_
      refine z_iald d_Mo_tick_127 (rd_24 hA _) rfl (by first | omega | (dsimp only [sI, sL, sS, sN, sW]; omega) | (simp only [sI, sL, sS, sN, sW, va_up_self]; omega) | (simp [sI, sL, sS, sN, sW, va_up]; omega)) (ri_get (by first | omega | (dsimp only [sI, sL, sS, sN, sW]; omega) | (simp only [sI, sL, sS, sN, sW, va_up_self]; omega) | (simp [sI, sL, sS, sN, sW, va_up]; omega))) ?_
      refine z_callV gt_good d_Mo_tick_128 zv_Mo_99 (zmo_m _ _ _ _) rfl (fun l => c_Mo_task l g m ad P (P.2.2.1 24 f) hA (by omega)) rfl rfl ⟨Nat.le_of_ble_eq_true rfl, Nat.le_of_ble_eq_true rfl⟩ (Nat.le_of_ble_eq_true rfl) (Nat.le_of_ble_eq_true rfl) (Nat.le_of_ble_eq_true rfl) ?_
      rintro _ _ ⟨rfl, rfl⟩
      refine z_pop d_Mo_tick_131 rfl ?_
      refine z_aload_n d_Mo_tick_132 rfl ?_
      refine z_iload d_Mo_tick_133 rfl ?_
      refine z_callV gt_good d_Mo_tick_135 zv_Mo_159 (zmo_m _ _ _ _) rfl (fun l => c_Mo_drop l g m ad (taskS P (P.2.2.1 24 f)) f hA hfl hdt) rfl rfl ⟨Nat.le_of_ble_eq_true rfl, Nat.le_of_ble_eq_true rfl⟩ (Nat.le_of_ble_eq_true rfl) (Nat.le_of_ble_eq_true rfl) (Nat.le_of_ble_eq_true rfl) ?_
      rintro _ _ ⟨rfl, rfl⟩
      refine z_iinc (v := nI (n + 1)) d_Mo_tick_138 rfl (nI_1 n) (by decide) rfl ?_
      refine z_goto (tgt := 25) d_Mo_tick_141 (by decide) ?_
      have hb3 : (drS (taskS P (P.2.2.1 24 f)) f).2.1 1 = P.2.1 1 + 1 := by rw [drS_nn _ _ _ (by decide), taskS_bg]
      have hb4 : (drS (taskS P (P.2.2.1 24 f)) f).2.1 2 = P.2.1 2 - 1 := by rw [drS_dl]; rfl
      have hb5 : (drS (taskS P (P.2.2.1 24 f)) f).2.1 0 = P.2.1 0 := by rw [drS_nn _ _ _ (by decide), taskS_it]
      exact ih (n + 1) (drS (taskS P (P.2.2.1 24 f)) f) _ _ (by omega) (by omega) (by omega) (by omega) (by rw [hR]; show (n + (_ + 1), _) = (n + 1 + _, _); rw [show n + ((tiN (drS (taskS P (P.2.2.1 24 f)) f) d).1 + 1) = n + 1 + (tiN (drS (taskS P (P.2.2.1 24 f)) f) d).1 by omega])
set_option maxHeartbeats 4000000 in
set_option maxRecDepth 100000 in
theorem c_Mo_tick (l : Launch) (g : ZG) (m : Nat) (ad : Nat → Nat) (N : NS) (t : Int64) (hA : zAd g.2.2.2.1 m ad) (hit : N.2.1 0 < 1100) (hbg : N.2.1 1 + N.2.1 2 + 32 ≤ 4000) (hdl : N.2.1 2 ≤ 200) : ZC vcl tlx GT l g y_Mo_tick b_Mo_tick 7 (Option.some FieldType.int) (ZRm 3 0 0) [.ref m, .long t] (zmo g.2.2.2.1 m ad N) (fun r M' => r = some (.int (tiM N t).1) ∧ M' = zmo g.2.2.2.1 m ad (ansS (tiM N t).2)) := by
  refine ZC.of (by decide) (Nat.le_of_ble_eq_true rfl) rfl (fun k0 hz0 => ?_)
  refine z_lload_n d_Mo_tick_0 rfl ?_
  refine z_aload_n d_Mo_tick_1 rfl ?_
  refine z_get d_Mo_tick_2 zf_Mo_112 (zmo_m _ _ _ _) rfl ?_
  refine z_lcmp d_Mo_tick_5 ?_
  refine z_if_ge (tgt := 15) d_Mo_tick_6 (by decide) (fun h6 => ?_) (fun h6 => ?_)
  · skip
    have hlt : ¬ t < N.2.2.2.2 := i64_nlt.mpr ((lg_cmp_ge _ _).mp h6)
    refine z_aload_n d_Mo_tick_15 rfl ?_
    refine z_lload_n d_Mo_tick_16 rfl ?_
    refine z_put d_Mo_tick_17 zp_Mo_112 (zmo_m _ _ _ _) rfl rfl ?_
    rw [ws_22]
    refine z_iconst (v := 0) d_Mo_tick_20 (by decide) ?_
    refine z_istore_n (i := 3) d_Mo_tick_21 rfl (by decide) rfl ?_
    refine z_iconst (v := 1) d_Mo_tick_22 (by decide) ?_
    refine z_istore d_Mo_tick_23 (by decide) rfl ?_
    have hF : tiM N t = (nI (tiN (sW N t) (N.2.1 2 + 1)).1, (tiN (sW N t) (N.2.1 2 + 1)).2) := if_neg hlt
    rw [hF]
    exact lp_Mo_tick g k0 m ad t _ hA (N.2.1 2 + 1) 0 (sW N t) _ _ (Nat.lt_succ_self _) hdl hbg hit (by rw [Nat.zero_add])
  · skip
    have hlt : t < N.2.2.2.2 := i64_nle.mp (fun q => h6 ((lg_cmp_ge _ _).mpr q))
    refine z_aload_n d_Mo_tick_9 rfl ?_
    refine z_iconst (v := (-1)) d_Mo_tick_10 (by decide) ?_
    refine z_callV gt_good d_Mo_tick_11 zv_Mo_120 (zmo_m _ _ _ _) rfl (fun l => c_Mo_answer l g m ad N _ hA (Nat.le_of_lt hit) (by omega)) rfl rfl ⟨Nat.le_of_ble_eq_true rfl, Nat.le_of_ble_eq_true rfl⟩ (Nat.le_of_ble_eq_true rfl) (Nat.le_of_ble_eq_true rfl) (Nat.le_of_ble_eq_true rfl) ?_
    rintro _ _ ⟨rfl, rfl⟩
    refine z_ireturn d_Mo_tick_14 rfl ?_ (by decide) (by decide)
    rw [show tiM N t = (-1, N) from if_pos hlt]
    exact ⟨rfl, rfl⟩
set_option maxHeartbeats 4000000 in
set_option maxRecDepth 100000 in
theorem lp_Mo_unitEnds (g : ZG) (k0 : ZK) (m : Nat) (ad : Nat → Nat) (u c : Int32) (R : Nat × NS) (hA : zAd g.2.2.2.1 m ad) : ∀ (K n : Nat) (P : NS) (lo : Option Value), K ≤ P.2.1 0 → P.2.1 0 ≤ 1100 → moQ P → R = (n + (unN P u c K).1, (unN P u c K).2) → ZW vcl tlx GT "MonitorQueuesModel" b_Mo_unitEnds 6 (Option.some FieldType.int) "unitEnds" (ZRm 3 0 0) g k0 (fun r M' => r = some (.int (nI R.1)) ∧ M' = zmo g.2.2.2.1 m ad (R.2)) [some (.ref m), some (.int u), some (.int c), some (.int (nI n)), some (.int (nI K - 1)), lo] 24 [] (zmo g.2.2.2.1 m ad P) 0 0 := by
  intro K
  induction K with
  | zero =>
    intro n P lo hK h0 hQ hR
    rw [unN_zero] at hR
    refine z_iload d_Mo_unitEnds_24 rfl ?_
    refine z_if_lt (tgt := 119) d_Mo_unitEnds_26 (by decide) (fun h26 => ?_) (fun h26 => False.elim (h26 (by decide)))
    refine z_iload_n d_Mo_unitEnds_119 rfl ?_
    refine z_ireturn d_Mo_unitEnds_120 rfl ?_ (by decide) (by decide)
    rw [hR]
    exact ⟨rfl, rfl⟩
  | succ K ih =>
    intro n P lo hK h0 hQ hR
    obtain ⟨q, hq, hqk⟩ := hQ K (by omega)
    rw [nI_pred]
    refine z_iload d_Mo_unitEnds_24 rfl ?_
    refine z_if_lt (tgt := 119) d_Mo_unitEnds_26 (by decide) (fun h26 => False.elim (nI_pos (by omega) h26)) (fun h26 => ?_)
    refine z_aload_n d_Mo_unitEnds_29 rfl ?_
    refine z_get d_Mo_unitEnds_30 zf_Mo_16 (zmo_m _ _ _ _) rfl ?_
    refine z_iload d_Mo_unitEnds_33 rfl ?_
    refine z_iald d_Mo_unitEnds_35 (rd_4 hA _) rfl (by first | omega | (dsimp only [sI, sL, sS, sN, sW]; omega) | (simp only [sI, sL, sS, sN, sW, va_up_self]; omega) | (simp [sI, sL, sS, sN, sW, va_up]; omega)) (ri_get (by first | omega | (dsimp only [sI, sL, sS, sN, sW]; omega) | (simp only [sI, sL, sS, sN, sW, va_up_self]; omega) | (simp [sI, sL, sS, sN, sW, va_up]; omega))) ?_
    refine z_iload_n d_Mo_unitEnds_36 rfl ?_
    refine z_icmp_eq (tgt := 43) d_Mo_unitEnds_37 (by decide) (fun h37 => ?_) (fun h37 => ?_)
    · skip
      refine z_iinc (v := nI (n + 1)) d_Mo_unitEnds_43 rfl (nI_1 n) (by decide) rfl ?_
      refine z_aload_n d_Mo_unitEnds_46 rfl ?_
      refine z_get d_Mo_unitEnds_47 zf_Mo_7 (zmo_m _ _ _ _) rfl ?_
      refine z_iload d_Mo_unitEnds_50 rfl ?_
      refine z_iald d_Mo_unitEnds_52 (rd_2 hA _) rfl (by first | omega | (dsimp only [sI, sL, sS, sN, sW]; omega) | (simp only [sI, sL, sS, sN, sW, va_up_self]; omega) | (simp [sI, sL, sS, sN, sW, va_up]; omega)) (ri_get (by first | omega | (dsimp only [sI, sL, sS, sN, sW]; omega) | (simp only [sI, sL, sS, sN, sW, va_up_self]; omega) | (simp [sI, sL, sS, sN, sW, va_up]; omega))) ?_
      rw [hqk]
      refine z_istore d_Mo_unitEnds_53 (by decide) rfl ?_
      refine z_aload_n d_Mo_unitEnds_55 rfl ?_
      refine z_get d_Mo_unitEnds_56 zf_Mo_16 (zmo_m _ _ _ _) rfl ?_
      refine z_iload d_Mo_unitEnds_59 rfl ?_
      refine z_iconst (v := 0) d_Mo_unitEnds_61 (by decide) ?_
      refine z_iast d_Mo_unitEnds_62 (rd_4 hA _) rfl (by first | omega | (dsimp only [sI, sL, sS, sN, sW]; omega) | (simp only [sI, sL, sS, sN, sW, va_up_self]; omega) | (simp [sI, sL, sS, sN, sW, va_up]; omega)) (by rw [ri_len]; exact (by first | omega | (dsimp only [sI, sL, sS, sN, sW]; omega) | (simp only [sI, sL, sS, sN, sW, va_up_self]; omega) | (simp [sI, sL, sS, sN, sW, va_up]; omega))) ?_
      rw [wr_4 hA]
      refine z_iload_n d_Mo_unitEnds_63 rfl ?_
      refine z_if_eq (tgt := 70) d_Mo_unitEnds_64 (by decide) (fun h64 => ?_) (fun h64 => ?_)
      · skip
        refine z_aload_n d_Mo_unitEnds_70 rfl ?_
        refine z_get d_Mo_unitEnds_71 zf_Mo_26 (zmo_m _ _ _ _) rfl ?_
        refine z_iload d_Mo_unitEnds_74 rfl ?_
        refine z_aload_n d_Mo_unitEnds_76 rfl ?_
        refine z_get d_Mo_unitEnds_77 zf_Mo_23 (zmo_m _ _ _ _) rfl ?_
        refine z_iload d_Mo_unitEnds_80 rfl ?_
        refine z_iald d_Mo_unitEnds_82 (rd_7 hA _) rfl (by first | omega | (dsimp only [sI, sL, sS, sN, sW]; omega) | (simp only [sI, sL, sS, sN, sW, va_up_self]; omega) | (simp [sI, sL, sS, sN, sW, va_up]; omega)) (ri_get (by first | omega | (dsimp only [sI, sL, sS, sN, sW]; omega) | (simp only [sI, sL, sS, sN, sW, va_up_self]; omega) | (simp [sI, sL, sS, sN, sW, va_up]; omega))) ?_
        refine z_iconst (v := 1) d_Mo_unitEnds_83 (by decide) ?_
        refine z_icmp_le (tgt := 99) d_Mo_unitEnds_84 (by decide) (fun h84 => ?_) (fun h84 => ?_)
        · skip
          refine z_aload_n d_Mo_unitEnds_99 rfl ?_
          refine z_get d_Mo_unitEnds_100 zf_Mo_26 (zmo_m _ _ _ _) rfl ?_
          refine z_iload d_Mo_unitEnds_103 rfl ?_
          refine z_iald d_Mo_unitEnds_105 (rd_8 hA _) rfl (by first | omega | (dsimp only [sI, sL, sS, sN, sW]; omega) | (simp only [sI, sL, sS, sN, sW, va_up_self]; omega) | (simp [sI, sL, sS, sN, sW, va_up]; omega)) (ri_get (by first | omega | (dsimp only [sI, sL, sS, sN, sW]; omega) | (simp only [sI, sL, sS, sN, sW, va_up_self]; omega) | (simp [sI, sL, sS, sN, sW, va_up]; omega))) ?_
          refine z_iast d_Mo_unitEnds_106 (rd_8 hA _) rfl (by first | omega | (dsimp only [sI, sL, sS, sN, sW]; omega) | (simp only [sI, sL, sS, sN, sW, va_up_self]; omega) | (simp [sI, sL, sS, sN, sW, va_up]; omega)) (by rw [ri_len]; exact (by first | omega | (dsimp only [sI, sL, sS, sN, sW]; omega) | (simp only [sI, sL, sS, sN, sW, va_up_self]; omega) | (simp [sI, sL, sS, sN, sW, va_up]; omega))) ?_
          rw [wr_8 hA]
          rw [show sI (sI P 4 K 0) 8 q ((sI P 4 K 0).2.2.1 8 q) = unO (sI P 4 K 0) q from by unfold unO; rw [if_pos h84]]
          refine z_aload_n d_Mo_unitEnds_107 rfl ?_
          refine z_iload d_Mo_unitEnds_108 rfl ?_
          refine z_callV gt_good d_Mo_unitEnds_110 zv_Mo_136 (zmo_m _ _ _ _) rfl (fun l => c_Mo_remove l g m ad (unO (sI P 4 K 0) q) K q hA hq (by show K < P.2.1 0; omega) hqk h0) rfl rfl ⟨Nat.le_of_ble_eq_true rfl, Nat.le_of_ble_eq_true rfl⟩ (Nat.le_of_ble_eq_true rfl) (Nat.le_of_ble_eq_true rfl) (Nat.le_of_ble_eq_true rfl) ?_
          rintro _ _ ⟨rfl, rfl⟩
          refine z_iinc (v := nI K - 1) d_Mo_unitEnds_113 rfl (by rw [Int32.sub_eq_add_neg]; rfl) (by decide) rfl ?_
          refine z_goto (tgt := 24) d_Mo_unitEnds_116 (by decide) ?_
          have hrem : (remS (unO (sI P 4 K 0) q) K q).2.1 0 = P.2.1 0 - 1 := remS_it _ _ _
          exact ih (n + 1) (remS (unO (sI P 4 K 0) q) K q) _ (by omega) (by omega) (moQ.rem (N := unO (sI P 4 K 0) q) hQ K q (by show K < P.2.1 0; omega)) (by rw [hR, unN_va P u c K q h37 h64 hqk hq]; show (n + (_ + 1), _) = (n + 1 + _, _); rw [show n + ((unN (remS (unO (sI P 4 K 0) q) K q) u c K).1 + 1) = n + 1 + (unN (remS (unO (sI P 4 K 0) q) K q) u c K).1 by omega])
        · skip
          refine z_aload_n d_Mo_unitEnds_87 rfl ?_
          refine z_get d_Mo_unitEnds_88 zf_Mo_26 (zmo_m _ _ _ _) rfl ?_
          refine z_iload d_Mo_unitEnds_91 rfl ?_
          refine z_iald d_Mo_unitEnds_93 (rd_8 hA _) rfl (by first | omega | (dsimp only [sI, sL, sS, sN, sW]; omega) | (simp only [sI, sL, sS, sN, sW, va_up_self]; omega) | (simp [sI, sL, sS, sN, sW, va_up]; omega)) (ri_get (by first | omega | (dsimp only [sI, sL, sS, sN, sW]; omega) | (simp only [sI, sL, sS, sN, sW, va_up_self]; omega) | (simp [sI, sL, sS, sN, sW, va_up]; omega))) ?_
          refine z_iconst (v := 1) d_Mo_unitEnds_94 (by decide) ?_
          refine z_isub d_Mo_unitEnds_95 ?_
          refine z_goto (tgt := 106) d_Mo_unitEnds_96 (by decide) ?_
          refine z_iast d_Mo_unitEnds_106 (rd_8 hA _) rfl (by first | omega | (dsimp only [sI, sL, sS, sN, sW]; omega) | (simp only [sI, sL, sS, sN, sW, va_up_self]; omega) | (simp [sI, sL, sS, sN, sW, va_up]; omega)) (by rw [ri_len]; exact (by first | omega | (dsimp only [sI, sL, sS, sN, sW]; omega) | (simp only [sI, sL, sS, sN, sW, va_up_self]; omega) | (simp [sI, sL, sS, sN, sW, va_up]; omega))) ?_
          rw [wr_8 hA]
          rw [show sI (sI P 4 K 0) 8 q ((sI P 4 K 0).2.2.1 8 q - 1) = unO (sI P 4 K 0) q from by unfold unO; rw [if_neg h84]]
          refine z_aload_n d_Mo_unitEnds_107 rfl ?_
          refine z_iload d_Mo_unitEnds_108 rfl ?_
          refine z_callV gt_good d_Mo_unitEnds_110 zv_Mo_136 (zmo_m _ _ _ _) rfl (fun l => c_Mo_remove l g m ad (unO (sI P 4 K 0) q) K q hA hq (by show K < P.2.1 0; omega) hqk h0) rfl rfl ⟨Nat.le_of_ble_eq_true rfl, Nat.le_of_ble_eq_true rfl⟩ (Nat.le_of_ble_eq_true rfl) (Nat.le_of_ble_eq_true rfl) (Nat.le_of_ble_eq_true rfl) ?_
          rintro _ _ ⟨rfl, rfl⟩
          refine z_iinc (v := nI K - 1) d_Mo_unitEnds_113 rfl (by rw [Int32.sub_eq_add_neg]; rfl) (by decide) rfl ?_
          refine z_goto (tgt := 24) d_Mo_unitEnds_116 (by decide) ?_
          have hrem : (remS (unO (sI P 4 K 0) q) K q).2.1 0 = P.2.1 0 - 1 := remS_it _ _ _
          exact ih (n + 1) (remS (unO (sI P 4 K 0) q) K q) _ (by omega) (by omega) (moQ.rem (N := unO (sI P 4 K 0) q) hQ K q (by show K < P.2.1 0; omega)) (by rw [hR, unN_va P u c K q h37 h64 hqk hq]; show (n + (_ + 1), _) = (n + 1 + _, _); rw [show n + ((unN (remS (unO (sI P 4 K 0) q) K q) u c K).1 + 1) = n + 1 + (unN (remS (unO (sI P 4 K 0) q) K q) u c K).1 by omega])
      · skip
        refine z_goto (tgt := 113) d_Mo_unitEnds_67 (by decide) ?_
        refine z_iinc (v := nI K - 1) d_Mo_unitEnds_113 rfl (by rw [Int32.sub_eq_add_neg]; rfl) (by decide) rfl ?_
        refine z_goto (tgt := 24) d_Mo_unitEnds_116 (by decide) ?_
        exact ih (n + 1) (sI P 4 K 0) _ (by show K ≤ P.2.1 0; omega) h0 hQ (by rw [hR, unN_st P u c K h37 h64]; show (n + (_ + 1), _) = (n + 1 + _, _); rw [show n + ((unN (sI P 4 K 0) u c K).1 + 1) = n + 1 + (unN (sI P 4 K 0) u c K).1 by omega])
        skip
    · skip
      have h37 : ¬ P.2.2.1 4 K = u := h37
      refine z_goto (tgt := 113) d_Mo_unitEnds_40 (by decide) ?_
      refine z_iinc (v := nI K - 1) d_Mo_unitEnds_113 rfl (by rw [Int32.sub_eq_add_neg]; rfl) (by decide) rfl ?_
      refine z_goto (tgt := 24) d_Mo_unitEnds_116 (by decide) ?_
      exact ih n P _ (by omega) h0 hQ (by rw [hR, unN_no P u c K h37])
      skip
set_option maxHeartbeats 4000000 in
set_option maxRecDepth 100000 in
theorem c_Mo_unitEnds (l : Launch) (g : ZG) (m : Nat) (ad : Nat → Nat) (N : NS) (u c : Int32) (hA : zAd g.2.2.2.1 m ad) (hit : N.2.1 0 < 1100) (hQ : moQ N) : ZC vcl tlx GT l g y_Mo_unitEnds b_Mo_unitEnds 6 (Option.some FieldType.int) (ZRm 3 0 0) [.ref m, .int u, .int c] (zmo g.2.2.2.1 m ad N) (fun r M' => r = some (.int (unM N u c).1) ∧ M' = zmo g.2.2.2.1 m ad ((unM N u c).2)) := by
  refine ZC.of (by decide) (Nat.le_of_ble_eq_true rfl) rfl (fun k0 hz0 => ?_)
  refine z_iload_n d_Mo_unitEnds_0 rfl ?_
  refine z_iconst (v := 1) d_Mo_unitEnds_1 (by decide) ?_
  refine z_icmp_lt (tgt := 11) d_Mo_unitEnds_2 (by decide) (fun h2 => ?_) (fun h2 => ?_)
  · skip
    have hb : u < 1 ∨ 9 < u := Or.inl h2
    refine z_bipush (v := (-2)) d_Mo_unitEnds_11 (by decide) ?_
    refine z_ireturn d_Mo_unitEnds_13 rfl ?_ (by decide) (by decide)
    rw [show unM N u c = (-2, N) from if_pos hb]
    exact ⟨rfl, rfl⟩
  · skip
    refine z_iload_n d_Mo_unitEnds_5 rfl ?_
    refine z_bipush (v := 9) d_Mo_unitEnds_6 (by decide) ?_
    refine z_icmp_le (tgt := 14) d_Mo_unitEnds_8 (by decide) (fun h8 => ?_) (fun h8 => ?_)
    · skip
      have hb : ¬ (u < 1 ∨ 9 < u) := fun h => h.elim h2 (fun h => k2_nlt h8 h)
      refine z_iconst (v := 0) d_Mo_unitEnds_14 (by decide) ?_
      refine z_istore_n (i := 3) d_Mo_unitEnds_15 rfl (by decide) rfl ?_
      refine z_aload_n d_Mo_unitEnds_16 rfl ?_
      refine z_get d_Mo_unitEnds_17 zf_Mo_79 (zmo_m _ _ _ _) rfl ?_
      refine z_iconst (v := 1) d_Mo_unitEnds_20 (by decide) ?_
      refine z_isub d_Mo_unitEnds_21 ?_
      refine z_istore d_Mo_unitEnds_22 (by decide) rfl ?_
      have hF : unM N u c = (nI (unN N u c (N.2.1 0)).1, (unN N u c (N.2.1 0)).2) := if_neg hb
      rw [hF]
      exact lp_Mo_unitEnds g k0 m ad u c _ hA (N.2.1 0) 0 N _ (Nat.le_refl _) (Nat.le_of_lt hit) hQ (by rw [Nat.zero_add])
    · skip
      have hb : u < 1 ∨ 9 < u := Or.inr (k2_lt h8)
      refine z_bipush (v := (-2)) d_Mo_unitEnds_11 (by decide) ?_
      refine z_ireturn d_Mo_unitEnds_13 rfl ?_ (by decide) (by decide)
      rw [show unM N u c = (-2, N) from if_pos hb]
      exact ⟨rfl, rfl⟩
set_option maxHeartbeats 4000000 in
set_option maxRecDepth 100000 in
theorem lp_Mo_ageI (g : ZG) (k0 : ZK) (post : Option Value → ZM → Prop) (m : Nat) (ad : Nat → Nat) (b : Int64) (n q : Nat) (R : NS) (hA : zAd g.2.2.2.1 m ad) (hq : q < 32) (hn : ZW vcl tlx GT "MonitorQueuesModel" b_Mo_age 5 (Option.some FieldType.int) "age" (ZRm 3 0 0) g k0 post [some (.ref m), some (.long b), none, some (.int (nI n)), some (.int (nI q))] 68 [] (zmo g.2.2.2.1 m ad R) 0 0) : ∀ (d : Nat) (P : NS), P.2.1 0 ≤ d → P.2.1 0 ≤ 1100 → R = agL P q d → ZW vcl tlx GT "MonitorQueuesModel" b_Mo_age 5 (Option.some FieldType.int) "age" (ZRm 3 0 0) g k0 post [some (.ref m), some (.long b), none, some (.int (nI n)), some (.int (nI q))] 45 [] (zmo g.2.2.2.1 m ad P) 0 0 := by
  intro d
  induction d with
  | zero =>
    intro P hd h0 hR
    rw [agL_zero] at hR
    have hm := mnN_le P (nI q) (P.2.1 0)
    refine z_aload_n d_Mo_age_45 rfl ?_
    refine z_iload d_Mo_age_46 rfl ?_
    refine z_callV gt_good d_Mo_age_48 zv_Mo_82 (zmo_m _ _ _ _) rfl (fun l => c_Mo_many l g m ad P (nI q) hA h0) rfl rfl ⟨Nat.le_of_ble_eq_true rfl, Nat.le_of_ble_eq_true rfl⟩ (Nat.le_of_ble_eq_true rfl) (Nat.le_of_ble_eq_true rfl) (Nat.le_of_ble_eq_true rfl) ?_
    rintro _ _ ⟨rfl, rfl⟩
    refine z_if_le (tgt := 68) d_Mo_age_51 (by decide) (fun h51 => ?_) (fun h51 => False.elim (h51 (by rw [show mnN P (nI q) (P.2.1 0) = 0 by omega]; decide)))
    rw [← hR]
    exact hn
  | succ d ih =>
    intro P hd h0 hR
    have hm := mnN_le P (nI q) (P.2.1 0)
    cases hp : plI P (nI q) 1 with
    | none =>
      rw [agL_none _ _ _ hp] at hR
      have hz := plI_none hp
      refine z_aload_n d_Mo_age_45 rfl ?_
      refine z_iload d_Mo_age_46 rfl ?_
      refine z_callV gt_good d_Mo_age_48 zv_Mo_82 (zmo_m _ _ _ _) rfl (fun l => c_Mo_many l g m ad P (nI q) hA h0) rfl rfl ⟨Nat.le_of_ble_eq_true rfl, Nat.le_of_ble_eq_true rfl⟩ (Nat.le_of_ble_eq_true rfl) (Nat.le_of_ble_eq_true rfl) (Nat.le_of_ble_eq_true rfl) ?_
      rintro _ _ ⟨rfl, rfl⟩
      refine z_if_le (tgt := 68) d_Mo_age_51 (by decide) (fun h51 => ?_) (fun h51 => False.elim (h51 (by rw [hz]; decide)))
      rw [← hR]
      exact hn
    | some k =>
      rw [agL_some _ _ _ hp] at hR
      have hk := plI_lt hp
      have hkq := plI_q hp
      have hps := mnN_pos P (nI q) _ k hk hkq
      refine z_aload_n d_Mo_age_45 rfl ?_
      refine z_iload d_Mo_age_46 rfl ?_
      refine z_callV gt_good d_Mo_age_48 zv_Mo_82 (zmo_m _ _ _ _) rfl (fun l => c_Mo_many l g m ad P (nI q) hA h0) rfl rfl ⟨Nat.le_of_ble_eq_true rfl, Nat.le_of_ble_eq_true rfl⟩ (Nat.le_of_ble_eq_true rfl) (Nat.le_of_ble_eq_true rfl) (Nat.le_of_ble_eq_true rfl) ?_
      rintro _ _ ⟨rfl, rfl⟩
      refine z_if_le (tgt := 68) d_Mo_age_51 (by decide) (fun h51 => False.elim (nI_nle hps (by omega) h51)) (fun h51 => ?_)
      refine z_aload_n d_Mo_age_54 rfl ?_
      refine z_aload_n d_Mo_age_55 rfl ?_
      refine z_iload d_Mo_age_56 rfl ?_
      refine z_iconst (v := 1) d_Mo_age_58 (by decide) ?_
      refine z_callV gt_good d_Mo_age_59 zv_Mo_126 (zmo_m _ _ _ _) rfl (fun l => c_Mo_placeOf l g m ad P (nI q) 1 hA h0) rfl rfl ⟨Nat.le_of_ble_eq_true rfl, Nat.le_of_ble_eq_true rfl⟩ (Nat.le_of_ble_eq_true rfl) (Nat.le_of_ble_eq_true rfl) (Nat.le_of_ble_eq_true rfl) ?_
      rintro _ _ ⟨rfl, rfl⟩
      rw [hp, show plV (some k) = nI k from rfl]
      refine z_callV gt_good d_Mo_age_62 zv_Mo_136 (zmo_m _ _ _ _) rfl (fun l => c_Mo_remove l g m ad P k q hA hq hk hkq h0) rfl rfl ⟨Nat.le_of_ble_eq_true rfl, Nat.le_of_ble_eq_true rfl⟩ (Nat.le_of_ble_eq_true rfl) (Nat.le_of_ble_eq_true rfl) (Nat.le_of_ble_eq_true rfl) ?_
      rintro _ _ ⟨rfl, rfl⟩
      refine z_goto (tgt := 45) d_Mo_age_65 (by decide) ?_
      have hri := remS_it P k q
      exact ih (remS P k q) (by omega) (by omega) hR
set_option maxHeartbeats 4000000 in
set_option maxRecDepth 100000 in
theorem lp_Mo_age (g : ZG) (k0 : ZK) (m : Nat) (ad : Nat → Nat) (N : NS) (b : Int64) (hA : zAd g.2.2.2.1 m ad) (hit : N.2.1 0 < 1100) (hbg : N.2.1 1 + 32 ≤ 4000) (hQ : moQ N) : ∀ (d q : Nat), q + d = 32 → ZW vcl tlx GT "MonitorQueuesModel" b_Mo_age 5 (Option.some FieldType.int) "age" (ZRm 3 0 0) g k0 (fun r M' => r = some (.int (nI (agM N b 32).1)) ∧ M' = zmo g.2.2.2.1 m ad (ansS (agM N b 32).2)) [some (.ref m), some (.long b), none, some (.int (nI (agM N b q).1)), some (.int (nI q))] 5 [] (zmo g.2.2.2.1 m ad (agM N b q).2) 0 0 := by
  intro d
  induction d with
  | zero =>
    intro q hq
    obtain rfl : q = 32 := by omega
    obtain ⟨a1, a2, a3⟩ := agM_keep b hQ 32
    refine z_iload d_Mo_age_5 rfl ?_
    refine z_bipush (v := 32) d_Mo_age_7 (by decide) ?_
    refine z_icmp_ge (tgt := 77) d_Mo_age_9 (by decide) (fun h9 => ?_) (fun h9 => False.elim (h9 (by decide)))
    refine z_aload_n d_Mo_age_77 rfl ?_
    refine z_iload_n d_Mo_age_78 rfl ?_
    refine z_callV gt_good d_Mo_age_79 zv_Mo_120 (zmo_m _ _ _ _) rfl (fun l => c_Mo_answer l g m ad (agM N b 32).2 _ hA (by omega) (by omega)) rfl rfl ⟨Nat.le_of_ble_eq_true rfl, Nat.le_of_ble_eq_true rfl⟩ (Nat.le_of_ble_eq_true rfl) (Nat.le_of_ble_eq_true rfl) (Nat.le_of_ble_eq_true rfl) ?_
    rintro _ _ ⟨rfl, rfl⟩
    refine z_ireturn d_Mo_age_82 rfl ?_ (by decide) (by decide)
    exact ⟨rfl, rfl⟩
  | succ d ih =>
    intro q hq
    obtain ⟨a1, a2, a3⟩ := agM_keep b hQ q
    have hsu := agM_succ N b q
    have ih := ih (q + 1) (by omega)
    rw [hsu] at ih
    generalize hP : agM N b q = X at *
    obtain ⟨n, P⟩ := X
    refine z_iload d_Mo_age_5 rfl ?_
    refine z_bipush (v := 32) d_Mo_age_7 (by decide) ?_
    refine z_icmp_ge (tgt := 77) d_Mo_age_9 (by decide) (fun h9 => False.elim (nI_ge (show q < 32 by omega) (by decide) h9)) (fun h9 => ?_)
    refine z_aload_n d_Mo_age_12 rfl ?_
    refine z_iload d_Mo_age_13 rfl ?_
    refine z_callV gt_good d_Mo_age_15 zv_Mo_123 (zmo_m _ _ _ _) rfl (fun l => c_Mo_isTemporary l g m ad P q hA (by omega)) rfl rfl ⟨Nat.le_of_ble_eq_true rfl, Nat.le_of_ble_eq_true rfl⟩ (Nat.le_of_ble_eq_true rfl) (Nat.le_of_ble_eq_true rfl) (Nat.le_of_ble_eq_true rfl) ?_
    rintro _ _ ⟨rfl, rfl⟩
    refine z_if_eq (tgt := 71) d_Mo_age_18 (by decide) (fun h18 => ?_) (fun h18 => ?_)
    · skip
      have hno : ¬ agK P b q := fun h => zif0 h18 h.1
      rw [show agP P b q = (0, P) from if_neg hno] at ih
      refine z_iinc (v := nI (q + 1)) d_Mo_age_71 rfl (nI_1 q) (by decide) rfl ?_
      refine z_goto (tgt := 5) d_Mo_age_74 (by decide) ?_
      exact ih
      skip
    · skip
      refine z_aload_n d_Mo_age_21 rfl ?_
      refine z_get d_Mo_age_22 zf_Mo_48 (zmo_m _ _ _ _) rfl ?_
      refine z_iload d_Mo_age_25 rfl ?_
      refine z_lald d_Mo_age_27 (rd_15 hA _) rfl (by first | omega | (dsimp only [sI, sL, sS, sN, sW]; omega) | (simp only [sI, sL, sS, sN, sW, va_up_self]; omega) | (simp [sI, sL, sS, sN, sW, va_up]; omega)) (rl_get (by first | omega | (dsimp only [sI, sL, sS, sN, sW]; omega) | (simp only [sI, sL, sS, sN, sW, va_up_self]; omega) | (simp [sI, sL, sS, sN, sW, va_up]; omega))) ?_
      refine z_lload_n d_Mo_age_28 rfl ?_
      refine z_lcmp d_Mo_age_29 ?_
      refine z_if_ge (tgt := 71) d_Mo_age_30 (by decide) (fun h30 => ?_) (fun h30 => ?_)
      · skip
        have hno : ¬ agK P b q := fun h => i64_nle.mpr h.2.1 ((lg_cmp_ge _ _).mp h30)
        rw [show agP P b q = (0, P) from if_neg hno] at ih
        refine z_iinc (v := nI (q + 1)) d_Mo_age_71 rfl (nI_1 q) (by decide) rfl ?_
        refine z_goto (tgt := 5) d_Mo_age_74 (by decide) ?_
        exact ih
        skip
      · skip
        refine z_aload_n d_Mo_age_33 rfl ?_
        refine z_iload d_Mo_age_34 rfl ?_
        refine z_callV gt_good d_Mo_age_36 zv_Mo_109 (zmo_m _ _ _ _) rfl (fun l => c_Mo_lockOf l g m ad P (nI q) hA (by dsimp only at a2; omega)) rfl rfl ⟨Nat.le_of_ble_eq_true rfl, Nat.le_of_ble_eq_true rfl⟩ (Nat.le_of_ble_eq_true rfl) (Nat.le_of_ble_eq_true rfl) (Nat.le_of_ble_eq_true rfl) ?_
        rintro _ _ ⟨rfl, rfl⟩
        refine z_if_eq (tgt := 45) d_Mo_age_39 (by decide) (fun h39 => ?_) (fun h39 => ?_)
        · skip
          have hyes : agK P b q := ⟨zif1 h18, i64_nle.mp (fun w => h30 ((lg_cmp_ge _ _).mpr w)), h39⟩
          refine lp_Mo_ageI g k0 _ m ad b n q _ hA (by omega) ?_ (P.2.1 0) P (Nat.le_refl _) (by dsimp only at a2; omega) rfl
          rw [show agP P b q = (1, agL P q (P.2.1 0)) from if_pos hyes] at ih
          refine z_iinc (v := nI (n + 1)) d_Mo_age_68 rfl (nI_1 n) (by decide) rfl ?_
          refine z_iinc (v := nI (q + 1)) d_Mo_age_71 rfl (nI_1 q) (by decide) rfl ?_
          refine z_goto (tgt := 5) d_Mo_age_74 (by decide) ?_
          exact ih
          skip
        · skip
          have hno : ¬ agK P b q := fun h => h39 h.2.2
          refine z_goto (tgt := 71) d_Mo_age_42 (by decide) ?_
          rw [show agP P b q = (0, P) from if_neg hno] at ih
          refine z_iinc (v := nI (q + 1)) d_Mo_age_71 rfl (nI_1 q) (by decide) rfl ?_
          refine z_goto (tgt := 5) d_Mo_age_74 (by decide) ?_
          exact ih
          skip
set_option maxHeartbeats 4000000 in
set_option maxRecDepth 100000 in
theorem c_Mo_age (l : Launch) (g : ZG) (m : Nat) (ad : Nat → Nat) (N : NS) (b : Int64) (hA : zAd g.2.2.2.1 m ad) (hit : N.2.1 0 < 1100) (hbg : N.2.1 1 + 32 ≤ 4000) (hQ : moQ N) : ZC vcl tlx GT l g y_Mo_age b_Mo_age 5 (Option.some FieldType.int) (ZRm 3 0 0) [.ref m, .long b] (zmo g.2.2.2.1 m ad N) (fun r M' => r = some (.int (nI (agM N b 32).1)) ∧ M' = zmo g.2.2.2.1 m ad (ansS (agM N b 32).2)) := by
  refine ZC.of (by decide) (Nat.le_of_ble_eq_true rfl) rfl (fun k0 hz0 => ?_)
  refine z_iconst (v := 0) d_Mo_age_0 (by decide) ?_
  refine z_istore_n (i := 3) d_Mo_age_1 rfl (by decide) rfl ?_
  refine z_iconst (v := 0) d_Mo_age_2 (by decide) ?_
  refine z_istore d_Mo_age_3 (by decide) rfl ?_
  have hh := lp_Mo_age g k0 m ad N b hA hit hbg hQ 32 0 rfl
  rw [agM_zero] at hh
  exact hh
