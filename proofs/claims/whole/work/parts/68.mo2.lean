set_option maxHeartbeats 4000000 in
set_option maxRecDepth 100000 in
theorem lp_Mo_remove (g : ZG) (k0 : ZK) (m : Nat) (ad : Nat → Nat) (N : NS) (k q : Nat) (hA : zAd g.2.2.2.1 m ad) (hq : q < 32)  (hit : N.2.1 0 ≤ 1100) (hk : k < N.2.1 0) : ∀ (d c : Nat), c + d = N.2.1 0 - 1 - k → ZW vcl tlx GT "MonitorQueuesModel" b_Mo_remove 4 none "remove" (ZRm 1 0 0) g k0 (fun r M' => r = none ∧ M' = zmo g.2.2.2.1 m ad (remS N k q)) [some (.ref m), some (.int (nI k)), some (.int (nI q)), some (.int (nI (k + c)))] 19 [] (zmo g.2.2.2.1 m ad (shR (sN N 0 (N.2.1 0 - 1)) k c)) 0 0 := by
  intro d
  induction d with
  | zero =>
    intro c hc
    have hnn : (shR (sN N 0 (N.2.1 0 - 1)) k c).2.1 0 = N.2.1 0 - 1 := by rw [shR_nn]; simp [sN, va_up]
    obtain rfl : c = N.2.1 0 - 1 - k := by omega
    refine z_iload_n d_Mo_remove_19 rfl ?_
    refine z_aload_n d_Mo_remove_20 rfl ?_
    refine z_get d_Mo_remove_21 zf_Mo_79 (zmo_m _ _ _ _) rfl ?_
    rw [show nI ((shR (sN N 0 (N.2.1 0 - 1)) k (N.2.1 0 - 1 - k)).2.1 0) = nI (N.2.1 0 - 1) by rw [hnn]]
    refine z_icmp_ge (tgt := 89) d_Mo_remove_24 (by decide) (fun h24 => ?_) (fun h24 => False.elim (h24 (nI_le (by omega) (by omega))))
    refine z_aload_n d_Mo_remove_89 rfl ?_
    refine z_iload_n d_Mo_remove_90 rfl ?_
    refine z_callV gt_good d_Mo_remove_91 zv_Mo_82 (zmo_m _ _ _ _) rfl (fun l => c_Mo_many l g m ad (shR (sN N 0 (N.2.1 0 - 1)) k (N.2.1 0 - 1 - k)) (nI q) hA (by omega)) rfl rfl ⟨Nat.le_of_ble_eq_true rfl, Nat.le_of_ble_eq_true rfl⟩ (Nat.le_of_ble_eq_true rfl) (Nat.le_of_ble_eq_true rfl) (Nat.le_of_ble_eq_true rfl) ?_
    rintro _ _ ⟨rfl, rfl⟩
    rw [hnn]
    refine z_if_ne (tgt := 102) d_Mo_remove_94 (by decide) (fun h94 => ?_) (fun h94 => ?_)
    · skip
      have hm0 : ¬ mnN (remN N k) (nI q) (N.2.1 0 - 1) = 0 := fun e => h94 (by rw [show mnN (shR (sN N 0 (N.2.1 0 - 1)) k (N.2.1 0 - 1 - k)) (nI q) (N.2.1 0 - 1) = 0 from e]; rfl)
      refine z_return d_Mo_remove_102 rfl ?_ (by decide) (by decide)
      first | exact ⟨rfl, by rw [show remS N k q = emS (remN N k) q from if_pos hm0]; rfl⟩ | exact ⟨rfl, by rw [show remS N k q = remN N k from if_neg hm0]; rfl⟩
    · skip
      have hmn := mnN_le (shR (sN N 0 (N.2.1 0 - 1)) k (N.2.1 0 - 1 - k)) (nI q) (N.2.1 0 - 1)
      have hm0 : mnN (remN N k) (nI q) (N.2.1 0 - 1) = 0 := (nI_eq (b := 0) (by show mnN (shR (sN N 0 (N.2.1 0 - 1)) k (N.2.1 0 - 1 - k)) (nI q) (N.2.1 0 - 1) < _; omega) (by decide)).mp h94
      refine z_aload_n d_Mo_remove_97 rfl ?_
      refine z_iload_n d_Mo_remove_98 rfl ?_
      refine z_callV gt_good d_Mo_remove_99 zv_Mo_86 (zmo_m _ _ _ _) rfl (fun l => c_Mo_emptied l g m ad (shR (sN N 0 (N.2.1 0 - 1)) k (N.2.1 0 - 1 - k)) q hA hq) rfl rfl ⟨Nat.le_of_ble_eq_true rfl, Nat.le_of_ble_eq_true rfl⟩ (Nat.le_of_ble_eq_true rfl) (Nat.le_of_ble_eq_true rfl) (Nat.le_of_ble_eq_true rfl) ?_
      rintro _ _ ⟨rfl, rfl⟩
      refine z_return d_Mo_remove_102 rfl ?_ (by decide) (by decide)
      first | exact ⟨rfl, by rw [show remS N k q = emS (remN N k) q from if_pos hm0]; rfl⟩ | exact ⟨rfl, by rw [show remS N k q = remN N k from if_neg hm0]; rfl⟩
  | succ d ih =>
    intro c hc
    have hnn : (shR (sN N 0 (N.2.1 0 - 1)) k c).2.1 0 = N.2.1 0 - 1 := by rw [shR_nn]; simp [sN, va_up]
    refine z_iload_n d_Mo_remove_19 rfl ?_
    refine z_aload_n d_Mo_remove_20 rfl ?_
    refine z_get d_Mo_remove_21 zf_Mo_79 (zmo_m _ _ _ _) rfl ?_
    rw [show nI ((shR (sN N 0 (N.2.1 0 - 1)) k c).2.1 0) = nI (N.2.1 0 - 1) by rw [hnn]]
    refine z_icmp_ge (tgt := 89) d_Mo_remove_24 (by decide) (fun h24 => False.elim (nI_ge (show k + c < N.2.1 0 - 1 by omega) (by omega) h24)) (fun h24 => ?_)
    refine z_aload_n d_Mo_remove_27 rfl ?_
    refine z_get d_Mo_remove_28 zf_Mo_7 (zmo_m _ _ _ _) rfl ?_
    refine z_iload_n d_Mo_remove_31 rfl ?_
    refine z_aload_n d_Mo_remove_32 rfl ?_
    refine z_get d_Mo_remove_33 zf_Mo_7 (zmo_m _ _ _ _) rfl ?_
    refine z_iload_n d_Mo_remove_36 rfl ?_
    refine z_iconst (v := 1) d_Mo_remove_37 (by decide) ?_
    refine z_iadd d_Mo_remove_38 ?_
    rw [nI_1]
    refine z_iald d_Mo_remove_39 (rd_2 hA _) rfl (by first | omega | (dsimp only [sI, sL, sS, sN, sW]; omega) | (simp only [sI, sL, sS, sN, sW, va_up_self]; omega) | (simp [sI, sL, sS, sN, sW, va_up]; omega)) (ri_get (by first | omega | (dsimp only [sI, sL, sS, sN, sW]; omega) | (simp only [sI, sL, sS, sN, sW, va_up_self]; omega) | (simp [sI, sL, sS, sN, sW, va_up]; omega))) ?_
    refine z_iast d_Mo_remove_40 (rd_2 hA _) rfl (by first | omega | (dsimp only [sI, sL, sS, sN, sW]; omega) | (simp only [sI, sL, sS, sN, sW, va_up_self]; omega) | (simp [sI, sL, sS, sN, sW, va_up]; omega)) (by rw [ri_len]; exact (by first | omega | (dsimp only [sI, sL, sS, sN, sW]; omega) | (simp only [sI, sL, sS, sN, sW, va_up_self]; omega) | (simp [sI, sL, sS, sN, sW, va_up]; omega))) ?_
    rw [wr_2 hA]
    refine z_aload_n d_Mo_remove_41 rfl ?_
    refine z_get d_Mo_remove_42 zf_Mo_13 (zmo_m _ _ _ _) rfl ?_
    refine z_iload_n d_Mo_remove_45 rfl ?_
    refine z_aload_n d_Mo_remove_46 rfl ?_
    refine z_get d_Mo_remove_47 zf_Mo_13 (zmo_m _ _ _ _) rfl ?_
    refine z_iload_n d_Mo_remove_50 rfl ?_
    refine z_iconst (v := 1) d_Mo_remove_51 (by decide) ?_
    refine z_iadd d_Mo_remove_52 ?_
    rw [nI_1]
    refine z_iald d_Mo_remove_53 (rd_3 hA _) rfl (by first | omega | (dsimp only [sI, sL, sS, sN, sW]; omega) | (simp only [sI, sL, sS, sN, sW, va_up_self]; omega) | (simp [sI, sL, sS, sN, sW, va_up]; omega)) (ri_get (by first | omega | (dsimp only [sI, sL, sS, sN, sW]; omega) | (simp only [sI, sL, sS, sN, sW, va_up_self]; omega) | (simp [sI, sL, sS, sN, sW, va_up]; omega))) ?_
    refine z_iast d_Mo_remove_54 (rd_3 hA _) rfl (by first | omega | (dsimp only [sI, sL, sS, sN, sW]; omega) | (simp only [sI, sL, sS, sN, sW, va_up_self]; omega) | (simp [sI, sL, sS, sN, sW, va_up]; omega)) (by rw [ri_len]; exact (by first | omega | (dsimp only [sI, sL, sS, sN, sW]; omega) | (simp only [sI, sL, sS, sN, sW, va_up_self]; omega) | (simp [sI, sL, sS, sN, sW, va_up]; omega))) ?_
    rw [wr_3 hA]
    refine z_aload_n d_Mo_remove_55 rfl ?_
    refine z_get d_Mo_remove_56 zf_Mo_16 (zmo_m _ _ _ _) rfl ?_
    refine z_iload_n d_Mo_remove_59 rfl ?_
    refine z_aload_n d_Mo_remove_60 rfl ?_
    refine z_get d_Mo_remove_61 zf_Mo_16 (zmo_m _ _ _ _) rfl ?_
    refine z_iload_n d_Mo_remove_64 rfl ?_
    refine z_iconst (v := 1) d_Mo_remove_65 (by decide) ?_
    refine z_iadd d_Mo_remove_66 ?_
    rw [nI_1]
    refine z_iald d_Mo_remove_67 (rd_4 hA _) rfl (by first | omega | (dsimp only [sI, sL, sS, sN, sW]; omega) | (simp only [sI, sL, sS, sN, sW, va_up_self]; omega) | (simp [sI, sL, sS, sN, sW, va_up]; omega)) (ri_get (by first | omega | (dsimp only [sI, sL, sS, sN, sW]; omega) | (simp only [sI, sL, sS, sN, sW, va_up_self]; omega) | (simp [sI, sL, sS, sN, sW, va_up]; omega))) ?_
    refine z_iast d_Mo_remove_68 (rd_4 hA _) rfl (by first | omega | (dsimp only [sI, sL, sS, sN, sW]; omega) | (simp only [sI, sL, sS, sN, sW, va_up_self]; omega) | (simp [sI, sL, sS, sN, sW, va_up]; omega)) (by rw [ri_len]; exact (by first | omega | (dsimp only [sI, sL, sS, sN, sW]; omega) | (simp only [sI, sL, sS, sN, sW, va_up_self]; omega) | (simp [sI, sL, sS, sN, sW, va_up]; omega))) ?_
    rw [wr_4 hA]
    refine z_aload_n d_Mo_remove_69 rfl ?_
    refine z_get d_Mo_remove_70 zf_Mo_19 (zmo_m _ _ _ _) rfl ?_
    refine z_iload_n d_Mo_remove_73 rfl ?_
    refine z_aload_n d_Mo_remove_74 rfl ?_
    refine z_get d_Mo_remove_75 zf_Mo_19 (zmo_m _ _ _ _) rfl ?_
    refine z_iload_n d_Mo_remove_78 rfl ?_
    refine z_iconst (v := 1) d_Mo_remove_79 (by decide) ?_
    refine z_iadd d_Mo_remove_80 ?_
    rw [nI_1]
    refine z_lald d_Mo_remove_81 (rd_5 hA _) rfl (by first | omega | (dsimp only [sI, sL, sS, sN, sW]; omega) | (simp only [sI, sL, sS, sN, sW, va_up_self]; omega) | (simp [sI, sL, sS, sN, sW, va_up]; omega)) (rl_get (by first | omega | (dsimp only [sI, sL, sS, sN, sW]; omega) | (simp only [sI, sL, sS, sN, sW, va_up_self]; omega) | (simp [sI, sL, sS, sN, sW, va_up]; omega))) ?_
    refine z_last d_Mo_remove_82 (rd_5 hA _) rfl (by first | omega | (dsimp only [sI, sL, sS, sN, sW]; omega) | (simp only [sI, sL, sS, sN, sW, va_up_self]; omega) | (simp [sI, sL, sS, sN, sW, va_up]; omega)) (by rw [rl_len]; exact (by first | omega | (dsimp only [sI, sL, sS, sN, sW]; omega) | (simp only [sI, sL, sS, sN, sW, va_up_self]; omega) | (simp [sI, sL, sS, sN, sW, va_up]; omega))) ?_
    rw [wr_5 hA]
    refine z_iinc (v := nI (k + (c + 1))) d_Mo_remove_83 rfl (nI_1 (k + c)) (by decide) rfl ?_
    refine z_goto (tgt := 19) d_Mo_remove_86 (by decide) ?_
    exact ih (c + 1) (by omega)
set_option maxHeartbeats 4000000 in
set_option maxRecDepth 100000 in
theorem c_Mo_remove (l : Launch) (g : ZG) (m : Nat) (ad : Nat → Nat) (N : NS) (k q : Nat) (hA : zAd g.2.2.2.1 m ad) (hq : q < 32) (hk : k < N.2.1 0) (hqk : N.2.2.1 2 k = nI q) (hit : N.2.1 0 ≤ 1100) : ZC vcl tlx GT l g y_Mo_remove b_Mo_remove 4 none (ZRm 1 0 0) [.ref m, .int (nI k)] (zmo g.2.2.2.1 m ad N) (fun r M' => r = none ∧ M' = zmo g.2.2.2.1 m ad (remS N k q)) := by
  refine ZC.of (by decide) (Nat.le_of_ble_eq_true rfl) rfl (fun k0 hz0 => ?_)
  refine z_aload_n d_Mo_remove_0 rfl ?_
  refine z_get d_Mo_remove_1 zf_Mo_7 (zmo_m _ _ _ _) rfl ?_
  refine z_iload_n d_Mo_remove_4 rfl ?_
  refine z_iald d_Mo_remove_5 (rd_2 hA _) rfl (by first | omega | (dsimp only [sI, sL, sS, sN, sW]; omega) | (simp only [sI, sL, sS, sN, sW, va_up_self]; omega) | (simp [sI, sL, sS, sN, sW, va_up]; omega)) (ri_get (by first | omega | (dsimp only [sI, sL, sS, sN, sW]; omega) | (simp only [sI, sL, sS, sN, sW, va_up_self]; omega) | (simp [sI, sL, sS, sN, sW, va_up]; omega))) ?_
  rw [hqk]
  refine z_istore_n (i := 2) d_Mo_remove_6 rfl (by decide) rfl ?_
  refine z_aload_n d_Mo_remove_7 rfl ?_
  refine z_dup d_Mo_remove_8 rfl ?_
  refine z_get d_Mo_remove_9 zf_Mo_79 (zmo_m _ _ _ _) rfl ?_
  refine z_iconst (v := 1) d_Mo_remove_12 (by decide) ?_
  refine z_isub d_Mo_remove_13 ?_
  rw [nI_pd (by omega)]
  refine z_put d_Mo_remove_14 zp_Mo_79 (zmo_m _ _ _ _) rfl rfl ?_
  rw [ws_6]
  refine z_iload_n d_Mo_remove_17 rfl ?_
  refine z_istore_n (i := 3) d_Mo_remove_18 rfl (by decide) rfl ?_
  exact lp_Mo_remove g k0 m ad N k q hA hq hit hk (N.2.1 0 - 1 - k) 0 (by omega)
set_option maxHeartbeats 4000000 in
set_option maxRecDepth 100000 in
theorem lp_Mo_look (g : ZG) (k0 : ZK) (m : Nat) (ad : Nat → Nat) (N : NS) (hA : zAd g.2.2.2.1 m ad)  (hit : N.2.1 0 ≤ 1100) (hbg : N.2.1 1 + 32 ≤ 4000) : ∀ (d q : Nat) (lo : Option Value), q + d = 32 → ZW vcl tlx GT "MonitorQueuesModel" b_Mo_look 3 none "look" (ZRm 1 0 0) g k0 (fun r M' => r = none ∧ M' = zmo g.2.2.2.1 m ad (moLk N 32)) [some (.ref m), some (.int (nI q)), lo] 2 [] (zmo g.2.2.2.1 m ad (moLk N q)) 0 0 := by
  intro d
  induction d with
  | zero =>
    intro q lo hq
    obtain rfl : q = 32 := by omega
    refine z_iload_n d_Mo_look_2 rfl ?_
    refine z_bipush (v := 32) d_Mo_look_3 (by decide) ?_
    refine z_icmp_ge (tgt := 120) d_Mo_look_5 (by decide) (fun h5 => ?_) (fun h5 => False.elim (h5 (by decide)))
    refine z_return d_Mo_look_120 rfl ?_ (by decide) (by decide)
    exact ⟨rfl, rfl⟩
  | succ d ih =>
    intro q lo hq
    have hi0 := moLk_it N q
    have hb0 := moLk_bg N q
    have hst := stN_le (moLk N q) (nI q) ((moLk N q).2.1 0)
    have hsu := moLk_succ N q
    generalize hP : moLk N q = P at *
    refine z_iload_n d_Mo_look_2 rfl ?_
    refine z_bipush (v := 32) d_Mo_look_3 (by decide) ?_
    refine z_icmp_ge (tgt := 120) d_Mo_look_5 (by decide) (fun h5 => False.elim (nI_ge (show q < 32 by omega) (by decide) h5)) (fun h5 => ?_)
    refine z_aload_n d_Mo_look_8 rfl ?_
    refine z_get d_Mo_look_9 zf_Mo_29 (zmo_m _ _ _ _) rfl ?_
    refine z_iload_n d_Mo_look_12 rfl ?_
    refine z_iald d_Mo_look_13 (rd_9 hA _) rfl (by first | omega | (dsimp only [sI, sL, sS, sN, sW]; omega) | (simp only [sI, sL, sS, sN, sW, va_up_self]; omega) | (simp [sI, sL, sS, sN, sW, va_up]; omega)) (ri_get (by first | omega | (dsimp only [sI, sL, sS, sN, sW]; omega) | (simp only [sI, sL, sS, sN, sW, va_up_self]; omega) | (simp [sI, sL, sS, sN, sW, va_up]; omega))) ?_
    refine z_if_ne (tgt := 20) d_Mo_look_14 (by decide) (fun h14 => ?_) (fun h14 => ?_)
    · skip
      refine z_aload_n d_Mo_look_20 rfl ?_
      refine z_iload_n d_Mo_look_21 rfl ?_
      refine z_callV gt_good d_Mo_look_22 zv_Mo_96 (zmo_m _ _ _ _) rfl (fun l => c_Mo_standing l g m ad P (nI q) hA (by omega)) rfl rfl ⟨Nat.le_of_ble_eq_true rfl, Nat.le_of_ble_eq_true rfl⟩ (Nat.le_of_ble_eq_true rfl) (Nat.le_of_ble_eq_true rfl) (Nat.le_of_ble_eq_true rfl) ?_
      rintro _ _ ⟨rfl, rfl⟩
      refine z_istore_n (i := 2) d_Mo_look_25 rfl (by decide) rfl ?_
      refine z_aload_n d_Mo_look_26 rfl ?_
      refine z_get d_Mo_look_27 zf_Mo_41 (zmo_m _ _ _ _) rfl ?_
      refine z_iload_n d_Mo_look_30 rfl ?_
      refine z_aload_n d_Mo_look_31 rfl ?_
      refine z_get d_Mo_look_32 zf_Mo_41 (zmo_m _ _ _ _) rfl ?_
      refine z_iload_n d_Mo_look_35 rfl ?_
      refine z_zald d_Mo_look_36 (rd_13 hA _) rfl (by first | omega | (dsimp only [sI, sL, sS, sN, sW]; omega) | (simp only [sI, sL, sS, sN, sW, va_up_self]; omega) | (simp [sI, sL, sS, sN, sW, va_up]; omega)) (ri_get (by first | omega | (dsimp only [sI, sL, sS, sN, sW]; omega) | (simp only [sI, sL, sS, sN, sW, va_up_self]; omega) | (simp [sI, sL, sS, sN, sW, va_up]; omega))) ?_
      refine z_if_ne (tgt := 50) d_Mo_look_37 (by decide) (fun h37 => ?_) (fun h37 => ?_)
      · skip
        have hrd : moRd P q := Or.inl h37
        refine z_iconst (v := 1) d_Mo_look_50 (by decide) ?_
        refine z_goto (tgt := 55) d_Mo_look_51 (by decide) ?_
        refine z_zast d_Mo_look_55 (rd_13 hA _) rfl (by first | omega | (dsimp only [sI, sL, sS, sN, sW]; omega) | (simp only [sI, sL, sS, sN, sW, va_up_self]; omega) | (simp [sI, sL, sS, sN, sW, va_up]; omega)) (by rw [ri_len]; exact (by first | omega | (dsimp only [sI, sL, sS, sN, sW]; omega) | (simp only [sI, sL, sS, sN, sW, va_up_self]; omega) | (simp [sI, sL, sS, sN, sW, va_up]; omega))) rfl ?_
        rw [wr_13 hA]
        refine z_aload_n d_Mo_look_56 rfl ?_
        refine z_get d_Mo_look_57 zf_Mo_41 (zmo_m _ _ _ _) rfl ?_
        refine z_iload_n d_Mo_look_60 rfl ?_
        refine z_zald d_Mo_look_61 (rd_13 hA _) rfl (by first | omega | (dsimp only [sI, sL, sS, sN, sW]; omega) | (simp only [sI, sL, sS, sN, sW, va_up_self]; omega) | (simp [sI, sL, sS, sN, sW, va_up]; omega)) (ri_get (by first | omega | (dsimp only [sI, sL, sS, sN, sW]; omega) | (simp only [sI, sL, sS, sN, sW, va_up_self]; omega) | (simp [sI, sL, sS, sN, sW, va_up]; omega))) ?_
        rw [sI_get]
        refine z_if_eq (tgt := 114) d_Mo_look_62 (by decide) (fun h62 => False.elim (absurd h62 (by decide))) (fun h62 => ?_)
        refine z_aload_n d_Mo_look_65 rfl ?_
        refine z_get d_Mo_look_66 zf_Mo_35 (zmo_m _ _ _ _) rfl ?_
        refine z_iload_n d_Mo_look_69 rfl ?_
        refine z_iald d_Mo_look_70 (rd_11 hA _) rfl (by first | omega | (dsimp only [sI, sL, sS, sN, sW]; omega) | (simp only [sI, sL, sS, sN, sW, va_up_self]; omega) | (simp [sI, sL, sS, sN, sW, va_up]; omega)) (ri_get (by first | omega | (dsimp only [sI, sL, sS, sN, sW]; omega) | (simp only [sI, sL, sS, sN, sW, va_up_self]; omega) | (simp [sI, sL, sS, sN, sW, va_up]; omega))) ?_
        refine z_if_ne (tgt := 114) d_Mo_look_71 (by decide) (fun h71 => ?_) (fun h71 => ?_)
        · skip
          have hnb : ¬ moB P q := fun h => h71 h.2.1
          refine z_iinc (v := nI (q + 1)) d_Mo_look_114 rfl (nI_1 q) (by decide) rfl ?_
          refine z_goto (tgt := 2) d_Mo_look_117 (by decide) ?_
          have hh := ih (q + 1) (some (.int (nI (stN P (nI q) (P.2.1 0))))) (by omega)
          rw [show moLk N (q + 1) = sI P 13 q 1 from hsu.trans (by unfold moL; rw [if_neg h14, if_neg hnb]; unfold moL1 moRn; rw [if_pos hrd])] at hh
          exact hh
          skip
        · skip
          refine z_iload_n d_Mo_look_74 rfl ?_
          refine z_aload_n d_Mo_look_75 rfl ?_
          refine z_get d_Mo_look_76 zf_Mo_29 (zmo_m _ _ _ _) rfl ?_
          refine z_iload_n d_Mo_look_79 rfl ?_
          refine z_iald d_Mo_look_80 (rd_9 hA _) rfl (by first | omega | (dsimp only [sI, sL, sS, sN, sW]; omega) | (simp only [sI, sL, sS, sN, sW, va_up_self]; omega) | (simp [sI, sL, sS, sN, sW, va_up]; omega)) (ri_get (by first | omega | (dsimp only [sI, sL, sS, sN, sW]; omega) | (simp only [sI, sL, sS, sN, sW, va_up_self]; omega) | (simp [sI, sL, sS, sN, sW, va_up]; omega))) ?_
          refine z_icmp_lt (tgt := 114) d_Mo_look_81 (by decide) (fun h81 => ?_) (fun h81 => ?_)
          · skip
            have hnb : ¬ moB P q := fun h => h.2.2 h81
            refine z_iinc (v := nI (q + 1)) d_Mo_look_114 rfl (nI_1 q) (by decide) rfl ?_
            refine z_goto (tgt := 2) d_Mo_look_117 (by decide) ?_
            have hh := ih (q + 1) (some (.int (nI (stN P (nI q) (P.2.1 0))))) (by omega)
            rw [show moLk N (q + 1) = sI P 13 q 1 from hsu.trans (by unfold moL; rw [if_neg h14, if_neg hnb]; unfold moL1 moRn; rw [if_pos hrd])] at hh
            exact hh
            skip
          · skip
            have hb : moB P q := ⟨hrd, h71, h81⟩
            refine z_aload_n d_Mo_look_84 rfl ?_
            refine z_get d_Mo_look_85 zf_Mo_35 (zmo_m _ _ _ _) rfl ?_
            refine z_iload_n d_Mo_look_88 rfl ?_
            refine z_aload_n d_Mo_look_89 rfl ?_
            refine z_aload_n d_Mo_look_90 rfl ?_
            refine z_get d_Mo_look_91 zf_Mo_32 (zmo_m _ _ _ _) rfl ?_
            refine z_iload_n d_Mo_look_94 rfl ?_
            refine z_iald d_Mo_look_95 (rd_10 hA _) rfl (by first | omega | (dsimp only [sI, sL, sS, sN, sW]; omega) | (simp only [sI, sL, sS, sN, sW, va_up_self]; omega) | (simp [sI, sL, sS, sN, sW, va_up]; omega)) (ri_get (by first | omega | (dsimp only [sI, sL, sS, sN, sW]; omega) | (simp only [sI, sL, sS, sN, sW, va_up_self]; omega) | (simp [sI, sL, sS, sN, sW, va_up]; omega))) ?_
            refine z_callV gt_good d_Mo_look_96 zv_Mo_99 (zmo_m _ _ _ _) rfl (fun l => c_Mo_task l g m ad (sI P 13 q 1) (P.2.2.1 10 q) hA (by show P.2.1 1 < 4000; omega)) rfl rfl ⟨Nat.le_of_ble_eq_true rfl, Nat.le_of_ble_eq_true rfl⟩ (Nat.le_of_ble_eq_true rfl) (Nat.le_of_ble_eq_true rfl) (Nat.le_of_ble_eq_true rfl) ?_
            rintro _ _ ⟨rfl, rfl⟩
            refine z_iast d_Mo_look_99 (rd_11 hA _) rfl (by first | omega | (dsimp only [sI, sL, sS, sN, sW]; omega) | (simp only [sI, sL, sS, sN, sW, va_up_self]; omega) | (simp [sI, sL, sS, sN, sW, va_up]; omega)) (by rw [ri_len]; exact (by first | omega | (dsimp only [sI, sL, sS, sN, sW]; omega) | (simp only [sI, sL, sS, sN, sW, va_up_self]; omega) | (simp [sI, sL, sS, sN, sW, va_up]; omega))) ?_
            rw [wr_11 hA]
            refine z_aload_n d_Mo_look_100 rfl ?_
            refine z_get d_Mo_look_101 zf_Mo_45 (zmo_m _ _ _ _) rfl ?_
            refine z_iload_n d_Mo_look_104 rfl ?_
            refine z_iconst (v := 0) d_Mo_look_105 (by decide) ?_
            refine z_zast d_Mo_look_106 (rd_14 hA _) rfl (by first | omega | (dsimp only [sI, sL, sS, sN, sW]; omega) | (simp only [sI, sL, sS, sN, sW, va_up_self]; omega) | (simp [sI, sL, sS, sN, sW, va_up]; omega)) (by rw [ri_len]; exact (by first | omega | (dsimp only [sI, sL, sS, sN, sW]; omega) | (simp only [sI, sL, sS, sN, sW, va_up_self]; omega) | (simp [sI, sL, sS, sN, sW, va_up]; omega))) rfl ?_
            rw [wr_14 hA]
            refine z_aload_n d_Mo_look_107 rfl ?_
            refine z_get d_Mo_look_108 zf_Mo_41 (zmo_m _ _ _ _) rfl ?_
            refine z_iload_n d_Mo_look_111 rfl ?_
            refine z_iconst (v := 0) d_Mo_look_112 (by decide) ?_
            refine z_zast d_Mo_look_113 (rd_13 hA _) rfl (by first | omega | (dsimp only [sI, sL, sS, sN, sW]; omega) | (simp only [sI, sL, sS, sN, sW, va_up_self]; omega) | (simp [sI, sL, sS, sN, sW, va_up]; omega)) (by rw [ri_len]; exact (by first | omega | (dsimp only [sI, sL, sS, sN, sW]; omega) | (simp only [sI, sL, sS, sN, sW, va_up_self]; omega) | (simp [sI, sL, sS, sN, sW, va_up]; omega))) rfl ?_
            rw [wr_13 hA]
            refine z_iinc (v := nI (q + 1)) d_Mo_look_114 rfl (nI_1 q) (by decide) rfl ?_
            refine z_goto (tgt := 2) d_Mo_look_117 (by decide) ?_
            have hh := ih (q + 1) (some (.int (nI (stN P (nI q) (P.2.1 0))))) (by omega)
            rw [show moLk N (q + 1) = sI (sI (sI (taskS (sI P 13 q 1) (P.2.2.1 10 q)) 11 q (nI (P.2.1 1 + 1))) 14 q 0) 13 q 0 from hsu.trans (by unfold moL; rw [if_neg h14, if_pos hb]; unfold moL1 moRn; rw [if_pos hrd])] at hh
            exact hh
        skip
      · skip
        refine z_iload_n d_Mo_look_40 rfl ?_
        refine z_aload_n d_Mo_look_41 rfl ?_
        refine z_get d_Mo_look_42 zf_Mo_29 (zmo_m _ _ _ _) rfl ?_
        refine z_iload_n d_Mo_look_45 rfl ?_
        refine z_iald d_Mo_look_46 (rd_9 hA _) rfl (by first | omega | (dsimp only [sI, sL, sS, sN, sW]; omega) | (simp only [sI, sL, sS, sN, sW, va_up_self]; omega) | (simp [sI, sL, sS, sN, sW, va_up]; omega)) (ri_get (by first | omega | (dsimp only [sI, sL, sS, sN, sW]; omega) | (simp only [sI, sL, sS, sN, sW, va_up_self]; omega) | (simp [sI, sL, sS, sN, sW, va_up]; omega))) ?_
        refine z_icmp_ge (tgt := 54) d_Mo_look_47 (by decide) (fun h47 => ?_) (fun h47 => ?_)
        · skip
          have hrd : ¬ moRd P q := fun h => h.elim (fun h => h h37) (fun h => k2_nlt h47 h)
          refine z_iconst (v := 0) d_Mo_look_54 (by decide) ?_
          refine z_zast d_Mo_look_55 (rd_13 hA _) rfl (by first | omega | (dsimp only [sI, sL, sS, sN, sW]; omega) | (simp only [sI, sL, sS, sN, sW, va_up_self]; omega) | (simp [sI, sL, sS, sN, sW, va_up]; omega)) (by rw [ri_len]; exact (by first | omega | (dsimp only [sI, sL, sS, sN, sW]; omega) | (simp only [sI, sL, sS, sN, sW, va_up_self]; omega) | (simp [sI, sL, sS, sN, sW, va_up]; omega))) rfl ?_
          rw [wr_13 hA]
          refine z_aload_n d_Mo_look_56 rfl ?_
          refine z_get d_Mo_look_57 zf_Mo_41 (zmo_m _ _ _ _) rfl ?_
          refine z_iload_n d_Mo_look_60 rfl ?_
          refine z_zald d_Mo_look_61 (rd_13 hA _) rfl (by first | omega | (dsimp only [sI, sL, sS, sN, sW]; omega) | (simp only [sI, sL, sS, sN, sW, va_up_self]; omega) | (simp [sI, sL, sS, sN, sW, va_up]; omega)) (ri_get (by first | omega | (dsimp only [sI, sL, sS, sN, sW]; omega) | (simp only [sI, sL, sS, sN, sW, va_up_self]; omega) | (simp [sI, sL, sS, sN, sW, va_up]; omega))) ?_
          rw [sI_get]
          refine z_if_eq (tgt := 114) d_Mo_look_62 (by decide) (fun h62 => ?_) (fun h62 => False.elim (h62 rfl))
          have hnb : ¬ moB P q := fun h => hrd h.1
          refine z_iinc (v := nI (q + 1)) d_Mo_look_114 rfl (nI_1 q) (by decide) rfl ?_
          refine z_goto (tgt := 2) d_Mo_look_117 (by decide) ?_
          have hh := ih (q + 1) (some (.int (nI (stN P (nI q) (P.2.1 0))))) (by omega)
          rw [show moLk N (q + 1) = sI P 13 q 0 from hsu.trans (by unfold moL; rw [if_neg h14, if_neg hnb]; unfold moL1 moRn; rw [if_neg hrd])] at hh
          exact hh
          skip
        · skip
          have hrd : moRd P q := Or.inr (k2_lt h47)
          refine z_iconst (v := 1) d_Mo_look_50 (by decide) ?_
          refine z_goto (tgt := 55) d_Mo_look_51 (by decide) ?_
          refine z_zast d_Mo_look_55 (rd_13 hA _) rfl (by first | omega | (dsimp only [sI, sL, sS, sN, sW]; omega) | (simp only [sI, sL, sS, sN, sW, va_up_self]; omega) | (simp [sI, sL, sS, sN, sW, va_up]; omega)) (by rw [ri_len]; exact (by first | omega | (dsimp only [sI, sL, sS, sN, sW]; omega) | (simp only [sI, sL, sS, sN, sW, va_up_self]; omega) | (simp [sI, sL, sS, sN, sW, va_up]; omega))) rfl ?_
          rw [wr_13 hA]
          refine z_aload_n d_Mo_look_56 rfl ?_
          refine z_get d_Mo_look_57 zf_Mo_41 (zmo_m _ _ _ _) rfl ?_
          refine z_iload_n d_Mo_look_60 rfl ?_
          refine z_zald d_Mo_look_61 (rd_13 hA _) rfl (by first | omega | (dsimp only [sI, sL, sS, sN, sW]; omega) | (simp only [sI, sL, sS, sN, sW, va_up_self]; omega) | (simp [sI, sL, sS, sN, sW, va_up]; omega)) (ri_get (by first | omega | (dsimp only [sI, sL, sS, sN, sW]; omega) | (simp only [sI, sL, sS, sN, sW, va_up_self]; omega) | (simp [sI, sL, sS, sN, sW, va_up]; omega))) ?_
          rw [sI_get]
          refine z_if_eq (tgt := 114) d_Mo_look_62 (by decide) (fun h62 => False.elim (absurd h62 (by decide))) (fun h62 => ?_)
          refine z_aload_n d_Mo_look_65 rfl ?_
          refine z_get d_Mo_look_66 zf_Mo_35 (zmo_m _ _ _ _) rfl ?_
          refine z_iload_n d_Mo_look_69 rfl ?_
          refine z_iald d_Mo_look_70 (rd_11 hA _) rfl (by first | omega | (dsimp only [sI, sL, sS, sN, sW]; omega) | (simp only [sI, sL, sS, sN, sW, va_up_self]; omega) | (simp [sI, sL, sS, sN, sW, va_up]; omega)) (ri_get (by first | omega | (dsimp only [sI, sL, sS, sN, sW]; omega) | (simp only [sI, sL, sS, sN, sW, va_up_self]; omega) | (simp [sI, sL, sS, sN, sW, va_up]; omega))) ?_
          refine z_if_ne (tgt := 114) d_Mo_look_71 (by decide) (fun h71 => ?_) (fun h71 => ?_)
          · skip
            have hnb : ¬ moB P q := fun h => h71 h.2.1
            refine z_iinc (v := nI (q + 1)) d_Mo_look_114 rfl (nI_1 q) (by decide) rfl ?_
            refine z_goto (tgt := 2) d_Mo_look_117 (by decide) ?_
            have hh := ih (q + 1) (some (.int (nI (stN P (nI q) (P.2.1 0))))) (by omega)
            rw [show moLk N (q + 1) = sI P 13 q 1 from hsu.trans (by unfold moL; rw [if_neg h14, if_neg hnb]; unfold moL1 moRn; rw [if_pos hrd])] at hh
            exact hh
            skip
          · skip
            refine z_iload_n d_Mo_look_74 rfl ?_
            refine z_aload_n d_Mo_look_75 rfl ?_
            refine z_get d_Mo_look_76 zf_Mo_29 (zmo_m _ _ _ _) rfl ?_
            refine z_iload_n d_Mo_look_79 rfl ?_
            refine z_iald d_Mo_look_80 (rd_9 hA _) rfl (by first | omega | (dsimp only [sI, sL, sS, sN, sW]; omega) | (simp only [sI, sL, sS, sN, sW, va_up_self]; omega) | (simp [sI, sL, sS, sN, sW, va_up]; omega)) (ri_get (by first | omega | (dsimp only [sI, sL, sS, sN, sW]; omega) | (simp only [sI, sL, sS, sN, sW, va_up_self]; omega) | (simp [sI, sL, sS, sN, sW, va_up]; omega))) ?_
            refine z_icmp_lt (tgt := 114) d_Mo_look_81 (by decide) (fun h81 => ?_) (fun h81 => ?_)
            · skip
              have hnb : ¬ moB P q := fun h => h.2.2 h81
              refine z_iinc (v := nI (q + 1)) d_Mo_look_114 rfl (nI_1 q) (by decide) rfl ?_
              refine z_goto (tgt := 2) d_Mo_look_117 (by decide) ?_
              have hh := ih (q + 1) (some (.int (nI (stN P (nI q) (P.2.1 0))))) (by omega)
              rw [show moLk N (q + 1) = sI P 13 q 1 from hsu.trans (by unfold moL; rw [if_neg h14, if_neg hnb]; unfold moL1 moRn; rw [if_pos hrd])] at hh
              exact hh
              skip
            · skip
              have hb : moB P q := ⟨hrd, h71, h81⟩
              refine z_aload_n d_Mo_look_84 rfl ?_
              refine z_get d_Mo_look_85 zf_Mo_35 (zmo_m _ _ _ _) rfl ?_
              refine z_iload_n d_Mo_look_88 rfl ?_
              refine z_aload_n d_Mo_look_89 rfl ?_
              refine z_aload_n d_Mo_look_90 rfl ?_
              refine z_get d_Mo_look_91 zf_Mo_32 (zmo_m _ _ _ _) rfl ?_
              refine z_iload_n d_Mo_look_94 rfl ?_
              refine z_iald d_Mo_look_95 (rd_10 hA _) rfl (by first | omega | (dsimp only [sI, sL, sS, sN, sW]; omega) | (simp only [sI, sL, sS, sN, sW, va_up_self]; omega) | (simp [sI, sL, sS, sN, sW, va_up]; omega)) (ri_get (by first | omega | (dsimp only [sI, sL, sS, sN, sW]; omega) | (simp only [sI, sL, sS, sN, sW, va_up_self]; omega) | (simp [sI, sL, sS, sN, sW, va_up]; omega))) ?_
              refine z_callV gt_good d_Mo_look_96 zv_Mo_99 (zmo_m _ _ _ _) rfl (fun l => c_Mo_task l g m ad (sI P 13 q 1) (P.2.2.1 10 q) hA (by show P.2.1 1 < 4000; omega)) rfl rfl ⟨Nat.le_of_ble_eq_true rfl, Nat.le_of_ble_eq_true rfl⟩ (Nat.le_of_ble_eq_true rfl) (Nat.le_of_ble_eq_true rfl) (Nat.le_of_ble_eq_true rfl) ?_
              rintro _ _ ⟨rfl, rfl⟩
              refine z_iast d_Mo_look_99 (rd_11 hA _) rfl (by first | omega | (dsimp only [sI, sL, sS, sN, sW]; omega) | (simp only [sI, sL, sS, sN, sW, va_up_self]; omega) | (simp [sI, sL, sS, sN, sW, va_up]; omega)) (by rw [ri_len]; exact (by first | omega | (dsimp only [sI, sL, sS, sN, sW]; omega) | (simp only [sI, sL, sS, sN, sW, va_up_self]; omega) | (simp [sI, sL, sS, sN, sW, va_up]; omega))) ?_
              rw [wr_11 hA]
              refine z_aload_n d_Mo_look_100 rfl ?_
              refine z_get d_Mo_look_101 zf_Mo_45 (zmo_m _ _ _ _) rfl ?_
              refine z_iload_n d_Mo_look_104 rfl ?_
              refine z_iconst (v := 0) d_Mo_look_105 (by decide) ?_
              refine z_zast d_Mo_look_106 (rd_14 hA _) rfl (by first | omega | (dsimp only [sI, sL, sS, sN, sW]; omega) | (simp only [sI, sL, sS, sN, sW, va_up_self]; omega) | (simp [sI, sL, sS, sN, sW, va_up]; omega)) (by rw [ri_len]; exact (by first | omega | (dsimp only [sI, sL, sS, sN, sW]; omega) | (simp only [sI, sL, sS, sN, sW, va_up_self]; omega) | (simp [sI, sL, sS, sN, sW, va_up]; omega))) rfl ?_
              rw [wr_14 hA]
              refine z_aload_n d_Mo_look_107 rfl ?_
              refine z_get d_Mo_look_108 zf_Mo_41 (zmo_m _ _ _ _) rfl ?_
              refine z_iload_n d_Mo_look_111 rfl ?_
              refine z_iconst (v := 0) d_Mo_look_112 (by decide) ?_
              refine z_zast d_Mo_look_113 (rd_13 hA _) rfl (by first | omega | (dsimp only [sI, sL, sS, sN, sW]; omega) | (simp only [sI, sL, sS, sN, sW, va_up_self]; omega) | (simp [sI, sL, sS, sN, sW, va_up]; omega)) (by rw [ri_len]; exact (by first | omega | (dsimp only [sI, sL, sS, sN, sW]; omega) | (simp only [sI, sL, sS, sN, sW, va_up_self]; omega) | (simp [sI, sL, sS, sN, sW, va_up]; omega))) rfl ?_
              rw [wr_13 hA]
              refine z_iinc (v := nI (q + 1)) d_Mo_look_114 rfl (nI_1 q) (by decide) rfl ?_
              refine z_goto (tgt := 2) d_Mo_look_117 (by decide) ?_
              have hh := ih (q + 1) (some (.int (nI (stN P (nI q) (P.2.1 0))))) (by omega)
              rw [show moLk N (q + 1) = sI (sI (sI (taskS (sI P 13 q 1) (P.2.2.1 10 q)) 11 q (nI (P.2.1 1 + 1))) 14 q 0) 13 q 0 from hsu.trans (by unfold moL; rw [if_neg h14, if_pos hb]; unfold moL1 moRn; rw [if_pos hrd])] at hh
              exact hh
    · skip
      refine z_goto (tgt := 114) d_Mo_look_17 (by decide) ?_
      refine z_iinc (v := nI (q + 1)) d_Mo_look_114 rfl (nI_1 q) (by decide) rfl ?_
      refine z_goto (tgt := 2) d_Mo_look_117 (by decide) ?_
      have hh := ih (q + 1) (lo) (by omega)
      rw [show moLk N (q + 1) = P from hsu.trans (by unfold moL; rw [if_pos h14])] at hh
      exact hh
      skip
set_option maxHeartbeats 4000000 in
set_option maxRecDepth 100000 in
theorem c_Mo_look (l : Launch) (g : ZG) (m : Nat) (ad : Nat → Nat) (N : NS) (hA : zAd g.2.2.2.1 m ad) (hit : N.2.1 0 ≤ 1100) (hbg : N.2.1 1 + 32 ≤ 4000) : ZC vcl tlx GT l g y_Mo_look b_Mo_look 3 none (ZRm 1 0 0) [.ref m] (zmo g.2.2.2.1 m ad N) (fun r M' => r = none ∧ M' = zmo g.2.2.2.1 m ad (moLk N 32)) := by
  refine ZC.of (by decide) (Nat.le_of_ble_eq_true rfl) rfl (fun k0 hz0 => ?_)
  refine z_iconst (v := 0) d_Mo_look_0 (by decide) ?_
  refine z_istore_n (i := 1) d_Mo_look_1 rfl (by decide) rfl ?_
  have hh := lp_Mo_look g k0 m ad N hA hit hbg 32 0 none rfl
  rw [moLk_zero] at hh
  exact hh
set_option maxHeartbeats 4000000 in
set_option maxRecDepth 100000 in
theorem c_Mo_answer (l : Launch) (g : ZG) (m : Nat) (ad : Nat → Nat) (N : NS) (a : Int32) (hA : zAd g.2.2.2.1 m ad) (hit : N.2.1 0 ≤ 1100) (hbg : N.2.1 1 + 32 ≤ 4000) : ZC vcl tlx GT l g y_Mo_answer b_Mo_answer 2 (Option.some FieldType.int) (ZRm 2 0 0) [.ref m, .int a] (zmo g.2.2.2.1 m ad N) (fun r M' => r = some (.int a) ∧ M' = zmo g.2.2.2.1 m ad (ansS N)) := by
  refine ZC.of (by decide) (Nat.le_of_ble_eq_true rfl) rfl (fun k0 hz0 => ?_)
  refine z_aload_n d_Mo_answer_0 rfl ?_
  refine z_iconst (v := 0) d_Mo_answer_1 (by decide) ?_
  refine z_put d_Mo_answer_2 zp_Mo_76 (zmo_m _ _ _ _) rfl rfl ?_
  rw [ws_0]
  refine z_aload_n d_Mo_answer_5 rfl ?_
  refine z_callV gt_good d_Mo_answer_6 zv_Mo_102 (zmo_m _ _ _ _) rfl (fun l => c_Mo_look l g m ad (sS N 0 0) hA hit hbg) rfl rfl ⟨Nat.le_of_ble_eq_true rfl, Nat.le_of_ble_eq_true rfl⟩ (Nat.le_of_ble_eq_true rfl) (Nat.le_of_ble_eq_true rfl) (Nat.le_of_ble_eq_true rfl) ?_
  rintro _ _ ⟨rfl, rfl⟩
  refine z_iload_n d_Mo_answer_9 rfl ?_
  refine z_ireturn d_Mo_answer_10 rfl ?_ (by decide) (by decide)
  exact ⟨rfl, rfl⟩
