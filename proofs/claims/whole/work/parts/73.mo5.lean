theorem mnN_eq {N N' : NS} (h : N'.2.2.1 2 = N.2.2.1 2) (q : Int32) : ∀ k, mnN N' q k = mnN N q k
  | 0 => rfl
  | k + 1 => by
    unfold mnN
    rw [mnN_eq h q k, h]
set_option maxHeartbeats 4000000 in
set_option maxRecDepth 100000 in
theorem c_Mo_getB (l : Launch) (g : ZG) (m : Nat) (ad : Nat → Nat) (N : NS) (q n : Int32) (hA : zAd g.2.2.2.1 m ad) (hq : q < 0 ∨ 32 ≤ q) : ZC vcl tlx GT l g y_Mo_get b_Mo_get 4 (Option.some FieldType.long) (ZRm 2 0 0) [.ref m, .int q, .int n] (zmo g.2.2.2.1 m ad N) (fun r M' => r = some (.long 0) ∧ M' = zmo g.2.2.2.1 m ad (sS N 0 1)) := by
  refine ZC.of (by decide) (Nat.le_of_ble_eq_true rfl) rfl (fun k0 hz0 => ?_)
  refine z_aload_n d_Mo_get_0 rfl ?_
  refine z_iconst (v := 1) d_Mo_get_1 (by decide) ?_
  refine z_put d_Mo_get_2 zp_Mo_76 (zmo_m _ _ _ _) rfl rfl ?_
  rw [ws_0]
  refine z_iload_n d_Mo_get_5 rfl ?_
  refine z_callS gt_good d_Mo_get_6 zs_Mo_105 (fun l => c_Mo_isQueue l g _ _) rfl rfl ⟨Nat.le_of_ble_eq_true rfl, Nat.le_of_ble_eq_true rfl⟩ (Nat.le_of_ble_eq_true rfl) (Nat.le_of_ble_eq_true rfl) (Nat.le_of_ble_eq_true rfl) ?_
  rintro _ _ ⟨rfl, rfl⟩
  rw [if_pos hq]
  refine z_if_ne (tgt := 14) d_Mo_get_9 (by decide) (fun h9 => False.elim (h9 rfl)) (fun h9 => ?_)
  refine z_lconst (v := 0) d_Mo_get_12 (by decide) ?_
  refine z_lreturn d_Mo_get_13 rfl ?_ (by decide) (by decide)
  exact ⟨rfl, rfl⟩
set_option maxHeartbeats 4000000 in
set_option maxRecDepth 100000 in
theorem c_Mo_get (l : Launch) (g : ZG) (m : Nat) (ad : Nat → Nat) (N : NS) (i : Nat) (n : Int32) (hA : zAd g.2.2.2.1 m ad) (hi : i < 32) (hit : N.2.1 0 < 1100) : ZC vcl tlx GT l g y_Mo_get b_Mo_get 4 (Option.some FieldType.long) (ZRm 2 0 0) [.ref m, .int (nI i), .int n] (zmo g.2.2.2.1 m ad N) (fun r M' => r = some (.long (gtM N i n).1) ∧ M' = zmo g.2.2.2.1 m ad ((gtM N i n).2)) := by
  refine ZC.of (by decide) (Nat.le_of_ble_eq_true rfl) rfl (fun k0 hz0 => ?_)
  have hgood : ¬ (nI i < 0 ∨ 32 ≤ nI i) := fun h => h.elim (nI_pos (by omega)) (fun h => nI_ge hi (by decide) h)
  refine z_aload_n d_Mo_get_0 rfl ?_
  refine z_iconst (v := 1) d_Mo_get_1 (by decide) ?_
  refine z_put d_Mo_get_2 zp_Mo_76 (zmo_m _ _ _ _) rfl rfl ?_
  rw [ws_0]
  refine z_iload_n d_Mo_get_5 rfl ?_
  refine z_callS gt_good d_Mo_get_6 zs_Mo_105 (fun l => c_Mo_isQueue l g _ _) rfl rfl ⟨Nat.le_of_ble_eq_true rfl, Nat.le_of_ble_eq_true rfl⟩ (Nat.le_of_ble_eq_true rfl) (Nat.le_of_ble_eq_true rfl) (Nat.le_of_ble_eq_true rfl) ?_
  rintro _ _ ⟨rfl, rfl⟩
  rw [if_neg hgood]
  refine z_if_ne (tgt := 14) d_Mo_get_9 (by decide) (fun h9 => ?_) (fun h9 => False.elim (absurd h9 (by decide)))
  refine z_aload_n d_Mo_get_14 rfl ?_
  refine z_iload_n d_Mo_get_15 rfl ?_
  refine z_callV gt_good d_Mo_get_16 zv_Mo_123 (zmo_m _ _ _ _) rfl (fun l => c_Mo_isTemporary l g m ad (sS N 0 1) i hA hi) rfl rfl ⟨Nat.le_of_ble_eq_true rfl, Nat.le_of_ble_eq_true rfl⟩ (Nat.le_of_ble_eq_true rfl) (Nat.le_of_ble_eq_true rfl) (Nat.le_of_ble_eq_true rfl) ?_
  rintro _ _ ⟨rfl, rfl⟩
  refine z_if_ne (tgt := 63) d_Mo_get_19 (by decide) (fun h19 => ?_) (fun h19 => ?_)
  · skip
    have hk : ¬ ¬ (N.2.2.1 7 i = 0 ∨ N.2.2.1 7 i = 1) := not_not_intro (zif1 h19)
    refine z_aload_n d_Mo_get_63 rfl ?_
    refine z_iload_n d_Mo_get_64 rfl ?_
    refine z_iload_n d_Mo_get_65 rfl ?_
    refine z_callV gt_good d_Mo_get_66 zv_Mo_126 (zmo_m _ _ _ _) rfl (fun l => c_Mo_placeOf l g m ad (sS N 0 1) (nI i) n hA (Nat.le_of_lt hit)) rfl rfl ⟨Nat.le_of_ble_eq_true rfl, Nat.le_of_ble_eq_true rfl⟩ (Nat.le_of_ble_eq_true rfl) (Nat.le_of_ble_eq_true rfl) (Nat.le_of_ble_eq_true rfl) ?_
    rintro _ _ ⟨rfl, rfl⟩
    cases hp : plI (sS N 0 1) (nI i) n with
    | none =>
      refine z_istore_n (i := 3) d_Mo_get_69 rfl (by decide) rfl ?_
      refine z_iload_n d_Mo_get_70 rfl ?_
      refine z_iconst (v := (-1)) d_Mo_get_71 (by decide) ?_
      refine z_icmp_ne (tgt := 77) d_Mo_get_72 (by decide) (fun h72 => False.elim (h72 rfl)) (fun h72 => ?_)
      refine z_lconst (v := 0) d_Mo_get_75 (by decide) ?_
      refine z_lreturn d_Mo_get_76 rfl ?_ (by decide) (by decide)
      rw [show gtM N i n = _ from by unfold gtM; rw [if_neg hk, hp]]
      exact ⟨rfl, rfl⟩
    | some k =>
      have hkl : k < N.2.1 0 := by have h := plI_lt hp; exact h
      rw [show plV (some k) = nI k from rfl]
      refine z_istore_n (i := 3) d_Mo_get_69 rfl (by decide) rfl ?_
      refine z_iload_n d_Mo_get_70 rfl ?_
      refine z_iconst (v := (-1)) d_Mo_get_71 (by decide) ?_
      refine z_icmp_ne (tgt := 77) d_Mo_get_72 (by decide) (fun h72 => ?_) (fun h72 => False.elim (absurd h72 (fun e => nI_pos (show k < 2 ^ 31 by omega) (by rw [e]; decide))))
      refine z_aload_n d_Mo_get_77 rfl ?_
      refine z_iconst (v := 0) d_Mo_get_78 (by decide) ?_
      refine z_put d_Mo_get_79 zp_Mo_76 (zmo_m _ _ _ _) rfl rfl ?_
      rw [ws_0]
      refine z_aload_n d_Mo_get_82 rfl ?_
      refine z_get d_Mo_get_83 zf_Mo_48 (zmo_m _ _ _ _) rfl ?_
      refine z_iload_n d_Mo_get_86 rfl ?_
      refine z_aload_n d_Mo_get_87 rfl ?_
      refine z_get d_Mo_get_88 zf_Mo_112 (zmo_m _ _ _ _) rfl ?_
      refine z_last d_Mo_get_91 (rd_15 hA _) rfl (by first | omega | (dsimp only [sI, sL, sS, sN, sW]; omega) | (simp only [sI, sL, sS, sN, sW, va_up_self]; omega) | (simp [sI, sL, sS, sN, sW, va_up]; omega)) (by rw [rl_len]; exact (by first | omega | (dsimp only [sI, sL, sS, sN, sW]; omega) | (simp only [sI, sL, sS, sN, sW, va_up_self]; omega) | (simp [sI, sL, sS, sN, sW, va_up]; omega))) ?_
      rw [wr_15 hA]
      refine z_aload_n d_Mo_get_92 rfl ?_
      refine z_get d_Mo_get_93 zf_Mo_19 (zmo_m _ _ _ _) rfl ?_
      refine z_iload_n d_Mo_get_96 rfl ?_
      refine z_lald d_Mo_get_97 (rd_5 hA _) rfl (by first | omega | (dsimp only [sI, sL, sS, sN, sW]; omega) | (simp only [sI, sL, sS, sN, sW, va_up_self]; omega) | (simp [sI, sL, sS, sN, sW, va_up]; omega)) (rl_get (by first | omega | (dsimp only [sI, sL, sS, sN, sW]; omega) | (simp only [sI, sL, sS, sN, sW, va_up_self]; omega) | (simp [sI, sL, sS, sN, sW, va_up]; omega))) ?_
      refine z_lreturn d_Mo_get_98 rfl ?_ (by decide) (by decide)
      rw [show gtM N i n = _ from by unfold gtM; rw [if_neg hk, hp]]
      exact ⟨rfl, rfl⟩
  · skip
    have hk : ¬ (N.2.2.1 7 i = 0 ∨ N.2.2.1 7 i = 1) := zif0 h19
    refine z_aload_n d_Mo_get_22 rfl ?_
    refine z_aload_n d_Mo_get_23 rfl ?_
    refine z_get d_Mo_get_24 zf_Mo_38 (zmo_m _ _ _ _) rfl ?_
    refine z_iload_n d_Mo_get_27 rfl ?_
    refine z_iald d_Mo_get_28 (rd_12 hA _) rfl (by first | omega | (dsimp only [sI, sL, sS, sN, sW]; omega) | (simp only [sI, sL, sS, sN, sW, va_up_self]; omega) | (simp [sI, sL, sS, sN, sW, va_up]; omega)) (ri_get (by first | omega | (dsimp only [sI, sL, sS, sN, sW]; omega) | (simp only [sI, sL, sS, sN, sW, va_up_self]; omega) | (simp [sI, sL, sS, sN, sW, va_up]; omega))) ?_
    refine z_iload_n d_Mo_get_29 rfl ?_
    refine z_icmp_ne (tgt := 41) d_Mo_get_30 (by decide) (fun h30 => ?_) (fun h30 => ?_)
    · skip
      have hc : ¬ gtC N i n := fun h => h30 h.1
      refine z_iconst (v := 1) d_Mo_get_41 (by decide) ?_
      refine z_put d_Mo_get_42 zp_Mo_76 (zmo_m _ _ _ _) rfl rfl ?_
      rw [ws_0]
      refine z_aload_n d_Mo_get_45 rfl ?_
      refine z_get d_Mo_get_46 zf_Mo_76 (zmo_m _ _ _ _) rfl ?_
      rw [show (sS (sS N 0 1) 0 1).1 0 = 1 from rfl]
      refine z_if_ne (tgt := 61) d_Mo_get_49 (by decide) (fun h49 => ?_) (fun h49 => False.elim (absurd h49 (by decide)))
      refine z_lconst (v := 0) d_Mo_get_61 (by decide) ?_
      refine z_lreturn d_Mo_get_62 rfl ?_ (by decide) (by decide)
      rw [show gtM N i n = _ from by unfold gtM; rw [if_pos hk, if_neg hc]]
      exact ⟨rfl, rfl⟩
    · skip
      refine z_iload_n d_Mo_get_33 rfl ?_
      refine z_if_le (tgt := 41) d_Mo_get_34 (by decide) (fun h34 => ?_) (fun h34 => ?_)
      · skip
        have hc : ¬ gtC N i n := fun h => h.2 h34
        refine z_iconst (v := 1) d_Mo_get_41 (by decide) ?_
        refine z_put d_Mo_get_42 zp_Mo_76 (zmo_m _ _ _ _) rfl rfl ?_
        rw [ws_0]
        refine z_aload_n d_Mo_get_45 rfl ?_
        refine z_get d_Mo_get_46 zf_Mo_76 (zmo_m _ _ _ _) rfl ?_
        rw [show (sS (sS N 0 1) 0 1).1 0 = 1 from rfl]
        refine z_if_ne (tgt := 61) d_Mo_get_49 (by decide) (fun h49 => ?_) (fun h49 => False.elim (absurd h49 (by decide)))
        refine z_lconst (v := 0) d_Mo_get_61 (by decide) ?_
        refine z_lreturn d_Mo_get_62 rfl ?_ (by decide) (by decide)
        rw [show gtM N i n = _ from by unfold gtM; rw [if_pos hk, if_neg hc]]
        exact ⟨rfl, rfl⟩
      · skip
        have hc : gtC N i n := ⟨h30, h34⟩
        refine z_iconst (v := 0) d_Mo_get_37 (by decide) ?_
        refine z_goto (tgt := 42) d_Mo_get_38 (by decide) ?_
        refine z_put d_Mo_get_42 zp_Mo_76 (zmo_m _ _ _ _) rfl rfl ?_
        rw [ws_0]
        refine z_aload_n d_Mo_get_45 rfl ?_
        refine z_get d_Mo_get_46 zf_Mo_76 (zmo_m _ _ _ _) rfl ?_
        rw [show (sS (sS N 0 1) 0 0).1 0 = 0 from rfl]
        refine z_if_ne (tgt := 61) d_Mo_get_49 (by decide) (fun h49 => False.elim (h49 rfl)) (fun h49 => ?_)
        refine z_aload_n d_Mo_get_52 rfl ?_
        refine z_get d_Mo_get_53 zf_Mo_51 (zmo_m _ _ _ _) rfl ?_
        refine z_iload_n d_Mo_get_56 rfl ?_
        refine z_lald d_Mo_get_57 (rd_16 hA _) rfl (by first | omega | (dsimp only [sI, sL, sS, sN, sW]; omega) | (simp only [sI, sL, sS, sN, sW, va_up_self]; omega) | (simp [sI, sL, sS, sN, sW, va_up]; omega)) (rl_get (by first | omega | (dsimp only [sI, sL, sS, sN, sW]; omega) | (simp only [sI, sL, sS, sN, sW, va_up_self]; omega) | (simp [sI, sL, sS, sN, sW, va_up]; omega))) ?_
        refine z_goto (tgt := 62) d_Mo_get_58 (by decide) ?_
        refine z_lreturn d_Mo_get_62 rfl ?_ (by decide) (by decide)
        rw [show gtM N i n = _ from by unfold gtM; rw [if_pos hk, if_pos hc]]
        exact ⟨rfl, rfl⟩
set_option maxHeartbeats 4000000 in
set_option maxRecDepth 100000 in
theorem lp_Mo_ending (g : ZG) (k0 : ZK) (m : Nat) (ad : Nat → Nat) (P : NS) (t : Int32) (hA : zAd g.2.2.2.1 m ad) (hit : P.2.1 0 ≤ 1100) (hbg : P.2.1 1 + 32 ≤ 4000) : ∀ (d q : Nat) (lo : Option Value), q + d = 32 → enN P t 32 = enN P t d → ZW vcl tlx GT "MonitorQueuesModel" b_Mo_ending 4 (Option.some FieldType.int) "ending" (ZRm 2 0 0) g k0 (fun r M' => r = some (.int (enN P t 32).1) ∧ M' = zmo g.2.2.2.1 m ad ((enN P t 32).2)) [some (.ref m), some (.int t), some (.int (nI q)), lo] 48 [] (zmo g.2.2.2.1 m ad P) 0 0 := by
  intro d
  induction d with
  | zero =>
    intro q lo hq hp
    obtain rfl : q = 32 := by omega
    rw [enN_zero] at hp
    refine z_iload_n d_Mo_ending_48 rfl ?_
    refine z_bipush (v := 32) d_Mo_ending_49 (by decide) ?_
    refine z_icmp_ge (tgt := 143) d_Mo_ending_51 (by decide) (fun h51 => ?_) (fun h51 => False.elim (h51 (by decide)))
    refine z_iconst (v := 0) d_Mo_ending_143 (by decide) ?_
    refine z_ireturn d_Mo_ending_144 rfl ?_ (by decide) (by decide)
    rw [hp]
    exact ⟨rfl, rfl⟩
  | succ d ih =>
    intro q lo hq hp
    rw [enN_succ P t d, show 31 - d = q by omega] at hp
    have hst := stN_le P (nI q) (P.2.1 0)
    refine z_iload_n d_Mo_ending_48 rfl ?_
    refine z_bipush (v := 32) d_Mo_ending_49 (by decide) ?_
    refine z_icmp_ge (tgt := 143) d_Mo_ending_51 (by decide) (fun h51 => False.elim (nI_ge (show q < 32 by omega) (by decide) h51)) (fun h51 => ?_)
    refine z_aload_n d_Mo_ending_54 rfl ?_
    refine z_get d_Mo_ending_55 zf_Mo_29 (zmo_m _ _ _ _) rfl ?_
    refine z_iload_n d_Mo_ending_58 rfl ?_
    refine z_iald d_Mo_ending_59 (rd_9 hA _) rfl (by first | omega | (dsimp only [sI, sL, sS, sN, sW]; omega) | (simp only [sI, sL, sS, sN, sW, va_up_self]; omega) | (simp [sI, sL, sS, sN, sW, va_up]; omega)) (ri_get (by first | omega | (dsimp only [sI, sL, sS, sN, sW]; omega) | (simp only [sI, sL, sS, sN, sW, va_up_self]; omega) | (simp [sI, sL, sS, sN, sW, va_up]; omega))) ?_
    refine z_if_eq (tgt := 137) d_Mo_ending_60 (by decide) (fun h60 => ?_) (fun h60 => ?_)
    · skip
      have hs : P.2.2.1 9 q = 0 ∨ ¬ P.2.2.1 11 q = t := Or.inl h60
      refine z_iinc (v := nI (q + 1)) d_Mo_ending_137 rfl (nI_1 q) (by decide) rfl ?_
      refine z_goto (tgt := 48) d_Mo_ending_140 (by decide) ?_
      exact ih (q + 1) _ (by omega) (hp.trans (if_pos hs))
    · skip
      refine z_aload_n d_Mo_ending_63 rfl ?_
      refine z_get d_Mo_ending_64 zf_Mo_35 (zmo_m _ _ _ _) rfl ?_
      refine z_iload_n d_Mo_ending_67 rfl ?_
      refine z_iald d_Mo_ending_68 (rd_11 hA _) rfl (by first | omega | (dsimp only [sI, sL, sS, sN, sW]; omega) | (simp only [sI, sL, sS, sN, sW, va_up_self]; omega) | (simp [sI, sL, sS, sN, sW, va_up]; omega)) (ri_get (by first | omega | (dsimp only [sI, sL, sS, sN, sW]; omega) | (simp only [sI, sL, sS, sN, sW, va_up_self]; omega) | (simp [sI, sL, sS, sN, sW, va_up]; omega))) ?_
      refine z_iload_n d_Mo_ending_69 rfl ?_
      refine z_icmp_eq (tgt := 76) d_Mo_ending_70 (by decide) (fun h70 => ?_) (fun h70 => ?_)
      · skip
        have hs : ¬ (P.2.2.1 9 q = 0 ∨ ¬ P.2.2.1 11 q = t) := fun h => h.elim h60 (fun h => h h70)
        refine z_aload_n d_Mo_ending_76 rfl ?_
        refine z_get d_Mo_ending_77 zf_Mo_45 (zmo_m _ _ _ _) rfl ?_
        refine z_iload_n d_Mo_ending_80 rfl ?_
        refine z_zald d_Mo_ending_81 (rd_14 hA _) rfl (by first | omega | (dsimp only [sI, sL, sS, sN, sW]; omega) | (simp only [sI, sL, sS, sN, sW, va_up_self]; omega) | (simp [sI, sL, sS, sN, sW, va_up]; omega)) (ri_get (by first | omega | (dsimp only [sI, sL, sS, sN, sW]; omega) | (simp only [sI, sL, sS, sN, sW, va_up_self]; omega) | (simp [sI, sL, sS, sN, sW, va_up]; omega))) ?_
        refine z_if_ne (tgt := 97) d_Mo_ending_82 (by decide) (fun h82 => ?_) (fun h82 => ?_)
        · skip
          have hag : ¬ (P.2.2.1 14 q = 0 ∧ 0 < stN P (nI q) (P.2.1 0)) := fun h => h82 h.1
          refine z_iconst (v := 0) d_Mo_ending_97 (by decide) ?_
          refine z_istore_n (i := 3) d_Mo_ending_98 rfl (by decide) rfl ?_
          refine z_aload_n d_Mo_ending_99 rfl ?_
          refine z_get d_Mo_ending_100 zf_Mo_35 (zmo_m _ _ _ _) rfl ?_
          refine z_iload_n d_Mo_ending_103 rfl ?_
          refine z_iload_n d_Mo_ending_104 rfl ?_
          refine z_if_eq (tgt := 121) d_Mo_ending_105 (by decide) (fun h105 => ?_) (fun h105 => False.elim (h105 rfl))
          refine z_iconst (v := 0) d_Mo_ending_121 (by decide) ?_
          refine z_iast d_Mo_ending_122 (rd_11 hA _) rfl (by first | omega | (dsimp only [sI, sL, sS, sN, sW]; omega) | (simp only [sI, sL, sS, sN, sW, va_up_self]; omega) | (simp [sI, sL, sS, sN, sW, va_up]; omega)) (by rw [ri_len]; exact (by first | omega | (dsimp only [sI, sL, sS, sN, sW]; omega) | (simp only [sI, sL, sS, sN, sW, va_up_self]; omega) | (simp [sI, sL, sS, sN, sW, va_up]; omega))) ?_
          rw [wr_11 hA]
          refine z_aload_n d_Mo_ending_123 rfl ?_
          refine z_get d_Mo_ending_124 zf_Mo_45 (zmo_m _ _ _ _) rfl ?_
          refine z_iload_n d_Mo_ending_127 rfl ?_
          refine z_iconst (v := 0) d_Mo_ending_128 (by decide) ?_
          refine z_zast d_Mo_ending_129 (rd_14 hA _) rfl (by first | omega | (dsimp only [sI, sL, sS, sN, sW]; omega) | (simp only [sI, sL, sS, sN, sW, va_up_self]; omega) | (simp [sI, sL, sS, sN, sW, va_up]; omega)) (by rw [ri_len]; exact (by first | omega | (dsimp only [sI, sL, sS, sN, sW]; omega) | (simp only [sI, sL, sS, sN, sW, va_up_self]; omega) | (simp [sI, sL, sS, sN, sW, va_up]; omega))) rfl ?_
          rw [wr_14 hA]
          refine z_aload_n d_Mo_ending_130 rfl ?_
          refine z_get d_Mo_ending_131 zf_Mo_35 (zmo_m _ _ _ _) rfl ?_
          refine z_iload_n d_Mo_ending_134 rfl ?_
          refine z_iald d_Mo_ending_135 (rd_11 hA _) rfl (by first | omega | (dsimp only [sI, sL, sS, sN, sW]; omega) | (simp only [sI, sL, sS, sN, sW, va_up_self]; omega) | (simp [sI, sL, sS, sN, sW, va_up]; omega)) (ri_get (by first | omega | (dsimp only [sI, sL, sS, sN, sW]; omega) | (simp only [sI, sL, sS, sN, sW, va_up_self]; omega) | (simp [sI, sL, sS, sN, sW, va_up]; omega))) ?_
          rw [show (sI (sI (P) 11 q (0)) 14 q 0).2.2.1 11 q = 0 from sI_get (P) 11 q (0)]
          refine z_ireturn d_Mo_ending_136 rfl ?_ (by decide) (by decide)
          rw [hp, if_neg hs, show enT P q = _ from by unfold enT; rw [if_neg hag]]
          exact ⟨rfl, rfl⟩
        · skip
          refine z_aload_n d_Mo_ending_85 rfl ?_
          refine z_iload_n d_Mo_ending_86 rfl ?_
          refine z_callV gt_good d_Mo_ending_87 zv_Mo_96 (zmo_m _ _ _ _) rfl (fun l => c_Mo_standing l g m ad P (nI q) hA hit) rfl rfl ⟨Nat.le_of_ble_eq_true rfl, Nat.le_of_ble_eq_true rfl⟩ (Nat.le_of_ble_eq_true rfl) (Nat.le_of_ble_eq_true rfl) (Nat.le_of_ble_eq_true rfl) ?_
          rintro _ _ ⟨rfl, rfl⟩
          refine z_if_le (tgt := 97) d_Mo_ending_90 (by decide) (fun h90 => ?_) (fun h90 => ?_)
          · skip
            have hag : ¬ (P.2.2.1 14 q = 0 ∧ 0 < stN P (nI q) (P.2.1 0)) := fun h => nI_nle h.2 (by omega) h90
            refine z_iconst (v := 0) d_Mo_ending_97 (by decide) ?_
            refine z_istore_n (i := 3) d_Mo_ending_98 rfl (by decide) rfl ?_
            refine z_aload_n d_Mo_ending_99 rfl ?_
            refine z_get d_Mo_ending_100 zf_Mo_35 (zmo_m _ _ _ _) rfl ?_
            refine z_iload_n d_Mo_ending_103 rfl ?_
            refine z_iload_n d_Mo_ending_104 rfl ?_
            refine z_if_eq (tgt := 121) d_Mo_ending_105 (by decide) (fun h105 => ?_) (fun h105 => False.elim (h105 rfl))
            refine z_iconst (v := 0) d_Mo_ending_121 (by decide) ?_
            refine z_iast d_Mo_ending_122 (rd_11 hA _) rfl (by first | omega | (dsimp only [sI, sL, sS, sN, sW]; omega) | (simp only [sI, sL, sS, sN, sW, va_up_self]; omega) | (simp [sI, sL, sS, sN, sW, va_up]; omega)) (by rw [ri_len]; exact (by first | omega | (dsimp only [sI, sL, sS, sN, sW]; omega) | (simp only [sI, sL, sS, sN, sW, va_up_self]; omega) | (simp [sI, sL, sS, sN, sW, va_up]; omega))) ?_
            rw [wr_11 hA]
            refine z_aload_n d_Mo_ending_123 rfl ?_
            refine z_get d_Mo_ending_124 zf_Mo_45 (zmo_m _ _ _ _) rfl ?_
            refine z_iload_n d_Mo_ending_127 rfl ?_
            refine z_iconst (v := 0) d_Mo_ending_128 (by decide) ?_
            refine z_zast d_Mo_ending_129 (rd_14 hA _) rfl (by first | omega | (dsimp only [sI, sL, sS, sN, sW]; omega) | (simp only [sI, sL, sS, sN, sW, va_up_self]; omega) | (simp [sI, sL, sS, sN, sW, va_up]; omega)) (by rw [ri_len]; exact (by first | omega | (dsimp only [sI, sL, sS, sN, sW]; omega) | (simp only [sI, sL, sS, sN, sW, va_up_self]; omega) | (simp [sI, sL, sS, sN, sW, va_up]; omega))) rfl ?_
            rw [wr_14 hA]
            refine z_aload_n d_Mo_ending_130 rfl ?_
            refine z_get d_Mo_ending_131 zf_Mo_35 (zmo_m _ _ _ _) rfl ?_
            refine z_iload_n d_Mo_ending_134 rfl ?_
            refine z_iald d_Mo_ending_135 (rd_11 hA _) rfl (by first | omega | (dsimp only [sI, sL, sS, sN, sW]; omega) | (simp only [sI, sL, sS, sN, sW, va_up_self]; omega) | (simp [sI, sL, sS, sN, sW, va_up]; omega)) (ri_get (by first | omega | (dsimp only [sI, sL, sS, sN, sW]; omega) | (simp only [sI, sL, sS, sN, sW, va_up_self]; omega) | (simp [sI, sL, sS, sN, sW, va_up]; omega))) ?_
            rw [show (sI (sI (P) 11 q (0)) 14 q 0).2.2.1 11 q = 0 from sI_get (P) 11 q (0)]
            refine z_ireturn d_Mo_ending_136 rfl ?_ (by decide) (by decide)
            rw [hp, if_neg hs, show enT P q = _ from by unfold enT; rw [if_neg hag]]
            exact ⟨rfl, rfl⟩
          · skip
            have hag : P.2.2.1 14 q = 0 ∧ 0 < stN P (nI q) (P.2.1 0) := ⟨h82, Nat.pos_of_ne_zero (fun e => h90 (by rw [e]; decide))⟩
            refine z_iconst (v := 1) d_Mo_ending_93 (by decide) ?_
            refine z_goto (tgt := 98) d_Mo_ending_94 (by decide) ?_
            refine z_istore_n (i := 3) d_Mo_ending_98 rfl (by decide) rfl ?_
            refine z_aload_n d_Mo_ending_99 rfl ?_
            refine z_get d_Mo_ending_100 zf_Mo_35 (zmo_m _ _ _ _) rfl ?_
            refine z_iload_n d_Mo_ending_103 rfl ?_
            refine z_iload_n d_Mo_ending_104 rfl ?_
            refine z_if_eq (tgt := 121) d_Mo_ending_105 (by decide) (fun h105 => False.elim (absurd h105 (by decide))) (fun h105 => ?_)
            refine z_aload_n d_Mo_ending_108 rfl ?_
            refine z_aload_n d_Mo_ending_109 rfl ?_
            refine z_get d_Mo_ending_110 zf_Mo_32 (zmo_m _ _ _ _) rfl ?_
            refine z_iload_n d_Mo_ending_113 rfl ?_
            refine z_iald d_Mo_ending_114 (rd_10 hA _) rfl (by first | omega | (dsimp only [sI, sL, sS, sN, sW]; omega) | (simp only [sI, sL, sS, sN, sW, va_up_self]; omega) | (simp [sI, sL, sS, sN, sW, va_up]; omega)) (ri_get (by first | omega | (dsimp only [sI, sL, sS, sN, sW]; omega) | (simp only [sI, sL, sS, sN, sW, va_up_self]; omega) | (simp [sI, sL, sS, sN, sW, va_up]; omega))) ?_
            refine z_callV gt_good d_Mo_ending_115 zv_Mo_99 (zmo_m _ _ _ _) rfl (fun l => c_Mo_task l g m ad P (P.2.2.1 10 q) hA (by omega)) rfl rfl ⟨Nat.le_of_ble_eq_true rfl, Nat.le_of_ble_eq_true rfl⟩ (Nat.le_of_ble_eq_true rfl) (Nat.le_of_ble_eq_true rfl) (Nat.le_of_ble_eq_true rfl) ?_
            rintro _ _ ⟨rfl, rfl⟩
            refine z_goto (tgt := 122) d_Mo_ending_118 (by decide) ?_
            refine z_iast d_Mo_ending_122 (rd_11 hA _) rfl (by first | omega | (dsimp only [sI, sL, sS, sN, sW]; omega) | (simp only [sI, sL, sS, sN, sW, va_up_self]; omega) | (simp [sI, sL, sS, sN, sW, va_up]; omega)) (by rw [ri_len]; exact (by first | omega | (dsimp only [sI, sL, sS, sN, sW]; omega) | (simp only [sI, sL, sS, sN, sW, va_up_self]; omega) | (simp [sI, sL, sS, sN, sW, va_up]; omega))) ?_
            rw [wr_11 hA]
            refine z_aload_n d_Mo_ending_123 rfl ?_
            refine z_get d_Mo_ending_124 zf_Mo_45 (zmo_m _ _ _ _) rfl ?_
            refine z_iload_n d_Mo_ending_127 rfl ?_
            refine z_iconst (v := 0) d_Mo_ending_128 (by decide) ?_
            refine z_zast d_Mo_ending_129 (rd_14 hA _) rfl (by first | omega | (dsimp only [sI, sL, sS, sN, sW]; omega) | (simp only [sI, sL, sS, sN, sW, va_up_self]; omega) | (simp [sI, sL, sS, sN, sW, va_up]; omega)) (by rw [ri_len]; exact (by first | omega | (dsimp only [sI, sL, sS, sN, sW]; omega) | (simp only [sI, sL, sS, sN, sW, va_up_self]; omega) | (simp [sI, sL, sS, sN, sW, va_up]; omega))) rfl ?_
            rw [wr_14 hA]
            refine z_aload_n d_Mo_ending_130 rfl ?_
            refine z_get d_Mo_ending_131 zf_Mo_35 (zmo_m _ _ _ _) rfl ?_
            refine z_iload_n d_Mo_ending_134 rfl ?_
            refine z_iald d_Mo_ending_135 (rd_11 hA _) rfl (by first | omega | (dsimp only [sI, sL, sS, sN, sW]; omega) | (simp only [sI, sL, sS, sN, sW, va_up_self]; omega) | (simp [sI, sL, sS, sN, sW, va_up]; omega)) (ri_get (by first | omega | (dsimp only [sI, sL, sS, sN, sW]; omega) | (simp only [sI, sL, sS, sN, sW, va_up_self]; omega) | (simp [sI, sL, sS, sN, sW, va_up]; omega))) ?_
            rw [show (sI (sI (taskS P (P.2.2.1 10 q)) 11 q (nI (P.2.1 1 + 1))) 14 q 0).2.2.1 11 q = nI (P.2.1 1 + 1) from sI_get (taskS P (P.2.2.1 10 q)) 11 q (nI (P.2.1 1 + 1))]
            refine z_ireturn d_Mo_ending_136 rfl ?_ (by decide) (by decide)
            rw [hp, if_neg hs, show enT P q = _ from by unfold enT; rw [if_pos hag]]
            exact ⟨rfl, rfl⟩
      · skip
        have hs : P.2.2.1 9 q = 0 ∨ ¬ P.2.2.1 11 q = t := Or.inr h70
        refine z_goto (tgt := 137) d_Mo_ending_73 (by decide) ?_
        refine z_iinc (v := nI (q + 1)) d_Mo_ending_137 rfl (nI_1 q) (by decide) rfl ?_
        refine z_goto (tgt := 48) d_Mo_ending_140 (by decide) ?_
        exact ih (q + 1) _ (by omega) (hp.trans (if_pos hs))
set_option maxHeartbeats 4000000 in
set_option maxRecDepth 100000 in
theorem c_Mo_ending (l : Launch) (g : ZG) (m : Nat) (ad : Nat → Nat) (N : NS) (t : Int32) (hA : zAd g.2.2.2.1 m ad) (hit : N.2.1 0 < 1100) (hbg : N.2.1 1 + 32 ≤ 4000) : ZC vcl tlx GT l g y_Mo_ending b_Mo_ending 4 (Option.some FieldType.int) (ZRm 2 0 0) [.ref m, .int t] (zmo g.2.2.2.1 m ad N) (fun r M' => r = some (.int (enM N t).1) ∧ M' = zmo g.2.2.2.1 m ad ((enM N t).2)) := by
  refine ZC.of (by decide) (Nat.le_of_ble_eq_true rfl) rfl (fun k0 hz0 => ?_)
  refine z_iload_n d_Mo_ending_0 rfl ?_
  refine z_iconst (v := 1) d_Mo_ending_1 (by decide) ?_
  refine z_icmp_lt (tgt := 24) d_Mo_ending_2 (by decide) (fun h2 => ?_) (fun h2 => ?_)
  · skip
    have hb : t < 1 ∨ nI (N.2.1 1) < t := Or.inl h2
    refine z_bipush (v := (-4)) d_Mo_ending_24 (by decide) ?_
    refine z_ireturn d_Mo_ending_26 rfl ?_ (by decide) (by decide)
    first | (rw [show enM N t = (-4, N) from if_pos hb]; exact ⟨rfl, rfl⟩) | (rw [show enM N t = (-4, N) from by unfold enM; rw [if_neg hb, hj4, if_pos h21]]; exact ⟨rfl, rfl⟩)
  · skip
    refine z_iload_n d_Mo_ending_5 rfl ?_
    refine z_aload_n d_Mo_ending_6 rfl ?_
    refine z_get d_Mo_ending_7 zf_Mo_90 (zmo_m _ _ _ _) rfl ?_
    refine z_icmp_gt (tgt := 24) d_Mo_ending_10 (by decide) (fun h10 => ?_) (fun h10 => ?_)
    · skip
      have hb : t < 1 ∨ nI (N.2.1 1) < t := Or.inr h10
      refine z_bipush (v := (-4)) d_Mo_ending_24 (by decide) ?_
      refine z_ireturn d_Mo_ending_26 rfl ?_ (by decide) (by decide)
      first | (rw [show enM N t = (-4, N) from if_pos hb]; exact ⟨rfl, rfl⟩) | (rw [show enM N t = (-4, N) from by unfold enM; rw [if_neg hb, hj4, if_pos h21]]; exact ⟨rfl, rfl⟩)
    · skip
      have hb : ¬ (t < 1 ∨ nI (N.2.1 1) < t) := fun h => h.elim h2 h10
      obtain ⟨j, hj1, hj2, hj3, hj4⟩ := zpos (t := t) (n := N.2.1 1) (by omega) hb
      refine z_aload_n d_Mo_ending_13 rfl ?_
      refine z_get d_Mo_ending_14 zf_Mo_60 (zmo_m _ _ _ _) rfl ?_
      refine z_iload_n d_Mo_ending_17 rfl ?_
      refine z_iconst (v := 1) d_Mo_ending_18 (by decide) ?_
      refine z_isub d_Mo_ending_19 ?_
      rw [hj3]
      refine z_zald d_Mo_ending_20 (rd_19 hA _) rfl (by first | omega | (dsimp only [sI, sL, sS, sN, sW]; omega) | (simp only [sI, sL, sS, sN, sW, va_up_self]; omega) | (simp [sI, sL, sS, sN, sW, va_up]; omega)) (ri_get (by first | omega | (dsimp only [sI, sL, sS, sN, sW]; omega) | (simp only [sI, sL, sS, sN, sW, va_up_self]; omega) | (simp [sI, sL, sS, sN, sW, va_up]; omega))) ?_
      refine z_if_ne (tgt := 27) d_Mo_ending_21 (by decide) (fun h21 => ?_) (fun h21 => ?_)
      · skip
        refine z_aload_n d_Mo_ending_27 rfl ?_
        refine z_get d_Mo_ending_28 zf_Mo_60 (zmo_m _ _ _ _) rfl ?_
        refine z_iload_n d_Mo_ending_31 rfl ?_
        refine z_iconst (v := 1) d_Mo_ending_32 (by decide) ?_
        refine z_isub d_Mo_ending_33 ?_
        rw [hj3]
        refine z_iconst (v := 0) d_Mo_ending_34 (by decide) ?_
        refine z_zast d_Mo_ending_35 (rd_19 hA _) rfl (by first | omega | (dsimp only [sI, sL, sS, sN, sW]; omega) | (simp only [sI, sL, sS, sN, sW, va_up_self]; omega) | (simp [sI, sL, sS, sN, sW, va_up]; omega)) (by rw [ri_len]; exact (by first | omega | (dsimp only [sI, sL, sS, sN, sW]; omega) | (simp only [sI, sL, sS, sN, sW, va_up_self]; omega) | (simp [sI, sL, sS, sN, sW, va_up]; omega))) rfl ?_
        rw [wr_19 hA]
        refine z_aload_n d_Mo_ending_36 rfl ?_
        refine z_dup d_Mo_ending_37 rfl ?_
        refine z_get d_Mo_ending_38 zf_Mo_93 (zmo_m _ _ _ _) rfl ?_
        refine z_iconst (v := 1) d_Mo_ending_41 (by decide) ?_
        refine z_isub d_Mo_ending_42 ?_
        refine z_put d_Mo_ending_43 zp_Mo_93 (zmo_m _ _ _ _) rfl rfl ?_
        rw [ws_21]
        refine z_iconst (v := 0) d_Mo_ending_46 (by decide) ?_
        refine z_istore_n (i := 2) d_Mo_ending_47 rfl (by decide) rfl ?_
        have hF : enM N t = enN (enS N j) t 32 := by unfold enM; rw [if_neg hb, hj4, if_neg h21]
        rw [hF]
        exact lp_Mo_ending g k0 m ad (enS N j) t hA (Nat.le_of_lt hit) hbg 32 0 _ rfl rfl
      · skip
        refine z_bipush (v := (-4)) d_Mo_ending_24 (by decide) ?_
        refine z_ireturn d_Mo_ending_26 rfl ?_ (by decide) (by decide)
        first | (rw [show enM N t = (-4, N) from if_pos hb]; exact ⟨rfl, rfl⟩) | (rw [show enM N t = (-4, N) from by unfold enM; rw [if_neg hb, hj4, if_pos h21]]; exact ⟨rfl, rfl⟩)
set_option maxHeartbeats 4000000 in
set_option maxRecDepth 100000 in
theorem t_Mo_count (g : ZG) (k0 : ZK) (m : Nat) (ad : Nat → Nat) (N : NS) (w : Int32) (hA : zAd g.2.2.2.1 m ad) (hb : ¬ ¬ (w < 0 ∨ 32 ≤ w)) (hb2 : ¬ ¬ (w < 32 ∨ 64 ≤ w)) : ZW vcl tlx GT "MonitorQueuesModel" b_Mo_count 2 (Option.some FieldType.int) "count" (ZRm 1 0 0) g k0 (fun r M' => r = some (.int (ctM N w)) ∧ M' = zmo g.2.2.2.1 m ad (sS N 0 0)) [some (.ref m), some (.int w)] 43 [] (zmo g.2.2.2.1 m ad (sS N 0 0)) 0 0 := by
  refine z_iload_n d_Mo_count_43 rfl ?_
  by_cases h64 : w = 64
  · rw [h64]
    refine z_tableIn (tgt := 76) d_Mo_count_44 (by decide) (by decide) (show _ = some (32 : Int) from rfl) (by decide) ?_
    refine z_aload_n d_Mo_count_76 rfl ?_
    refine z_get d_Mo_count_77 zf_Mo_79 (zmo_m _ _ _ _) rfl ?_
    refine z_ireturn d_Mo_count_80 rfl ?_ (by decide) (by decide)
    rw [show ctM N 64 = nI (N.2.1 0) from by unfold ctM; rw [h64] at hb hb2; rw [if_neg hb, if_neg hb2, if_pos rfl]]
    exact ⟨rfl, rfl⟩
  by_cases h65 : w = 65
  · rw [h65]
    refine z_tableIn (tgt := 81) d_Mo_count_44 (by decide) (by decide) (show _ = some (37 : Int) from rfl) (by decide) ?_
    refine z_aload_n d_Mo_count_81 rfl ?_
    refine z_get d_Mo_count_82 zf_Mo_90 (zmo_m _ _ _ _) rfl ?_
    refine z_ireturn d_Mo_count_85 rfl ?_ (by decide) (by decide)
    rw [show ctM N 65 = nI (N.2.1 1) from by unfold ctM; rw [h65] at hb hb2; rw [if_neg hb, if_neg hb2, if_neg (by decide), if_pos rfl]]
    exact ⟨rfl, rfl⟩
  by_cases h66 : w = 66
  · rw [h66]
    refine z_tableIn (tgt := 86) d_Mo_count_44 (by decide) (by decide) (show _ = some (42 : Int) from rfl) (by decide) ?_
    refine z_aload_n d_Mo_count_86 rfl ?_
    refine z_get d_Mo_count_87 zf_Mo_93 (zmo_m _ _ _ _) rfl ?_
    refine z_ireturn d_Mo_count_90 rfl ?_ (by decide) (by decide)
    rw [show ctM N 66 = N.1 2 from by unfold ctM; rw [h66] at hb hb2; rw [if_neg hb, if_neg hb2, if_neg (by decide), if_neg (by decide), if_pos rfl]]
    exact ⟨rfl, rfl⟩
  by_cases h67 : w = 67
  · rw [h67]
    refine z_tableIn (tgt := 91) d_Mo_count_44 (by decide) (by decide) (show _ = some (47 : Int) from rfl) (by decide) ?_
    refine z_aload_n d_Mo_count_91 rfl ?_
    refine z_get d_Mo_count_92 zf_Mo_153 (zmo_m _ _ _ _) rfl ?_
    refine z_ireturn d_Mo_count_95 rfl ?_ (by decide) (by decide)
    rw [show ctM N 67 = nI (N.2.1 2) from by unfold ctM; rw [h67] at hb hb2; rw [if_neg hb, if_neg hb2, if_neg (by decide), if_neg (by decide), if_neg (by decide), if_pos rfl]]
    exact ⟨rfl, rfl⟩
  refine z_tableOut (tgt := 96) d_Mo_count_44 ?_ (by decide) ?_
  · rcases Int.lt_or_le w.toInt 64 with q | q
    · exact Or.inl q
    · rcases Int.lt_or_le 67 w.toInt with q2 | q2
      · exact Or.inr q2
      · exfalso
        have e4 : ∀ v : Int32, ¬ w = v → w.toInt ≠ v.toInt := fun v h e => h (Int32.toInt_inj.mp e)
        have g4 := e4 64 h64
        have g5 := e4 65 h65
        have g6 := e4 66 h66
        have g7 := e4 67 h67
        have : (64 : Int32).toInt = 64 := rfl
        have : (65 : Int32).toInt = 65 := rfl
        have : (66 : Int32).toInt = 66 := rfl
        have : (67 : Int32).toInt = 67 := rfl
        omega
  · skip
    refine z_bipush (v := (-2)) d_Mo_count_96 (by decide) ?_
    refine z_ireturn d_Mo_count_98 rfl ?_ (by decide) (by decide)
    rw [show ctM N w = -2 from by unfold ctM; rw [if_neg hb, if_neg hb2, if_neg h64, if_neg h65, if_neg h66, if_neg h67]]
    exact ⟨rfl, rfl⟩
theorem w_sub {w : Int32} (h1 : ¬ w < 32) (h2 : ¬ 64 ≤ w) : ∃ j : Nat, j < 32 ∧ w - 32 = nI j := by
  have h0 : ¬ w < 0 := fun h => h1 (by
    rw [Int32.lt_iff_toInt_lt] at h ⊢
    have : (0 : Int32).toInt = 0 := rfl
    have : (32 : Int32).toInt = 32 := rfl
    omega)
  obtain ⟨n, hn, rfl⟩ := nI_of h0
  have a1 : 32 ≤ n := Nat.not_lt.mp fun q => h1 (nI_lt q (by decide))
  have a2 : n < 64 := Nat.not_le.mp fun q => h2 (nI_le q hn)
  exact ⟨n - 32, by omega, pk_sub a1⟩
set_option maxHeartbeats 4000000 in
set_option maxRecDepth 100000 in
theorem c_Mo_count (l : Launch) (g : ZG) (m : Nat) (ad : Nat → Nat) (N : NS) (w : Int32) (hA : zAd g.2.2.2.1 m ad) (hit : N.2.1 0 < 1100) : ZC vcl tlx GT l g y_Mo_count b_Mo_count 2 (Option.some FieldType.int) (ZRm 1 0 0) [.ref m, .int w] (zmo g.2.2.2.1 m ad N) (fun r M' => r = some (.int (ctM N w)) ∧ M' = zmo g.2.2.2.1 m ad (sS N 0 0)) := by
  refine ZC.of (by decide) (Nat.le_of_ble_eq_true rfl) rfl (fun k0 hz0 => ?_)
  refine z_aload_n d_Mo_count_0 rfl ?_
  refine z_iconst (v := 0) d_Mo_count_1 (by decide) ?_
  refine z_put d_Mo_count_2 zp_Mo_76 (zmo_m _ _ _ _) rfl rfl ?_
  rw [ws_0]
  refine z_iload_n d_Mo_count_5 rfl ?_
  refine z_if_lt (tgt := 21) d_Mo_count_6 (by decide) (fun h6 => ?_) (fun h6 => ?_)
  · skip
    have hb : ¬ ¬ (w < 0 ∨ 32 ≤ w) := not_not_intro (Or.inl h6)
    refine z_iload_n d_Mo_count_21 rfl ?_
    refine z_bipush (v := 32) d_Mo_count_22 (by decide) ?_
    refine z_icmp_lt (tgt := 43) d_Mo_count_24 (by decide) (fun h24 => ?_) (fun h24 => ?_)
    · skip
      have hb2 : ¬ ¬ (w < 32 ∨ 64 ≤ w) := not_not_intro (Or.inl h24)
      exact t_Mo_count g k0 m ad N w hA hb hb2
    · skip
      refine z_iload_n d_Mo_count_27 rfl ?_
      refine z_bipush (v := 64) d_Mo_count_28 (by decide) ?_
      refine z_icmp_ge (tgt := 43) d_Mo_count_30 (by decide) (fun h30 => ?_) (fun h30 => ?_)
      · skip
        have hb2 : ¬ ¬ (w < 32 ∨ 64 ≤ w) := not_not_intro (Or.inr h30)
        exact t_Mo_count g k0 m ad N w hA hb hb2
      · skip
        have hb2 : ¬ (w < 32 ∨ 64 ≤ w) := fun h => h.elim h24 h30
        obtain ⟨j, hj, hjw⟩ : ∃ j : Nat, j < 32 ∧ w - 32 = nI j := w_sub h24 h30
        refine z_aload_n d_Mo_count_33 rfl ?_
        refine z_get d_Mo_count_34 zf_Mo_23 (zmo_m _ _ _ _) rfl ?_
        refine z_iload_n d_Mo_count_37 rfl ?_
        refine z_bipush (v := 32) d_Mo_count_38 (by decide) ?_
        refine z_isub d_Mo_count_40 ?_
        rw [hjw]
        refine z_iald d_Mo_count_41 (rd_7 hA _) rfl (by first | omega | (dsimp only [sI, sL, sS, sN, sW]; omega) | (simp only [sI, sL, sS, sN, sW, va_up_self]; omega) | (simp [sI, sL, sS, sN, sW, va_up]; omega)) (ri_get (by first | omega | (dsimp only [sI, sL, sS, sN, sW]; omega) | (simp only [sI, sL, sS, sN, sW, va_up_self]; omega) | (simp [sI, sL, sS, sN, sW, va_up]; omega))) ?_
        refine z_ireturn d_Mo_count_42 rfl ?_ (by decide) (by decide)
        rw [show ctM N w = N.2.2.1 7 j from by unfold ctM; rw [if_neg hb, if_pos hb2, hjw, nI_clamp (by omega)]]
        exact ⟨rfl, rfl⟩
    skip
  · skip
    refine z_iload_n d_Mo_count_9 rfl ?_
    refine z_bipush (v := 32) d_Mo_count_10 (by decide) ?_
    refine z_icmp_ge (tgt := 21) d_Mo_count_12 (by decide) (fun h12 => ?_) (fun h12 => ?_)
    · skip
      have hb : ¬ ¬ (w < 0 ∨ 32 ≤ w) := not_not_intro (Or.inr h12)
      refine z_iload_n d_Mo_count_21 rfl ?_
      refine z_bipush (v := 32) d_Mo_count_22 (by decide) ?_
      refine z_icmp_lt (tgt := 43) d_Mo_count_24 (by decide) (fun h24 => ?_) (fun h24 => ?_)
      · skip
        have hb2 : ¬ ¬ (w < 32 ∨ 64 ≤ w) := not_not_intro (Or.inl h24)
        exact t_Mo_count g k0 m ad N w hA hb hb2
      · skip
        refine z_iload_n d_Mo_count_27 rfl ?_
        refine z_bipush (v := 64) d_Mo_count_28 (by decide) ?_
        refine z_icmp_ge (tgt := 43) d_Mo_count_30 (by decide) (fun h30 => ?_) (fun h30 => ?_)
        · skip
          have hb2 : ¬ ¬ (w < 32 ∨ 64 ≤ w) := not_not_intro (Or.inr h30)
          exact t_Mo_count g k0 m ad N w hA hb hb2
        · skip
          have hb2 : ¬ (w < 32 ∨ 64 ≤ w) := fun h => h.elim h24 h30
          obtain ⟨j, hj, hjw⟩ : ∃ j : Nat, j < 32 ∧ w - 32 = nI j := w_sub h24 h30
          refine z_aload_n d_Mo_count_33 rfl ?_
          refine z_get d_Mo_count_34 zf_Mo_23 (zmo_m _ _ _ _) rfl ?_
          refine z_iload_n d_Mo_count_37 rfl ?_
          refine z_bipush (v := 32) d_Mo_count_38 (by decide) ?_
          refine z_isub d_Mo_count_40 ?_
          rw [hjw]
          refine z_iald d_Mo_count_41 (rd_7 hA _) rfl (by first | omega | (dsimp only [sI, sL, sS, sN, sW]; omega) | (simp only [sI, sL, sS, sN, sW, va_up_self]; omega) | (simp [sI, sL, sS, sN, sW, va_up]; omega)) (ri_get (by first | omega | (dsimp only [sI, sL, sS, sN, sW]; omega) | (simp only [sI, sL, sS, sN, sW, va_up_self]; omega) | (simp [sI, sL, sS, sN, sW, va_up]; omega))) ?_
          refine z_ireturn d_Mo_count_42 rfl ?_ (by decide) (by decide)
          rw [show ctM N w = N.2.2.1 7 j from by unfold ctM; rw [if_neg hb, if_pos hb2, hjw, nI_clamp (by omega)]]
          exact ⟨rfl, rfl⟩
      skip
    · skip
      have hb : ¬ (w < 0 ∨ 32 ≤ w) := fun h => h.elim h6 h12
      refine z_aload_n d_Mo_count_15 rfl ?_
      refine z_iload_n d_Mo_count_16 rfl ?_
      refine z_callV gt_good d_Mo_count_17 zv_Mo_82 (zmo_m _ _ _ _) rfl (fun l => c_Mo_many l g m ad (sS N 0 0) w hA (Nat.le_of_lt hit)) rfl rfl ⟨Nat.le_of_ble_eq_true rfl, Nat.le_of_ble_eq_true rfl⟩ (Nat.le_of_ble_eq_true rfl) (Nat.le_of_ble_eq_true rfl) (Nat.le_of_ble_eq_true rfl) ?_
      rintro _ _ ⟨rfl, rfl⟩
      refine z_ireturn d_Mo_count_20 rfl ?_ (by decide) (by decide)
      rw [show ctM N w = nI (mnN N w (N.2.1 0)) from if_pos hb]
      exact ⟨by rw [← mnN_eq (N := N) (N' := sS N 0 0) rfl w (N.2.1 0)]; rfl, rfl⟩
