theorem i32_lt1 {t : Int32} (h : t < 1) : t ≤ 0 := by
  rw [Int32.lt_iff_toInt_lt] at h
  rw [Int32.le_iff_toInt_le]
  have : (0 : Int32).toInt = 0 := rfl
  have : (1 : Int32).toInt = 1 := rfl
  omega
set_option maxHeartbeats 4000000 in
set_option maxRecDepth 100000 in
theorem c_Mo_puttingB (l : Launch) (g : ZG) (m : Nat) (ad : Nat → Nat) (N : NS) (q : Int32) (k : Int32) (v : Int64) (u : Int32) (hA : zAd g.2.2.2.1 m ad) (hq : q < 0 ∨ 32 ≤ q) : ZC vcl tlx GT l g y_Mo_putting b_Mo_putting 7 (Option.some FieldType.int) (ZRm 2 0 0) [.ref m, .int q, .int k, .long v, .int u] (zmo g.2.2.2.1 m ad N) (fun r M' => r = some (.int (-2)) ∧ M' = zmo g.2.2.2.1 m ad (N)) := by
  refine ZC.of (by decide) (Nat.le_of_ble_eq_true rfl) rfl (fun k0 hz0 => ?_)
  refine z_iload_n d_Mo_putting_0 rfl ?_
  refine z_callS gt_good d_Mo_putting_1 zs_Mo_105 (fun l => c_Mo_isQueue l g _ _) rfl rfl ⟨Nat.le_of_ble_eq_true rfl, Nat.le_of_ble_eq_true rfl⟩ (Nat.le_of_ble_eq_true rfl) (Nat.le_of_ble_eq_true rfl) (Nat.le_of_ble_eq_true rfl) ?_
  rintro _ _ ⟨rfl, rfl⟩
  rw [if_pos hq]
  refine z_if_eq (tgt := 28) d_Mo_putting_4 (by decide) (fun h4 => ?_) (fun h4 => False.elim (h4 rfl))
  refine z_bipush (v := (-2)) d_Mo_putting_28 (by decide) ?_
  refine z_ireturn d_Mo_putting_30 rfl ?_ (by decide) (by decide)
  exact ⟨rfl, rfl⟩
set_option maxHeartbeats 4000000 in
set_option maxRecDepth 100000 in
theorem c_Mo_takingB (l : Launch) (g : ZG) (m : Nat) (ad : Nat → Nat) (N : NS) (q : Int32) (hA : zAd g.2.2.2.1 m ad) (hq : q < 0 ∨ 32 ≤ q) : ZC vcl tlx GT l g y_Mo_taking b_Mo_taking 3 (Option.some FieldType.int) (ZRm 2 0 0) [.ref m, .int q] (zmo g.2.2.2.1 m ad N) (fun r M' => r = some (.int (-2)) ∧ M' = zmo g.2.2.2.1 m ad (N)) := by
  refine ZC.of (by decide) (Nat.le_of_ble_eq_true rfl) rfl (fun k0 hz0 => ?_)
  refine z_iload_n d_Mo_taking_0 rfl ?_
  refine z_callS gt_good d_Mo_taking_1 zs_Mo_105 (fun l => c_Mo_isQueue l g _ _) rfl rfl ⟨Nat.le_of_ble_eq_true rfl, Nat.le_of_ble_eq_true rfl⟩ (Nat.le_of_ble_eq_true rfl) (Nat.le_of_ble_eq_true rfl) (Nat.le_of_ble_eq_true rfl) ?_
  rintro _ _ ⟨rfl, rfl⟩
  rw [if_pos hq]
  refine z_if_ne (tgt := 10) d_Mo_taking_4 (by decide) (fun h4 => False.elim (h4 rfl)) (fun h4 => ?_)
  refine z_bipush (v := (-2)) d_Mo_taking_7 (by decide) ?_
  refine z_ireturn d_Mo_taking_9 rfl ?_ (by decide) (by decide)
  exact ⟨rfl, rfl⟩
set_option maxHeartbeats 4000000 in
set_option maxRecDepth 100000 in
theorem c_Mo_triggersB (l : Launch) (g : ZG) (m : Nat) (ad : Nat → Nat) (N : NS) (q : Int32) (n c : Int32) (hA : zAd g.2.2.2.1 m ad) (hq : q < 0 ∨ 32 ≤ q) : ZC vcl tlx GT l g y_Mo_triggers b_Mo_triggers 4 (Option.some FieldType.int) (ZRm 2 0 0) [.ref m, .int q, .int n, .int c] (zmo g.2.2.2.1 m ad N) (fun r M' => r = some (.int (-2)) ∧ M' = zmo g.2.2.2.1 m ad (N)) := by
  refine ZC.of (by decide) (Nat.le_of_ble_eq_true rfl) rfl (fun k0 hz0 => ?_)
  refine z_iload_n d_Mo_triggers_0 rfl ?_
  refine z_callS gt_good d_Mo_triggers_1 zs_Mo_105 (fun l => c_Mo_isQueue l g _ _) rfl rfl ⟨Nat.le_of_ble_eq_true rfl, Nat.le_of_ble_eq_true rfl⟩ (Nat.le_of_ble_eq_true rfl) (Nat.le_of_ble_eq_true rfl) (Nat.le_of_ble_eq_true rfl) ?_
  rintro _ _ ⟨rfl, rfl⟩
  rw [if_pos hq]
  refine z_if_eq (tgt := 18) d_Mo_triggers_4 (by decide) (fun h4 => ?_) (fun h4 => False.elim (h4 rfl))
  refine z_bipush (v := (-2)) d_Mo_triggers_18 (by decide) ?_
  refine z_ireturn d_Mo_triggers_20 rfl ?_ (by decide) (by decide)
  exact ⟨rfl, rfl⟩
set_option maxHeartbeats 4000000 in
set_option maxRecDepth 100000 in
theorem c_Mo_rewritingB (l : Launch) (g : ZG) (m : Nat) (ad : Nat → Nat) (N : NS) (q : Int32) (n : Int32) (v : Int64) (hA : zAd g.2.2.2.1 m ad) (hq : q < 0 ∨ 32 ≤ q) : ZC vcl tlx GT l g y_Mo_rewriting b_Mo_rewriting 6 (Option.some FieldType.int) (ZRm 2 0 0) [.ref m, .int q, .int n, .long v] (zmo g.2.2.2.1 m ad N) (fun r M' => r = some (.int (-2)) ∧ M' = zmo g.2.2.2.1 m ad (N)) := by
  refine ZC.of (by decide) (Nat.le_of_ble_eq_true rfl) rfl (fun k0 hz0 => ?_)
  refine z_iload_n d_Mo_rewriting_0 rfl ?_
  refine z_callS gt_good d_Mo_rewriting_1 zs_Mo_105 (fun l => c_Mo_isQueue l g _ _) rfl rfl ⟨Nat.le_of_ble_eq_true rfl, Nat.le_of_ble_eq_true rfl⟩ (Nat.le_of_ble_eq_true rfl) (Nat.le_of_ble_eq_true rfl) (Nat.le_of_ble_eq_true rfl) ?_
  rintro _ _ ⟨rfl, rfl⟩
  rw [if_pos hq]
  refine z_if_ne (tgt := 10) d_Mo_rewriting_4 (by decide) (fun h4 => False.elim (h4 rfl)) (fun h4 => ?_)
  refine z_bipush (v := (-2)) d_Mo_rewriting_7 (by decide) ?_
  refine z_ireturn d_Mo_rewriting_9 rfl ?_ (by decide) (by decide)
  exact ⟨rfl, rfl⟩
set_option maxHeartbeats 4000000 in
set_option maxRecDepth 100000 in
theorem c_Mo_nextingB (l : Launch) (g : ZG) (m : Nat) (ad : Nat → Nat) (N : NS) (q r : Int32) (hA : zAd g.2.2.2.1 m ad) (hq : (q < 0 ∨ 32 ≤ q) ∨ r < 0 ∨ 8 ≤ r) : ZC vcl tlx GT l g y_Mo_nexting b_Mo_nexting 4 (Option.some FieldType.int) (ZRm 2 0 0) [.ref m, .int q, .int r] (zmo g.2.2.2.1 m ad N) (fun r M' => r = some (.int (-2)) ∧ M' = zmo g.2.2.2.1 m ad (N)) := by
  refine ZC.of (by decide) (Nat.le_of_ble_eq_true rfl) rfl (fun k0 hz0 => ?_)
  refine z_iload_n d_Mo_nexting_0 rfl ?_
  refine z_callS gt_good d_Mo_nexting_1 zs_Mo_105 (fun l => c_Mo_isQueue l g _ _) rfl rfl ⟨Nat.le_of_ble_eq_true rfl, Nat.le_of_ble_eq_true rfl⟩ (Nat.le_of_ble_eq_true rfl) (Nat.le_of_ble_eq_true rfl) (Nat.le_of_ble_eq_true rfl) ?_
  rintro _ _ ⟨rfl, rfl⟩
  refine z_if_eq (tgt := 17) d_Mo_nexting_4 (by decide) (fun h4 => ?_) (fun h4 => ?_)
  · skip
    refine z_bipush (v := (-2)) d_Mo_nexting_17 (by decide) ?_
    refine z_ireturn d_Mo_nexting_19 rfl ?_ (by decide) (by decide)
    exact ⟨rfl, rfl⟩
  · skip
    have hq := hq.resolve_left (zifn h4)
    refine z_iload_n d_Mo_nexting_7 rfl ?_
    refine z_if_lt (tgt := 17) d_Mo_nexting_8 (by decide) (fun h8 => ?_) (fun h8 => ?_)
    · skip
      refine z_bipush (v := (-2)) d_Mo_nexting_17 (by decide) ?_
      refine z_ireturn d_Mo_nexting_19 rfl ?_ (by decide) (by decide)
      exact ⟨rfl, rfl⟩
    · skip
      have hq := hq.resolve_left h8
      refine z_iload_n d_Mo_nexting_11 rfl ?_
      refine z_bipush (v := 8) d_Mo_nexting_12 (by decide) ?_
      refine z_icmp_lt (tgt := 20) d_Mo_nexting_14 (by decide) (fun h14 => False.elim (k2_nlt hq h14)) (fun h14 => ?_)
      refine z_bipush (v := (-2)) d_Mo_nexting_17 (by decide) ?_
      refine z_ireturn d_Mo_nexting_19 rfl ?_ (by decide) (by decide)
      exact ⟨rfl, rfl⟩
set_option maxHeartbeats 4000000 in
set_option maxRecDepth 100000 in
theorem c_Mo_nexting (l : Launch) (g : ZG) (m : Nat) (ad : Nat → Nat) (N : NS) (i j : Nat) (hA : zAd g.2.2.2.1 m ad) (hi : i < 32) (hj : j < 8) (hit : N.2.1 0 < 1100) : ZC vcl tlx GT l g y_Mo_nexting b_Mo_nexting 4 (Option.some FieldType.int) (ZRm 2 0 0) [.ref m, .int (nI i), .int (nI j)] (zmo g.2.2.2.1 m ad N) (fun r M' => r = some (.int (nxM N i j).1) ∧ M' = zmo g.2.2.2.1 m ad ((nxM N i j).2)) := by
  refine ZC.of (by decide) (Nat.le_of_ble_eq_true rfl) rfl (fun k0 hz0 => ?_)
  have hgood : ¬ (nI i < 0 ∨ 32 ≤ nI i) := fun h => h.elim (nI_pos (by omega)) (fun h => nI_ge hi (by decide) h)
  have hb1 : ¬ nI j < 0 := nI_pos (by omega)
  have hb2 : nI j < 8 := nI_lt hj (by decide)
  refine z_iload_n d_Mo_nexting_0 rfl ?_
  refine z_callS gt_good d_Mo_nexting_1 zs_Mo_105 (fun l => c_Mo_isQueue l g _ _) rfl rfl ⟨Nat.le_of_ble_eq_true rfl, Nat.le_of_ble_eq_true rfl⟩ (Nat.le_of_ble_eq_true rfl) (Nat.le_of_ble_eq_true rfl) (Nat.le_of_ble_eq_true rfl) ?_
  rintro _ _ ⟨rfl, rfl⟩
  rw [if_neg hgood]
  refine z_if_eq (tgt := 17) d_Mo_nexting_4 (by decide) (fun h4 => False.elim (absurd h4 (by decide))) (fun h4 => ?_)
  refine z_iload_n d_Mo_nexting_7 rfl ?_
  refine z_if_lt (tgt := 17) d_Mo_nexting_8 (by decide) (fun h8 => False.elim (hb1 h8)) (fun h8 => ?_)
  refine z_iload_n d_Mo_nexting_11 rfl ?_
  refine z_bipush (v := 8) d_Mo_nexting_12 (by decide) ?_
  refine z_icmp_lt (tgt := 20) d_Mo_nexting_14 (by decide) (fun h14 => ?_) (fun h14 => False.elim (h14 hb2))
  refine z_aload_n d_Mo_nexting_20 rfl ?_
  refine z_iload_n d_Mo_nexting_21 rfl ?_
  refine z_callV gt_good d_Mo_nexting_22 zv_Mo_130 (zmo_m _ _ _ _) rfl (fun l => c_Mo_isTransient l g m ad N i hA hi) rfl rfl ⟨Nat.le_of_ble_eq_true rfl, Nat.le_of_ble_eq_true rfl⟩ (Nat.le_of_ble_eq_true rfl) (Nat.le_of_ble_eq_true rfl) (Nat.le_of_ble_eq_true rfl) ?_
  rintro _ _ ⟨rfl, rfl⟩
  refine z_if_eq (tgt := 31) d_Mo_nexting_25 (by decide) (fun h25 => ?_) (fun h25 => ?_)
  · skip
    have hk := zift h25
    refine z_aload_n d_Mo_nexting_31 rfl ?_
    refine z_get d_Mo_nexting_32 zf_Mo_54 (zmo_m _ _ _ _) rfl ?_
    refine z_bipush (v := 8) d_Mo_nexting_35 (by decide) ?_
    refine z_iload_n d_Mo_nexting_37 rfl ?_
    refine z_imul d_Mo_nexting_38 ?_
    refine z_iload_n d_Mo_nexting_39 rfl ?_
    refine z_iadd d_Mo_nexting_40 ?_
    rw [show (8 : Int32) * nI i + nI j = nI (8 * i + j) by rw [← nI_add, ← nI_mul]; rfl]
    refine z_iald d_Mo_nexting_41 (rd_17 hA _) rfl (by first | omega | (dsimp only [sI, sL, sS, sN, sW]; omega) | (simp only [sI, sL, sS, sN, sW, va_up_self]; omega) | (simp [sI, sL, sS, sN, sW, va_up]; omega)) (ri_get (by first | omega | (dsimp only [sI, sL, sS, sN, sW]; omega) | (simp only [sI, sL, sS, sN, sW, va_up_self]; omega) | (simp [sI, sL, sS, sN, sW, va_up]; omega))) ?_
    refine z_iconst (v := 1) d_Mo_nexting_42 (by decide) ?_
    refine z_iadd d_Mo_nexting_43 ?_
    refine z_istore_n (i := 3) d_Mo_nexting_44 rfl (by decide) rfl ?_
    refine z_iload_n d_Mo_nexting_45 rfl ?_
    refine z_aload_n d_Mo_nexting_46 rfl ?_
    refine z_iload_n d_Mo_nexting_47 rfl ?_
    refine z_callV gt_good d_Mo_nexting_48 zv_Mo_82 (zmo_m _ _ _ _) rfl (fun l => c_Mo_many l g m ad N (nI i) hA (by omega)) rfl rfl ⟨Nat.le_of_ble_eq_true rfl, Nat.le_of_ble_eq_true rfl⟩ (Nat.le_of_ble_eq_true rfl) (Nat.le_of_ble_eq_true rfl) (Nat.le_of_ble_eq_true rfl) ?_
    rintro _ _ ⟨rfl, rfl⟩
    refine z_icmp_le (tgt := 57) d_Mo_nexting_51 (by decide) (fun h51 => ?_) (fun h51 => ?_)
    · skip
      refine z_aload_n d_Mo_nexting_57 rfl ?_
      refine z_get d_Mo_nexting_58 zf_Mo_54 (zmo_m _ _ _ _) rfl ?_
      refine z_bipush (v := 8) d_Mo_nexting_61 (by decide) ?_
      refine z_iload_n d_Mo_nexting_63 rfl ?_
      refine z_imul d_Mo_nexting_64 ?_
      refine z_iload_n d_Mo_nexting_65 rfl ?_
      refine z_iadd d_Mo_nexting_66 ?_
      rw [show (8 : Int32) * nI i + nI j = nI (8 * i + j) by rw [← nI_add, ← nI_mul]; rfl]
      refine z_iload_n d_Mo_nexting_67 rfl ?_
      refine z_iast d_Mo_nexting_68 (rd_17 hA _) rfl (by first | omega | (dsimp only [sI, sL, sS, sN, sW]; omega) | (simp only [sI, sL, sS, sN, sW, va_up_self]; omega) | (simp [sI, sL, sS, sN, sW, va_up]; omega)) (by rw [ri_len]; exact (by first | omega | (dsimp only [sI, sL, sS, sN, sW]; omega) | (simp only [sI, sL, sS, sN, sW, va_up_self]; omega) | (simp [sI, sL, sS, sN, sW, va_up]; omega))) ?_
      rw [wr_17 hA]
      refine z_aload_n d_Mo_nexting_69 rfl ?_
      refine z_get d_Mo_nexting_70 zf_Mo_48 (zmo_m _ _ _ _) rfl ?_
      refine z_iload_n d_Mo_nexting_73 rfl ?_
      refine z_aload_n d_Mo_nexting_74 rfl ?_
      refine z_get d_Mo_nexting_75 zf_Mo_112 (zmo_m _ _ _ _) rfl ?_
      refine z_last d_Mo_nexting_78 (rd_15 hA _) rfl (by first | omega | (dsimp only [sI, sL, sS, sN, sW]; omega) | (simp only [sI, sL, sS, sN, sW, va_up_self]; omega) | (simp [sI, sL, sS, sN, sW, va_up]; omega)) (by rw [rl_len]; exact (by first | omega | (dsimp only [sI, sL, sS, sN, sW]; omega) | (simp only [sI, sL, sS, sN, sW, va_up_self]; omega) | (simp [sI, sL, sS, sN, sW, va_up]; omega))) ?_
      rw [wr_15 hA]
      refine z_iload_n d_Mo_nexting_79 rfl ?_
      refine z_ireturn d_Mo_nexting_80 rfl ?_ (by decide) (by decide)
      rw [show nxM N i j = _ from by unfold nxM; rw [if_neg (not_not_intro hk), if_neg (not_not_intro h51)]]
      exact ⟨rfl, rfl⟩
    · skip
      refine z_bipush (v := (-4)) d_Mo_nexting_54 (by decide) ?_
      refine z_ireturn d_Mo_nexting_56 rfl ?_ (by decide) (by decide)
      rw [show nxM N i j = _ from by unfold nxM; rw [if_neg (not_not_intro hk), if_pos h51]]
      exact ⟨rfl, rfl⟩
  · skip
    have hk := zifn h25
    refine z_bipush (v := (-3)) d_Mo_nexting_28 (by decide) ?_
    refine z_ireturn d_Mo_nexting_30 rfl ?_ (by decide) (by decide)
    rw [show nxM N i j = _ from by unfold nxM; rw [if_pos hk]]
    exact ⟨rfl, rfl⟩
set_option maxHeartbeats 4000000 in
set_option maxRecDepth 100000 in
theorem c_Mo_taking (l : Launch) (g : ZG) (m : Nat) (ad : Nat → Nat) (N : NS) (i : Nat) (hA : zAd g.2.2.2.1 m ad) (hi : i < 32) (hit : N.2.1 0 < 1100) : ZC vcl tlx GT l g y_Mo_taking b_Mo_taking 3 (Option.some FieldType.int) (ZRm 2 0 0) [.ref m, .int (nI i)] (zmo g.2.2.2.1 m ad N) (fun r M' => r = some (.int (tkM N i).1) ∧ M' = zmo g.2.2.2.1 m ad ((tkM N i).2)) := by
  refine ZC.of (by decide) (Nat.le_of_ble_eq_true rfl) rfl (fun k0 hz0 => ?_)
  have hgood : ¬ (nI i < 0 ∨ 32 ≤ nI i) := fun h => h.elim (nI_pos (by omega)) (fun h => nI_ge hi (by decide) h)
  refine z_iload_n d_Mo_taking_0 rfl ?_
  refine z_callS gt_good d_Mo_taking_1 zs_Mo_105 (fun l => c_Mo_isQueue l g _ _) rfl rfl ⟨Nat.le_of_ble_eq_true rfl, Nat.le_of_ble_eq_true rfl⟩ (Nat.le_of_ble_eq_true rfl) (Nat.le_of_ble_eq_true rfl) (Nat.le_of_ble_eq_true rfl) ?_
  rintro _ _ ⟨rfl, rfl⟩
  rw [if_neg hgood]
  refine z_if_ne (tgt := 10) d_Mo_taking_4 (by decide) (fun h4 => ?_) (fun h4 => False.elim (absurd h4 (by decide)))
  refine z_aload_n d_Mo_taking_10 rfl ?_
  refine z_iload_n d_Mo_taking_11 rfl ?_
  refine z_callV gt_good d_Mo_taking_12 zv_Mo_123 (zmo_m _ _ _ _) rfl (fun l => c_Mo_isTemporary l g m ad N i hA hi) rfl rfl ⟨Nat.le_of_ble_eq_true rfl, Nat.le_of_ble_eq_true rfl⟩ (Nat.le_of_ble_eq_true rfl) (Nat.le_of_ble_eq_true rfl) (Nat.le_of_ble_eq_true rfl) ?_
  rintro _ _ ⟨rfl, rfl⟩
  refine z_if_eq (tgt := 21) d_Mo_taking_15 (by decide) (fun h15 => ?_) (fun h15 => ?_)
  · skip
    have hk := zif0 h15
    refine z_aload_n d_Mo_taking_21 rfl ?_
    refine z_iload_n d_Mo_taking_22 rfl ?_
    refine z_iconst (v := 1) d_Mo_taking_23 (by decide) ?_
    refine z_callV gt_good d_Mo_taking_24 zv_Mo_126 (zmo_m _ _ _ _) rfl (fun l => c_Mo_placeOf l g m ad N (nI i) 1 hA (by omega)) rfl rfl ⟨Nat.le_of_ble_eq_true rfl, Nat.le_of_ble_eq_true rfl⟩ (Nat.le_of_ble_eq_true rfl) (Nat.le_of_ble_eq_true rfl) (Nat.le_of_ble_eq_true rfl) ?_
    rintro _ _ ⟨rfl, rfl⟩
    cases hp : plI N (nI i) 1 with
    | none =>
      refine z_istore_n (i := 2) d_Mo_taking_27 rfl (by decide) rfl ?_
      refine z_iload_n d_Mo_taking_28 rfl ?_
      refine z_iconst (v := (-1)) d_Mo_taking_29 (by decide) ?_
      refine z_icmp_ne (tgt := 36) d_Mo_taking_30 (by decide) (fun h30 => False.elim (h30 rfl)) (fun h30 => ?_)
      refine z_bipush (v := (-4)) d_Mo_taking_33 (by decide) ?_
      refine z_ireturn d_Mo_taking_35 rfl ?_ (by decide) (by decide)
      rw [show tkM N i = _ from by unfold tkM; rw [if_neg hk, hp]]
      exact ⟨rfl, rfl⟩
    | some k =>
      have hkl := plI_lt hp
      have hkq := plI_q hp
      rw [show plV (some k) = nI k from rfl]
      refine z_istore_n (i := 2) d_Mo_taking_27 rfl (by decide) rfl ?_
      refine z_iload_n d_Mo_taking_28 rfl ?_
      refine z_iconst (v := (-1)) d_Mo_taking_29 (by decide) ?_
      refine z_icmp_ne (tgt := 36) d_Mo_taking_30 (by decide) (fun h30 => ?_) (fun h30 => False.elim (h30 |> fun h => absurd h (fun e => nI_pos (show k < 2 ^ 31 by omega) (by rw [e]; decide))))
      refine z_aload_n d_Mo_taking_36 rfl ?_
      refine z_get d_Mo_taking_37 zf_Mo_16 (zmo_m _ _ _ _) rfl ?_
      refine z_iload_n d_Mo_taking_40 rfl ?_
      refine z_iald d_Mo_taking_41 (rd_4 hA _) rfl (by first | omega | (dsimp only [sI, sL, sS, sN, sW]; omega) | (simp only [sI, sL, sS, sN, sW, va_up_self]; omega) | (simp [sI, sL, sS, sN, sW, va_up]; omega)) (ri_get (by first | omega | (dsimp only [sI, sL, sS, sN, sW]; omega) | (simp only [sI, sL, sS, sN, sW, va_up_self]; omega) | (simp [sI, sL, sS, sN, sW, va_up]; omega))) ?_
      refine z_if_le (tgt := 48) d_Mo_taking_42 (by decide) (fun h42 => ?_) (fun h42 => ?_)
      · skip
        refine z_aload_n d_Mo_taking_48 rfl ?_
        refine z_get d_Mo_taking_49 zf_Mo_38 (zmo_m _ _ _ _) rfl ?_
        refine z_iload_n d_Mo_taking_52 rfl ?_
        refine z_aload_n d_Mo_taking_53 rfl ?_
        refine z_get d_Mo_taking_54 zf_Mo_13 (zmo_m _ _ _ _) rfl ?_
        refine z_iload_n d_Mo_taking_57 rfl ?_
        refine z_iald d_Mo_taking_58 (rd_3 hA _) rfl (by first | omega | (dsimp only [sI, sL, sS, sN, sW]; omega) | (simp only [sI, sL, sS, sN, sW, va_up_self]; omega) | (simp [sI, sL, sS, sN, sW, va_up]; omega)) (ri_get (by first | omega | (dsimp only [sI, sL, sS, sN, sW]; omega) | (simp only [sI, sL, sS, sN, sW, va_up_self]; omega) | (simp [sI, sL, sS, sN, sW, va_up]; omega))) ?_
        refine z_iast d_Mo_taking_59 (rd_12 hA _) rfl (by first | omega | (dsimp only [sI, sL, sS, sN, sW]; omega) | (simp only [sI, sL, sS, sN, sW, va_up_self]; omega) | (simp [sI, sL, sS, sN, sW, va_up]; omega)) (by rw [ri_len]; exact (by first | omega | (dsimp only [sI, sL, sS, sN, sW]; omega) | (simp only [sI, sL, sS, sN, sW, va_up_self]; omega) | (simp [sI, sL, sS, sN, sW, va_up]; omega))) ?_
        rw [wr_12 hA]
        refine z_aload_n d_Mo_taking_60 rfl ?_
        refine z_get d_Mo_taking_61 zf_Mo_51 (zmo_m _ _ _ _) rfl ?_
        refine z_iload_n d_Mo_taking_64 rfl ?_
        refine z_aload_n d_Mo_taking_65 rfl ?_
        refine z_get d_Mo_taking_66 zf_Mo_19 (zmo_m _ _ _ _) rfl ?_
        refine z_iload_n d_Mo_taking_69 rfl ?_
        refine z_lald d_Mo_taking_70 (rd_5 hA _) rfl (by first | omega | (dsimp only [sI, sL, sS, sN, sW]; omega) | (simp only [sI, sL, sS, sN, sW, va_up_self]; omega) | (simp [sI, sL, sS, sN, sW, va_up]; omega)) (rl_get (by first | omega | (dsimp only [sI, sL, sS, sN, sW]; omega) | (simp only [sI, sL, sS, sN, sW, va_up_self]; omega) | (simp [sI, sL, sS, sN, sW, va_up]; omega))) ?_
        rw [show (sI N 12 i (N.2.2.1 3 k)).2.2.2.1 5 k = N.2.2.2.1 5 k from rfl]
        refine z_last d_Mo_taking_71 (rd_16 hA _) rfl (by first | omega | (dsimp only [sI, sL, sS, sN, sW]; omega) | (simp only [sI, sL, sS, sN, sW, va_up_self]; omega) | (simp [sI, sL, sS, sN, sW, va_up]; omega)) (by rw [rl_len]; exact (by first | omega | (dsimp only [sI, sL, sS, sN, sW]; omega) | (simp only [sI, sL, sS, sN, sW, va_up_self]; omega) | (simp [sI, sL, sS, sN, sW, va_up]; omega))) ?_
        rw [wr_16 hA]
        refine z_aload_n d_Mo_taking_72 rfl ?_
        refine z_get d_Mo_taking_73 zf_Mo_45 (zmo_m _ _ _ _) rfl ?_
        refine z_iload_n d_Mo_taking_76 rfl ?_
        refine z_iconst (v := 1) d_Mo_taking_77 (by decide) ?_
        refine z_zast d_Mo_taking_78 (rd_14 hA _) rfl (by first | omega | (dsimp only [sI, sL, sS, sN, sW]; omega) | (simp only [sI, sL, sS, sN, sW, va_up_self]; omega) | (simp [sI, sL, sS, sN, sW, va_up]; omega)) (by rw [ri_len]; exact (by first | omega | (dsimp only [sI, sL, sS, sN, sW]; omega) | (simp only [sI, sL, sS, sN, sW, va_up_self]; omega) | (simp [sI, sL, sS, sN, sW, va_up]; omega))) rfl ?_
        rw [wr_14 hA]
        rw [show sI (sL (sI N 12 i (N.2.2.1 3 k)) 16 i (N.2.2.2.1 5 k)) 14 i 1 = tkS N i k from rfl]
        refine z_aload_n d_Mo_taking_79 rfl ?_
        refine z_iload_n d_Mo_taking_80 rfl ?_
        refine z_callV gt_good d_Mo_taking_81 zv_Mo_136 (zmo_m _ _ _ _) rfl (fun l => c_Mo_remove l g m ad (tkS N i k) k i hA hi hkl hkq (Nat.le_of_lt hit)) rfl rfl ⟨Nat.le_of_ble_eq_true rfl, Nat.le_of_ble_eq_true rfl⟩ (Nat.le_of_ble_eq_true rfl) (Nat.le_of_ble_eq_true rfl) (Nat.le_of_ble_eq_true rfl) ?_
        rintro _ _ ⟨rfl, rfl⟩
        refine z_aload_n d_Mo_taking_84 rfl ?_
        refine z_get d_Mo_taking_85 zf_Mo_38 (zmo_m _ _ _ _) rfl ?_
        refine z_iload_n d_Mo_taking_88 rfl ?_
        refine z_iald d_Mo_taking_89 (rd_12 hA _) rfl (by first | omega | (dsimp only [sI, sL, sS, sN, sW]; omega) | (simp only [sI, sL, sS, sN, sW, va_up_self]; omega) | (simp [sI, sL, sS, sN, sW, va_up]; omega)) (ri_get (by first | omega | (dsimp only [sI, sL, sS, sN, sW]; omega) | (simp only [sI, sL, sS, sN, sW, va_up_self]; omega) | (simp [sI, sL, sS, sN, sW, va_up]; omega))) ?_
        refine z_ireturn d_Mo_taking_90 rfl ?_ (by decide) (by decide)
        rw [show tkM N i = ((remS (tkS N i k) k i).2.2.1 12 i, remS (tkS N i k) k i) from by unfold tkM; rw [if_neg hk, hp]; exact if_neg (not_not_intro h42)]
        exact ⟨rfl, rfl⟩
      · skip
        refine z_bipush (v := (-5)) d_Mo_taking_45 (by decide) ?_
        refine z_ireturn d_Mo_taking_47 rfl ?_ (by decide) (by decide)
        rw [show tkM N i = (-5, N) from by unfold tkM; rw [if_neg hk, hp]; exact if_pos h42]
        exact ⟨rfl, rfl⟩
  · skip
    have hk := zif1 h15
    refine z_bipush (v := (-3)) d_Mo_taking_18 (by decide) ?_
    refine z_ireturn d_Mo_taking_20 rfl ?_ (by decide) (by decide)
    rw [show tkM N i = _ from by unfold tkM; rw [if_pos hk]]
    exact ⟨rfl, rfl⟩
set_option maxHeartbeats 4000000 in
set_option maxRecDepth 100000 in
theorem c_Mo_triggers (l : Launch) (g : ZG) (m : Nat) (ad : Nat → Nat) (N : NS) (i : Nat) (n c : Int32) (hA : zAd g.2.2.2.1 m ad) (hi : i < 32) : ZC vcl tlx GT l g y_Mo_triggers b_Mo_triggers 4 (Option.some FieldType.int) (ZRm 2 0 0) [.ref m, .int (nI i), .int n, .int c] (zmo g.2.2.2.1 m ad N) (fun r M' => r = some (.int (trM N i n c).1) ∧ M' = zmo g.2.2.2.1 m ad ((trM N i n c).2)) := by
  refine ZC.of (by decide) (Nat.le_of_ble_eq_true rfl) rfl (fun k0 hz0 => ?_)
  have hgood : ¬ (nI i < 0 ∨ 32 ≤ nI i) := fun h => h.elim (nI_pos (by omega)) (fun h => nI_ge hi (by decide) h)
  refine z_iload_n d_Mo_triggers_0 rfl ?_
  refine z_callS gt_good d_Mo_triggers_1 zs_Mo_105 (fun l => c_Mo_isQueue l g _ _) rfl rfl ⟨Nat.le_of_ble_eq_true rfl, Nat.le_of_ble_eq_true rfl⟩ (Nat.le_of_ble_eq_true rfl) (Nat.le_of_ble_eq_true rfl) (Nat.le_of_ble_eq_true rfl) ?_
  rintro _ _ ⟨rfl, rfl⟩
  rw [if_neg hgood]
  refine z_if_eq (tgt := 18) d_Mo_triggers_4 (by decide) (fun h4 => False.elim (absurd h4 (by decide))) (fun h4 => ?_)
  refine z_iload_n d_Mo_triggers_7 rfl ?_
  refine z_if_lt (tgt := 18) d_Mo_triggers_8 (by decide) (fun h8 => ?_) (fun h8 => ?_)
  · skip
    have hb : n < 0 ∨ 4096 < n := Or.inl h8
    refine z_bipush (v := (-2)) d_Mo_triggers_18 (by decide) ?_
    refine z_ireturn d_Mo_triggers_20 rfl ?_ (by decide) (by decide)
    rw [show trM N i n c = _ from by unfold trM; rw [if_pos hb]]
    exact ⟨rfl, rfl⟩
  · skip
    refine z_iload_n d_Mo_triggers_11 rfl ?_
    refine z_sipush (v := 4096) d_Mo_triggers_12 (by decide) ?_
    refine z_icmp_le (tgt := 21) d_Mo_triggers_15 (by decide) (fun h15 => ?_) (fun h15 => ?_)
    · skip
      have hb : ¬ (n < 0 ∨ 4096 < n) := fun h => h.elim h8 (fun h => k2_nlt h15 h)
      refine z_aload_n d_Mo_triggers_21 rfl ?_
      refine z_iload_n d_Mo_triggers_22 rfl ?_
      refine z_callV gt_good d_Mo_triggers_23 zv_Mo_123 (zmo_m _ _ _ _) rfl (fun l => c_Mo_isTemporary l g m ad N i hA hi) rfl rfl ⟨Nat.le_of_ble_eq_true rfl, Nat.le_of_ble_eq_true rfl⟩ (Nat.le_of_ble_eq_true rfl) (Nat.le_of_ble_eq_true rfl) (Nat.le_of_ble_eq_true rfl) ?_
      rintro _ _ ⟨rfl, rfl⟩
      refine z_if_eq (tgt := 32) d_Mo_triggers_26 (by decide) (fun h26 => ?_) (fun h26 => ?_)
      · skip
        have hk := zif0 h26
        refine z_aload_n d_Mo_triggers_32 rfl ?_
        refine z_get d_Mo_triggers_33 zf_Mo_29 (zmo_m _ _ _ _) rfl ?_
        refine z_iload_n d_Mo_triggers_36 rfl ?_
        refine z_iload_n d_Mo_triggers_37 rfl ?_
        refine z_iast d_Mo_triggers_38 (rd_9 hA _) rfl (by first | omega | (dsimp only [sI, sL, sS, sN, sW]; omega) | (simp only [sI, sL, sS, sN, sW, va_up_self]; omega) | (simp [sI, sL, sS, sN, sW, va_up]; omega)) (by rw [ri_len]; exact (by first | omega | (dsimp only [sI, sL, sS, sN, sW]; omega) | (simp only [sI, sL, sS, sN, sW, va_up_self]; omega) | (simp [sI, sL, sS, sN, sW, va_up]; omega))) ?_
        rw [wr_9 hA]
        refine z_aload_n d_Mo_triggers_39 rfl ?_
        refine z_get d_Mo_triggers_40 zf_Mo_32 (zmo_m _ _ _ _) rfl ?_
        refine z_iload_n d_Mo_triggers_43 rfl ?_
        refine z_iload_n d_Mo_triggers_44 rfl ?_
        refine z_iast d_Mo_triggers_45 (rd_10 hA _) rfl (by first | omega | (dsimp only [sI, sL, sS, sN, sW]; omega) | (simp only [sI, sL, sS, sN, sW, va_up_self]; omega) | (simp [sI, sL, sS, sN, sW, va_up]; omega)) (by rw [ri_len]; exact (by first | omega | (dsimp only [sI, sL, sS, sN, sW]; omega) | (simp only [sI, sL, sS, sN, sW, va_up_self]; omega) | (simp [sI, sL, sS, sN, sW, va_up]; omega))) ?_
        rw [wr_10 hA]
        refine z_aload_n d_Mo_triggers_46 rfl ?_
        refine z_get d_Mo_triggers_47 zf_Mo_41 (zmo_m _ _ _ _) rfl ?_
        refine z_iload_n d_Mo_triggers_50 rfl ?_
        refine z_iconst (v := 1) d_Mo_triggers_51 (by decide) ?_
        refine z_zast d_Mo_triggers_52 (rd_13 hA _) rfl (by first | omega | (dsimp only [sI, sL, sS, sN, sW]; omega) | (simp only [sI, sL, sS, sN, sW, va_up_self]; omega) | (simp [sI, sL, sS, sN, sW, va_up]; omega)) (by rw [ri_len]; exact (by first | omega | (dsimp only [sI, sL, sS, sN, sW]; omega) | (simp only [sI, sL, sS, sN, sW, va_up_self]; omega) | (simp [sI, sL, sS, sN, sW, va_up]; omega))) rfl ?_
        rw [wr_13 hA]
        refine z_aload_n d_Mo_triggers_53 rfl ?_
        refine z_get d_Mo_triggers_54 zf_Mo_35 (zmo_m _ _ _ _) rfl ?_
        refine z_iload_n d_Mo_triggers_57 rfl ?_
        refine z_iconst (v := 0) d_Mo_triggers_58 (by decide) ?_
        refine z_iast d_Mo_triggers_59 (rd_11 hA _) rfl (by first | omega | (dsimp only [sI, sL, sS, sN, sW]; omega) | (simp only [sI, sL, sS, sN, sW, va_up_self]; omega) | (simp [sI, sL, sS, sN, sW, va_up]; omega)) (by rw [ri_len]; exact (by first | omega | (dsimp only [sI, sL, sS, sN, sW]; omega) | (simp only [sI, sL, sS, sN, sW, va_up_self]; omega) | (simp [sI, sL, sS, sN, sW, va_up]; omega))) ?_
        rw [wr_11 hA]
        refine z_aload_n d_Mo_triggers_60 rfl ?_
        refine z_get d_Mo_triggers_61 zf_Mo_45 (zmo_m _ _ _ _) rfl ?_
        refine z_iload_n d_Mo_triggers_64 rfl ?_
        refine z_iconst (v := 0) d_Mo_triggers_65 (by decide) ?_
        refine z_zast d_Mo_triggers_66 (rd_14 hA _) rfl (by first | omega | (dsimp only [sI, sL, sS, sN, sW]; omega) | (simp only [sI, sL, sS, sN, sW, va_up_self]; omega) | (simp [sI, sL, sS, sN, sW, va_up]; omega)) (by rw [ri_len]; exact (by first | omega | (dsimp only [sI, sL, sS, sN, sW]; omega) | (simp only [sI, sL, sS, sN, sW, va_up_self]; omega) | (simp [sI, sL, sS, sN, sW, va_up]; omega))) rfl ?_
        rw [wr_14 hA]
        refine z_iconst (v := 1) d_Mo_triggers_67 (by decide) ?_
        refine z_ireturn d_Mo_triggers_68 rfl ?_ (by decide) (by decide)
        rw [show trM N i n c = _ from by unfold trM; rw [if_neg hb, if_neg hk]]
        exact ⟨rfl, rfl⟩
      · skip
        have hk := zif1 h26
        refine z_bipush (v := (-3)) d_Mo_triggers_29 (by decide) ?_
        refine z_ireturn d_Mo_triggers_31 rfl ?_ (by decide) (by decide)
        rw [show trM N i n c = _ from by unfold trM; rw [if_neg hb, if_pos hk]]
        exact ⟨rfl, rfl⟩
    · skip
      have hb : n < 0 ∨ 4096 < n := Or.inr (k2_lt h15)
      refine z_bipush (v := (-2)) d_Mo_triggers_18 (by decide) ?_
      refine z_ireturn d_Mo_triggers_20 rfl ?_ (by decide) (by decide)
      rw [show trM N i n c = _ from by unfold trM; rw [if_pos hb]]
      exact ⟨rfl, rfl⟩
set_option maxHeartbeats 4000000 in
set_option maxRecDepth 100000 in
theorem c_Mo_rewriting (l : Launch) (g : ZG) (m : Nat) (ad : Nat → Nat) (N : NS) (i : Nat) (n : Int32) (v : Int64) (hA : zAd g.2.2.2.1 m ad) (hi : i < 32) (hit : N.2.1 0 < 1100) : ZC vcl tlx GT l g y_Mo_rewriting b_Mo_rewriting 6 (Option.some FieldType.int) (ZRm 2 0 0) [.ref m, .int (nI i), .int n, .long v] (zmo g.2.2.2.1 m ad N) (fun r M' => r = some (.int (rwM N i n v).1) ∧ M' = zmo g.2.2.2.1 m ad ((rwM N i n v).2)) := by
  refine ZC.of (by decide) (Nat.le_of_ble_eq_true rfl) rfl (fun k0 hz0 => ?_)
  have hgood : ¬ (nI i < 0 ∨ 32 ≤ nI i) := fun h => h.elim (nI_pos (by omega)) (fun h => nI_ge hi (by decide) h)
  refine z_iload_n d_Mo_rewriting_0 rfl ?_
  refine z_callS gt_good d_Mo_rewriting_1 zs_Mo_105 (fun l => c_Mo_isQueue l g _ _) rfl rfl ⟨Nat.le_of_ble_eq_true rfl, Nat.le_of_ble_eq_true rfl⟩ (Nat.le_of_ble_eq_true rfl) (Nat.le_of_ble_eq_true rfl) (Nat.le_of_ble_eq_true rfl) ?_
  rintro _ _ ⟨rfl, rfl⟩
  rw [if_neg hgood]
  refine z_if_ne (tgt := 10) d_Mo_rewriting_4 (by decide) (fun h4 => ?_) (fun h4 => False.elim (absurd h4 (by decide)))
  refine z_aload_n d_Mo_rewriting_10 rfl ?_
  refine z_iload_n d_Mo_rewriting_11 rfl ?_
  refine z_callV gt_good d_Mo_rewriting_12 zv_Mo_130 (zmo_m _ _ _ _) rfl (fun l => c_Mo_isTransient l g m ad N i hA hi) rfl rfl ⟨Nat.le_of_ble_eq_true rfl, Nat.le_of_ble_eq_true rfl⟩ (Nat.le_of_ble_eq_true rfl) (Nat.le_of_ble_eq_true rfl) (Nat.le_of_ble_eq_true rfl) ?_
  rintro _ _ ⟨rfl, rfl⟩
  refine z_if_eq (tgt := 21) d_Mo_rewriting_15 (by decide) (fun h15 => ?_) (fun h15 => ?_)
  · skip
    have hk := zift h15
    refine z_aload_n d_Mo_rewriting_21 rfl ?_
    refine z_iload_n d_Mo_rewriting_22 rfl ?_
    refine z_iload_n d_Mo_rewriting_23 rfl ?_
    refine z_callV gt_good d_Mo_rewriting_24 zv_Mo_126 (zmo_m _ _ _ _) rfl (fun l => c_Mo_placeOf l g m ad N (nI i) n hA (by omega)) rfl rfl ⟨Nat.le_of_ble_eq_true rfl, Nat.le_of_ble_eq_true rfl⟩ (Nat.le_of_ble_eq_true rfl) (Nat.le_of_ble_eq_true rfl) (Nat.le_of_ble_eq_true rfl) ?_
    rintro _ _ ⟨rfl, rfl⟩
    cases hp : plI N (nI i) n with
    | none =>
      refine z_istore d_Mo_rewriting_27 (by decide) rfl ?_
      refine z_iload d_Mo_rewriting_29 rfl ?_
      refine z_iconst (v := (-1)) d_Mo_rewriting_31 (by decide) ?_
      refine z_icmp_ne (tgt := 38) d_Mo_rewriting_32 (by decide) (fun h32 => False.elim (h32 rfl)) (fun h32 => ?_)
      refine z_bipush (v := (-4)) d_Mo_rewriting_35 (by decide) ?_
      refine z_ireturn d_Mo_rewriting_37 rfl ?_ (by decide) (by decide)
      rw [show rwM N i n v = _ from by unfold rwM; rw [if_neg (not_not_intro hk), hp]]
      exact ⟨rfl, rfl⟩
    | some k =>
      have hkl := plI_lt hp
      rw [show plV (some k) = nI k from rfl]
      refine z_istore d_Mo_rewriting_27 (by decide) rfl ?_
      refine z_iload d_Mo_rewriting_29 rfl ?_
      refine z_iconst (v := (-1)) d_Mo_rewriting_31 (by decide) ?_
      refine z_icmp_ne (tgt := 38) d_Mo_rewriting_32 (by decide) (fun h32 => ?_) (fun h32 => False.elim (absurd h32 (fun e => nI_pos (show k < 2 ^ 31 by omega) (by rw [e]; decide))))
      refine z_aload_n d_Mo_rewriting_38 rfl ?_
      refine z_get d_Mo_rewriting_39 zf_Mo_19 (zmo_m _ _ _ _) rfl ?_
      refine z_iload d_Mo_rewriting_42 rfl ?_
      refine z_lload_n d_Mo_rewriting_44 rfl ?_
      refine z_last d_Mo_rewriting_45 (rd_5 hA _) rfl (by first | omega | (dsimp only [sI, sL, sS, sN, sW]; omega) | (simp only [sI, sL, sS, sN, sW, va_up_self]; omega) | (simp [sI, sL, sS, sN, sW, va_up]; omega)) (by rw [rl_len]; exact (by first | omega | (dsimp only [sI, sL, sS, sN, sW]; omega) | (simp only [sI, sL, sS, sN, sW, va_up_self]; omega) | (simp [sI, sL, sS, sN, sW, va_up]; omega))) ?_
      rw [wr_5 hA]
      refine z_aload_n d_Mo_rewriting_46 rfl ?_
      refine z_get d_Mo_rewriting_47 zf_Mo_48 (zmo_m _ _ _ _) rfl ?_
      refine z_iload_n d_Mo_rewriting_50 rfl ?_
      refine z_aload_n d_Mo_rewriting_51 rfl ?_
      refine z_get d_Mo_rewriting_52 zf_Mo_112 (zmo_m _ _ _ _) rfl ?_
      refine z_last d_Mo_rewriting_55 (rd_15 hA _) rfl (by first | omega | (dsimp only [sI, sL, sS, sN, sW]; omega) | (simp only [sI, sL, sS, sN, sW, va_up_self]; omega) | (simp [sI, sL, sS, sN, sW, va_up]; omega)) (by rw [rl_len]; exact (by first | omega | (dsimp only [sI, sL, sS, sN, sW]; omega) | (simp only [sI, sL, sS, sN, sW, va_up_self]; omega) | (simp [sI, sL, sS, sN, sW, va_up]; omega))) ?_
      rw [wr_15 hA]
      refine z_iconst (v := 1) d_Mo_rewriting_56 (by decide) ?_
      refine z_ireturn d_Mo_rewriting_57 rfl ?_ (by decide) (by decide)
      rw [show rwM N i n v = _ from by unfold rwM; rw [if_neg (not_not_intro hk), hp]]
      exact ⟨rfl, rfl⟩
  · skip
    have hk := zifn h15
    refine z_bipush (v := (-3)) d_Mo_rewriting_18 (by decide) ?_
    refine z_ireturn d_Mo_rewriting_20 rfl ?_ (by decide) (by decide)
    rw [show rwM N i n v = _ from by unfold rwM; rw [if_pos hk]]
    exact ⟨rfl, rfl⟩
set_option maxHeartbeats 4000000 in
set_option maxRecDepth 100000 in
theorem c_Mo_started (l : Launch) (g : ZG) (m : Nat) (ad : Nat → Nat) (N : NS) (t : Int32) (hA : zAd g.2.2.2.1 m ad) (hbg : N.2.1 1 ≤ 4000) : ZC vcl tlx GT l g y_Mo_started b_Mo_started 2 (Option.some FieldType.int) (ZRm 0 0 0) [.ref m, .int t] (zmo g.2.2.2.1 m ad N) (fun r M' => r = some (.int (saM N t)) ∧ M' = zmo g.2.2.2.1 m ad (sS N 0 0)) := by
  refine ZC.of (by decide) (Nat.le_of_ble_eq_true rfl) rfl (fun k0 hz0 => ?_)
  refine z_aload_n d_Mo_started_0 rfl ?_
  refine z_iconst (v := 0) d_Mo_started_1 (by decide) ?_
  refine z_put d_Mo_started_2 zp_Mo_76 (zmo_m _ _ _ _) rfl rfl ?_
  rw [ws_0]
  refine z_iload_n d_Mo_started_5 rfl ?_
  refine z_if_le (tgt := 28) d_Mo_started_6 (by decide) (fun h6 => ?_) (fun h6 => ?_)
  · skip
    have hb : t ≤ 0 ∨ nI (N.2.1 1) < t := Or.inl h6
    refine z_iconst (v := 0) d_Mo_started_28 (by decide) ?_
    refine z_ireturn d_Mo_started_29 rfl ?_ (by decide) (by decide)
    first | exact ⟨by rw [show saM N t = 0 from if_pos hb], rfl⟩ | exact ⟨by rw [show saM N t = N.2.2.1 18 j from by unfold saM; rw [if_neg hb, hj4]]; rfl, rfl⟩
  · skip
    refine z_iload_n d_Mo_started_9 rfl ?_
    refine z_aload_n d_Mo_started_10 rfl ?_
    refine z_get d_Mo_started_11 zf_Mo_90 (zmo_m _ _ _ _) rfl ?_
    refine z_icmp_gt (tgt := 28) d_Mo_started_14 (by decide) (fun h14 => ?_) (fun h14 => ?_)
    · skip
      have hb : t ≤ 0 ∨ nI (N.2.1 1) < t := Or.inr h14
      refine z_iconst (v := 0) d_Mo_started_28 (by decide) ?_
      refine z_ireturn d_Mo_started_29 rfl ?_ (by decide) (by decide)
      first | exact ⟨by rw [show saM N t = 0 from if_pos hb], rfl⟩ | exact ⟨by rw [show saM N t = N.2.2.1 18 j from by unfold saM; rw [if_neg hb, hj4]]; rfl, rfl⟩
    · skip
      have hb : ¬ (t ≤ 0 ∨ nI (N.2.1 1) < t) := fun h => h.elim h6 h14
      obtain ⟨j, hj1, hj2, hj3, hj4⟩ := zpos (t := t) (n := N.2.1 1) (by omega) (fun h => h.elim (fun h => h6 (i32_lt1 h)) h14)
      refine z_aload_n d_Mo_started_17 rfl ?_
      refine z_get d_Mo_started_18 zf_Mo_57 (zmo_m _ _ _ _) rfl ?_
      refine z_iload_n d_Mo_started_21 rfl ?_
      refine z_iconst (v := 1) d_Mo_started_22 (by decide) ?_
      refine z_isub d_Mo_started_23 ?_
      rw [show t - 1 = nI j from hj3]
      refine z_iald d_Mo_started_24 (rd_18 hA _) rfl (by first | omega | (dsimp only [sI, sL, sS, sN, sW]; omega) | (simp only [sI, sL, sS, sN, sW, va_up_self]; omega) | (simp [sI, sL, sS, sN, sW, va_up]; omega)) (ri_get (by first | omega | (dsimp only [sI, sL, sS, sN, sW]; omega) | (simp only [sI, sL, sS, sN, sW, va_up_self]; omega) | (simp [sI, sL, sS, sN, sW, va_up]; omega))) ?_
      refine z_goto (tgt := 29) d_Mo_started_25 (by decide) ?_
      refine z_ireturn d_Mo_started_29 rfl ?_ (by decide) (by decide)
      first | exact ⟨by rw [show saM N t = 0 from if_pos hb], rfl⟩ | exact ⟨by rw [show saM N t = N.2.2.1 18 j from by unfold saM; rw [if_neg hb, hj4]]; rfl, rfl⟩
