abbrev fQ (la pa : Nat) (kd pe ho : Int32) (us : Int64) (ln tn : Int32) (tv : Int64) (tr : Value) : List Value := [.ref la, .ref pa, .int kd, .int pe, .int ho, .long us, .int ln, .int tn, .long tv, tr]
abbrev kTrans (kd : Int32) : Prop := ¬ kd = -1 ∧ ¬ kd < 2
abbrev kTemp (kd : Int32) : Prop := ¬ kd = -1 ∧ kd < 2
abbrev kProt (kd : Int32) : Prop := kd = 1 ∨ kd = 3
set_option maxHeartbeats 4000000 in
set_option maxRecDepth 100000 in
theorem c_It_init (l : Launch) (g : ZG) (M : ZM) (a : Nat) (v0 : Value) (v : Int64) (ha : M a = some (.inr (2, [v0]))) : ZC vcl tlx GT l g y_It_init b_It_init 3 none (ZRm 1 0 0) [.ref a, .long v] M (fun r M' => r = none ∧ M' = zset M a (.inr (2, [.long v]))) := by
  refine ZC.of (by decide) (Nat.le_of_ble_eq_true rfl) rfl (fun k hz0 => ?_)
  refine z_aload_n d_It_init_0 rfl ?_
  refine z_objInit d_It_init_1 gw_207 gw_62 gw_63 (Nat.le_of_ble_eq_true rfl) (Nat.le_of_ble_eq_true rfl) ?_
  refine z_aload_n d_It_init_4 rfl ?_
  refine z_lload_n d_It_init_5 rfl ?_
  refine z_put d_It_init_6 zp_It_7 (by assumption) rfl rfl ?_
  refine z_return d_It_init_9 rfl ?_ (by decide) (by decide)
  exact ⟨rfl, rfl⟩
set_option maxHeartbeats 4000000 in
set_option maxRecDepth 100000 in
theorem c_Ta_init (l : Launch) (g : ZG) (M : ZM) (a : Nat) (v0 v1 : Value) (c : Int32) (ha : M a = some (.inr (3, [v0, v1]))) : ZC vcl tlx GT l g y_Ta_init b_Ta_init 2 none (ZRm 1 0 0) [.ref a, .int c] M (fun r M' => r = none ∧ M' = zset M a (.inr (3, [.int c, .int 1]))) := by
  refine ZC.of (by decide) (Nat.le_of_ble_eq_true rfl) rfl (fun k hz0 => ?_)
  refine z_aload_n d_Ta_init_0 rfl ?_
  refine z_objInit d_Ta_init_1 gw_299 gw_62 gw_63 (Nat.le_of_ble_eq_true rfl) (Nat.le_of_ble_eq_true rfl) ?_
  refine z_aload_n d_Ta_init_4 rfl ?_
  refine z_iload_n d_Ta_init_5 rfl ?_
  refine z_putF d_Ta_init_6 zp_Ta_7 rfl (by assumption) rfl rfl ?_
  refine z_aload_n d_Ta_init_9 rfl ?_
  refine z_iconst (v := 1) d_Ta_init_10 (by decide) ?_
  refine z_put d_Ta_init_11 zp_Ta_13 (zset_self _ _ _) rfl rfl ?_
  refine z_return d_Ta_init_14 rfl ?_ (by decide) (by decide)
  exact ⟨rfl, by rw [zset_zset]; rfl⟩
set_option maxHeartbeats 4000000 in
set_option maxRecDepth 100000 in
theorem c_De_init (l : Launch) (g : ZG) (M : ZM) (a : Nat) (v0 v1 v2 : Value) (n c : Int32) (u : Int64) (ha : M a = some (.inr (5, [v0, v1, v2]))) : ZC vcl tlx GT l g y_De_init b_De_init 5 none (ZRm 1 0 0) [.ref a, .int n, .int c, .long u] M (fun r M' => r = none ∧ M' = zset M a (.inr (5, [.int n, .int c, .long u]))) := by
  refine ZC.of (by decide) (Nat.le_of_ble_eq_true rfl) rfl (fun k hz0 => ?_)
  refine z_aload_n d_De_init_0 rfl ?_
  refine z_objInit d_De_init_1 gw_431 gw_62 gw_63 (Nat.le_of_ble_eq_true rfl) (Nat.le_of_ble_eq_true rfl) ?_
  refine z_aload_n d_De_init_4 rfl ?_
  refine z_iload_n d_De_init_5 rfl ?_
  refine z_putF d_De_init_6 zp_De_7 rfl (by assumption) rfl rfl ?_
  refine z_aload_n d_De_init_9 rfl ?_
  refine z_iload_n d_De_init_10 rfl ?_
  refine z_putF d_De_init_11 zp_De_13 rfl (zset_self _ _ _) rfl rfl ?_
  refine z_aload_n d_De_init_14 rfl ?_
  refine z_lload_n d_De_init_15 rfl ?_
  refine z_putF d_De_init_16 zp_De_16 rfl (zset_self _ _ _) rfl rfl ?_
  refine z_return d_De_init_19 rfl ?_ (by decide) (by decide)
  exact ⟨rfl, by rw [zset_zset, zset_zset]; rfl⟩
set_option maxHeartbeats 4000000 in
set_option maxRecDepth 100000 in
theorem c_Tr_init (l : Launch) (g : ZG) (M : ZM) (a : Nat) (v0 v1 v2 v3 v4 : Value) (n c : Int32) (ha : M a = some (.inr (4, [v0, v1, v2, v3, v4]))) : ZC vcl tlx GT l g y_Tr_init b_Tr_init 3 none (ZRm 1 0 0) [.ref a, .int n, .int c] M (fun r M' => r = none ∧ M' = zset M a (.inr (4, [.int n, .int c, .int 1, v3, v4]))) := by
  refine ZC.of (by decide) (Nat.le_of_ble_eq_true rfl) rfl (fun k hz0 => ?_)
  refine z_aload_n d_Tr_init_0 rfl ?_
  refine z_objInit d_Tr_init_1 gw_379 gw_62 gw_63 (Nat.le_of_ble_eq_true rfl) (Nat.le_of_ble_eq_true rfl) ?_
  refine z_aload_n d_Tr_init_4 rfl ?_
  refine z_iload_n d_Tr_init_5 rfl ?_
  refine z_putF d_Tr_init_6 zp_Tr_7 rfl (by assumption) rfl rfl ?_
  refine z_aload_n d_Tr_init_9 rfl ?_
  refine z_iload_n d_Tr_init_10 rfl ?_
  refine z_putF d_Tr_init_11 zp_Tr_13 rfl (zset_self _ _ _) rfl rfl ?_
  refine z_aload_n d_Tr_init_14 rfl ?_
  refine z_iconst (v := 1) d_Tr_init_15 (by decide) ?_
  refine z_put d_Tr_init_16 zp_Tr_16 (zset_self _ _ _) rfl rfl ?_
  refine z_return d_Tr_init_19 rfl ?_ (by decide) (by decide)
  exact ⟨rfl, by rw [zset_zset, zset_zset]; rfl⟩
set_option maxHeartbeats 4000000 in
set_option maxRecDepth 100000 in
theorem c_Qu_isTransientKind (l : Launch) (g : ZG) (M : ZM) (kd : Int32)  : ZC vcl tlx GT l g y_Qu_isTransientKind b_Qu_isTransientKind 1 (Option.some FieldType.boolean) (ZRm 0 0 0) [.int kd] M (fun r M' => M = M' ∧ r = some (.int (if kd < 2 then 0 else 1))) := by
  refine ZC.of (by decide) (Nat.le_of_ble_eq_true rfl) rfl (fun k hz0 => ?_)
  refine z_iload_n d_Qu_isTransientKind_0 rfl ?_
  refine z_iconst (v := 2) d_Qu_isTransientKind_1 (by decide) ?_
  refine z_icmp_lt (tgt := 9) d_Qu_isTransientKind_2 (by decide) (fun h2 => ?_) (fun h2 => ?_)
  · skip
    refine z_iconst (v := 0) d_Qu_isTransientKind_9 (by decide) ?_
    refine z_zreturn d_Qu_isTransientKind_10 rfl (by decide) ?_ (by decide) (by decide)
    exact ⟨rfl, by simp [h2]⟩
  · skip
    refine z_iconst (v := 1) d_Qu_isTransientKind_5 (by decide) ?_
    refine z_goto (tgt := 10) d_Qu_isTransientKind_6 (by decide) ?_
    refine z_zreturn d_Qu_isTransientKind_10 rfl (by decide) ?_ (by decide) (by decide)
    exact ⟨rfl, by simp [h2]⟩
set_option maxHeartbeats 4000000 in
set_option maxRecDepth 100000 in
theorem c_Qu_isProtectedKind (l : Launch) (g : ZG) (M : ZM) (kd : Int32)  : ZC vcl tlx GT l g y_Qu_isProtectedKind b_Qu_isProtectedKind 1 (Option.some FieldType.boolean) (ZRm 0 0 0) [.int kd] M (fun r M' => M = M' ∧ r = some (.int (if kProt kd then 1 else 0))) := by
  refine ZC.of (by decide) (Nat.le_of_ble_eq_true rfl) rfl (fun k hz0 => ?_)
  refine z_iload_n d_Qu_isProtectedKind_0 rfl ?_
  refine z_iconst (v := 1) d_Qu_isProtectedKind_1 (by decide) ?_
  refine z_icmp_eq (tgt := 10) d_Qu_isProtectedKind_2 (by decide) (fun h2 => ?_) (fun h2 => ?_)
  · skip
    refine z_iconst (v := 1) d_Qu_isProtectedKind_10 (by decide) ?_
    refine z_goto (tgt := 15) d_Qu_isProtectedKind_11 (by decide) ?_
    refine z_zreturn d_Qu_isProtectedKind_15 rfl (by decide) ?_ (by decide) (by decide)
    exact ⟨rfl, by first | simp [h2, h7] | simp [h2]⟩
  · skip
    refine z_iload_n d_Qu_isProtectedKind_5 rfl ?_
    refine z_iconst (v := 3) d_Qu_isProtectedKind_6 (by decide) ?_
    refine z_icmp_ne (tgt := 14) d_Qu_isProtectedKind_7 (by decide) (fun h7 => ?_) (fun h7 => ?_)
    · skip
      refine z_iconst (v := 0) d_Qu_isProtectedKind_14 (by decide) ?_
      refine z_zreturn d_Qu_isProtectedKind_15 rfl (by decide) ?_ (by decide) (by decide)
      exact ⟨rfl, by first | simp [h2, h7] | simp [h2]⟩
    · skip
      refine z_iconst (v := 1) d_Qu_isProtectedKind_10 (by decide) ?_
      refine z_goto (tgt := 15) d_Qu_isProtectedKind_11 (by decide) ?_
      refine z_zreturn d_Qu_isProtectedKind_15 rfl (by decide) ?_ (by decide) (by decide)
      exact ⟨rfl, by first | simp [h2, h7] | simp [h2]⟩
set_option maxHeartbeats 4000000 in
set_option maxRecDepth 100000 in
theorem c_Qu_isTransient (l : Launch) (g : ZG) (M : ZM) (a la pa : Nat) (kd pe ho : Int32) (us : Int64) (ln tn : Int32) (tv : Int64) (tr : Value) (ha : M a = some (.inr (1, fQ la pa kd pe ho us ln tn tv tr))) : ZC vcl tlx GT l g y_Qu_isTransient b_Qu_isTransient 1 (Option.some FieldType.boolean) (ZRm 1 0 0) [.ref a] M (fun r M' => M = M' ∧ r = some (.int (if kTrans kd then 1 else 0))) := by
  refine ZC.of (by decide) (Nat.le_of_ble_eq_true rfl) rfl (fun k hz0 => ?_)
  refine z_aload_n d_Qu_isTransient_0 rfl ?_
  refine z_get d_Qu_isTransient_1 zf_Qu_22 (by assumption) rfl ?_
  refine z_iconst (v := (-1)) d_Qu_isTransient_4 (by decide) ?_
  refine z_icmp_eq (tgt := 22) d_Qu_isTransient_5 (by decide) (fun h5 => ?_) (fun h5 => ?_)
  · skip
    refine z_iconst (v := 0) d_Qu_isTransient_22 (by decide) ?_
    refine z_zreturn d_Qu_isTransient_23 rfl (by decide) ?_ (by decide) (by decide)
    exact ⟨rfl, by simp_all⟩
  · skip
    refine z_aload_n d_Qu_isTransient_8 rfl ?_
    refine z_get d_Qu_isTransient_9 zf_Qu_22 (by assumption) rfl ?_
    refine z_callS gt_good d_Qu_isTransient_12 zs_Qu_26 (fun l => c_Qu_isTransientKind l g M kd) rfl rfl ⟨Nat.le_of_ble_eq_true rfl, Nat.le_of_ble_eq_true rfl⟩ (Nat.le_of_ble_eq_true rfl) (Nat.le_of_ble_eq_true rfl) (Nat.le_of_ble_eq_true rfl) ?_
    rintro _ _ ⟨rfl, rfl⟩
    refine z_if_eq (tgt := 22) d_Qu_isTransient_15 (by decide) (fun h15 => ?_) (fun h15 => ?_)
    · skip
      refine z_iconst (v := 0) d_Qu_isTransient_22 (by decide) ?_
      refine z_zreturn d_Qu_isTransient_23 rfl (by decide) ?_ (by decide) (by decide)
      exact ⟨rfl, by simp_all⟩
    · skip
      refine z_iconst (v := 1) d_Qu_isTransient_18 (by decide) ?_
      refine z_goto (tgt := 23) d_Qu_isTransient_19 (by decide) ?_
      refine z_zreturn d_Qu_isTransient_23 rfl (by decide) ?_ (by decide) (by decide)
      exact ⟨rfl, by simp_all⟩
set_option maxHeartbeats 4000000 in
set_option maxRecDepth 100000 in
theorem c_Qu_isTemporary (l : Launch) (g : ZG) (M : ZM) (a la pa : Nat) (kd pe ho : Int32) (us : Int64) (ln tn : Int32) (tv : Int64) (tr : Value) (ha : M a = some (.inr (1, fQ la pa kd pe ho us ln tn tv tr))) : ZC vcl tlx GT l g y_Qu_isTemporary b_Qu_isTemporary 1 (Option.some FieldType.boolean) (ZRm 1 0 0) [.ref a] M (fun r M' => M = M' ∧ r = some (.int (if kTemp kd then 1 else 0))) := by
  refine ZC.of (by decide) (Nat.le_of_ble_eq_true rfl) rfl (fun k hz0 => ?_)
  refine z_aload_n d_Qu_isTemporary_0 rfl ?_
  refine z_get d_Qu_isTemporary_1 zf_Qu_22 (by assumption) rfl ?_
  refine z_iconst (v := (-1)) d_Qu_isTemporary_4 (by decide) ?_
  refine z_icmp_eq (tgt := 22) d_Qu_isTemporary_5 (by decide) (fun h5 => ?_) (fun h5 => ?_)
  · skip
    refine z_iconst (v := 0) d_Qu_isTemporary_22 (by decide) ?_
    refine z_zreturn d_Qu_isTemporary_23 rfl (by decide) ?_ (by decide) (by decide)
    exact ⟨rfl, by simp_all⟩
  · skip
    refine z_aload_n d_Qu_isTemporary_8 rfl ?_
    refine z_get d_Qu_isTemporary_9 zf_Qu_22 (by assumption) rfl ?_
    refine z_callS gt_good d_Qu_isTemporary_12 zs_Qu_26 (fun l => c_Qu_isTransientKind l g M kd) rfl rfl ⟨Nat.le_of_ble_eq_true rfl, Nat.le_of_ble_eq_true rfl⟩ (Nat.le_of_ble_eq_true rfl) (Nat.le_of_ble_eq_true rfl) (Nat.le_of_ble_eq_true rfl) ?_
    rintro _ _ ⟨rfl, rfl⟩
    refine z_if_ne (tgt := 22) d_Qu_isTemporary_15 (by decide) (fun h15 => ?_) (fun h15 => ?_)
    · skip
      refine z_iconst (v := 0) d_Qu_isTemporary_22 (by decide) ?_
      refine z_zreturn d_Qu_isTemporary_23 rfl (by decide) ?_ (by decide) (by decide)
      exact ⟨rfl, by simp_all⟩
    · skip
      refine z_iconst (v := 1) d_Qu_isTemporary_18 (by decide) ?_
      refine z_goto (tgt := 23) d_Qu_isTemporary_19 (by decide) ?_
      refine z_zreturn d_Qu_isTemporary_23 rfl (by decide) ?_ (by decide) (by decide)
      exact ⟨rfl, by simp_all⟩
set_option maxHeartbeats 4000000 in
set_option maxRecDepth 100000 in
theorem c_Qu_isLocked (l : Launch) (g : ZG) (M : ZM) (a la pa : Nat) (kd pe ho : Int32) (us : Int64) (ln tn : Int32) (tv : Int64) (tr : Value) (ha : M a = some (.inr (1, fQ la pa kd pe ho us ln tn tv tr))) : ZC vcl tlx GT l g y_Qu_isLocked b_Qu_isLocked 1 (Option.some FieldType.boolean) (ZRm 0 0 0) [.ref a] M (fun r M' => M = M' ∧ r = some (.int (if pe ≤ 0 then 0 else 1))) := by
  refine ZC.of (by decide) (Nat.le_of_ble_eq_true rfl) rfl (fun k hz0 => ?_)
  refine z_aload_n d_Qu_isLocked_0 rfl ?_
  refine z_get d_Qu_isLocked_1 zf_Qu_30 (by assumption) rfl ?_
  refine z_if_le (tgt := 11) d_Qu_isLocked_4 (by decide) (fun h4 => ?_) (fun h4 => ?_)
  · skip
    refine z_iconst (v := 0) d_Qu_isLocked_11 (by decide) ?_
    refine z_zreturn d_Qu_isLocked_12 rfl (by decide) ?_ (by decide) (by decide)
    exact ⟨rfl, by simp [h4]⟩
  · skip
    refine z_iconst (v := 1) d_Qu_isLocked_7 (by decide) ?_
    refine z_goto (tgt := 12) d_Qu_isLocked_8 (by decide) ?_
    refine z_zreturn d_Qu_isLocked_12 rfl (by decide) ?_ (by decide) (by decide)
    exact ⟨rfl, by simp [h4]⟩
set_option maxHeartbeats 4000000 in
set_option maxRecDepth 100000 in
theorem c_Qu_standing (l : Launch) (g : ZG) (M : ZM) (a la pa : Nat) (kd pe ho : Int32) (us : Int64) (ln tn : Int32) (tv : Int64) (tr : Value) (arr : Nat) (n mc : Int32) (ha : M a = some (.inr (1, fQ la pa kd pe ho us ln tn tv tr))) (hl : M la = some (.inr (6, fAL arr n mc))) : ZC vcl tlx GT l g y_Qu_standing b_Qu_standing 1 (Option.some FieldType.int) (ZRm 1 0 0) [.ref a] M (fun r M' => M = M' ∧ r = some (.int (n - pe))) := by
  refine ZC.of (by decide) (Nat.le_of_ble_eq_true rfl) rfl (fun k hz0 => ?_)
  refine z_aload_n d_Qu_standing_0 rfl ?_
  refine z_get d_Qu_standing_1 zf_Qu_12 (ha) rfl ?_
  refine z_callV gt_good d_Qu_standing_4 zv_Qu_33 (hl) rfl (fun l => c_AL_size l g M la arr n mc hl) rfl rfl ⟨Nat.le_of_ble_eq_true rfl, Nat.le_of_ble_eq_true rfl⟩ (Nat.le_of_ble_eq_true rfl) (Nat.le_of_ble_eq_true rfl) (Nat.le_of_ble_eq_true rfl) ?_
  rintro _ _ ⟨rfl, rfl⟩
  refine z_aload_n d_Qu_standing_7 rfl ?_
  refine z_get d_Qu_standing_8 zf_Qu_30 (ha) rfl ?_
  refine z_isub d_Qu_standing_11 ?_
  refine z_ireturn d_Qu_standing_12 rfl ?_ (by decide) (by decide)
  exact ⟨rfl, rfl⟩
set_option maxHeartbeats 4000000 in
set_option maxRecDepth 100000 in
theorem c_Qu_holds (l : Launch) (g : ZG) (M : ZM) (a la pa : Nat) (kd pe ho : Int32) (us : Int64) (ln tn : Int32) (tv : Int64) (tr : Value) (arr : Nat) (n mc : Int32) (i : Int32) (ha : M a = some (.inr (1, fQ la pa kd pe ho us ln tn tv tr))) (hl : M la = some (.inr (6, fAL arr n mc))) : ZC vcl tlx GT l g y_Qu_holds b_Qu_holds 2 (Option.some FieldType.boolean) (ZRm 1 0 0) [.ref a, .int i] M (fun r M' => M = M' ∧ r = some (.int (if i < 1 ∨ n < i then 0 else 1))) := by
  refine ZC.of (by decide) (Nat.le_of_ble_eq_true rfl) rfl (fun k hz0 => ?_)
  refine z_iload_n d_Qu_holds_0 rfl ?_
  refine z_iconst (v := 1) d_Qu_holds_1 (by decide) ?_
  refine z_icmp_lt (tgt := 20) d_Qu_holds_2 (by decide) (fun h2 => ?_) (fun h2 => ?_)
  · skip
    refine z_iconst (v := 0) d_Qu_holds_20 (by decide) ?_
    refine z_zreturn d_Qu_holds_21 rfl (by decide) ?_ (by decide) (by decide)
    exact ⟨rfl, by first | simp [h2, h13] | simp [h2]⟩
  · skip
    refine z_iload_n d_Qu_holds_5 rfl ?_
    refine z_aload_n d_Qu_holds_6 rfl ?_
    refine z_get d_Qu_holds_7 zf_Qu_12 (ha) rfl ?_
    refine z_callV gt_good d_Qu_holds_10 zv_Qu_33 (hl) rfl (fun l => c_AL_size l g M la arr n mc hl) rfl rfl ⟨Nat.le_of_ble_eq_true rfl, Nat.le_of_ble_eq_true rfl⟩ (Nat.le_of_ble_eq_true rfl) (Nat.le_of_ble_eq_true rfl) (Nat.le_of_ble_eq_true rfl) ?_
    rintro _ _ ⟨rfl, rfl⟩
    refine z_icmp_gt (tgt := 20) d_Qu_holds_13 (by decide) (fun h13 => ?_) (fun h13 => ?_)
    · skip
      refine z_iconst (v := 0) d_Qu_holds_20 (by decide) ?_
      refine z_zreturn d_Qu_holds_21 rfl (by decide) ?_ (by decide) (by decide)
      exact ⟨rfl, by first | simp [h2, h13] | simp [h2]⟩
    · skip
      refine z_iconst (v := 1) d_Qu_holds_16 (by decide) ?_
      refine z_goto (tgt := 21) d_Qu_holds_17 (by decide) ?_
      refine z_zreturn d_Qu_holds_21 rfl (by decide) ?_ (by decide) (by decide)
      exact ⟨rfl, by first | simp [h2, h13] | simp [h2]⟩
set_option maxHeartbeats 4000000 in
set_option maxRecDepth 100000 in
theorem c_Qu_touch (l : Launch) (g : ZG) (M : ZM) (a la pa : Nat) (kd pe ho : Int32) (us : Int64) (ln tn : Int32) (tv : Int64) (tr : Value) (t : Int64) (ha : M a = some (.inr (1, fQ la pa kd pe ho us ln tn tv tr))) : ZC vcl tlx GT l g y_Qu_touch b_Qu_touch 3 none (ZRm 0 0 0) [.ref a, .long t] M (fun r M' => r = none ∧ M' = zset M a (.inr (1, fQ la pa kd pe ho t ln tn tv tr))) := by
  refine ZC.of (by decide) (Nat.le_of_ble_eq_true rfl) rfl (fun k hz0 => ?_)
  refine z_aload_n d_Qu_touch_0 rfl ?_
  refine z_lload_n d_Qu_touch_1 rfl ?_
  refine z_put d_Qu_touch_2 zp_Qu_41 (by assumption) rfl rfl ?_
  refine z_return d_Qu_touch_5 rfl ?_ (by decide) (by decide)
  exact ⟨rfl, rfl⟩
set_option maxHeartbeats 4000000 in
set_option maxRecDepth 100000 in
theorem c_Qu_admitsN (l : Launch) (g : ZG) (M : ZM) (a la pa : Nat) (kd pe ho : Int32) (us : Int64) (ln tn : Int32) (tv : Int64) (w : Int32) (ha : M a = some (.inr (1, fQ la pa kd pe ho us ln tn tv .null))) : ZC vcl tlx GT l g y_Qu_admits b_Qu_admits 2 (Option.some FieldType.boolean) (ZRm 1 0 0) [.ref a, .int w] M (fun r M' => M = M' ∧ r = some (.int (if kd = -1 then 1 else if kd = w then 1 else 0))) := by
  refine ZC.of (by decide) (Nat.le_of_ble_eq_true rfl) rfl (fun k hz0 => ?_)
  refine z_aload_n d_Qu_admits_0 rfl ?_
  refine z_get d_Qu_admits_1 zf_Qu_22 (by assumption) rfl ?_
  refine z_iconst (v := (-1)) d_Qu_admits_4 (by decide) ?_
  refine z_icmp_eq (tgt := 22) d_Qu_admits_5 (by decide) (fun h5 => ?_) (fun h5 => ?_)
  · skip
    refine z_aload_n d_Qu_admits_22 rfl ?_
    refine z_get d_Qu_admits_23 zf_Qu_37 (by assumption) rfl ?_
    refine z_ifnullN (tgt := 36) d_Qu_admits_26 (by decide) ?_
    refine z_iconst (v := 1) d_Qu_admits_36 (by decide) ?_
    refine z_goto (tgt := 41) d_Qu_admits_37 (by decide) ?_
    refine z_zreturn d_Qu_admits_41 rfl (by decide) ?_ (by decide) (by decide)
    exact ⟨rfl, by simp_all⟩
  · skip
    refine z_aload_n d_Qu_admits_8 rfl ?_
    refine z_get d_Qu_admits_9 zf_Qu_22 (by assumption) rfl ?_
    refine z_iload_n d_Qu_admits_12 rfl ?_
    refine z_icmp_ne (tgt := 20) d_Qu_admits_13 (by decide) (fun h13 => ?_) (fun h13 => ?_)
    · skip
      refine z_iconst (v := 0) d_Qu_admits_20 (by decide) ?_
      refine z_zreturn d_Qu_admits_21 rfl (by decide) ?_ (by decide) (by decide)
      exact ⟨rfl, by simp_all⟩
    · skip
      refine z_iconst (v := 1) d_Qu_admits_16 (by decide) ?_
      refine z_goto (tgt := 21) d_Qu_admits_17 (by decide) ?_
      refine z_zreturn d_Qu_admits_21 rfl (by decide) ?_ (by decide) (by decide)
      exact ⟨rfl, by simp_all⟩
set_option maxHeartbeats 4000000 in
set_option maxRecDepth 100000 in
theorem c_Qu_admitsR (l : Launch) (g : ZG) (M : ZM) (a la pa : Nat) (kd pe ho : Int32) (us : Int64) (ln tn : Int32) (tv : Int64) (w : Int32) (t : Nat) (ha : M a = some (.inr (1, fQ la pa kd pe ho us ln tn tv (.ref t)))) : ZC vcl tlx GT l g y_Qu_admits b_Qu_admits 2 (Option.some FieldType.boolean) (ZRm 1 0 0) [.ref a, .int w] M (fun r M' => M = M' ∧ r = some (.int (if kd = -1 then (if w < 2 then 0 else 1) else if kd = w then 1 else 0))) := by
  refine ZC.of (by decide) (Nat.le_of_ble_eq_true rfl) rfl (fun k hz0 => ?_)
  refine z_aload_n d_Qu_admits_0 rfl ?_
  refine z_get d_Qu_admits_1 zf_Qu_22 (by assumption) rfl ?_
  refine z_iconst (v := (-1)) d_Qu_admits_4 (by decide) ?_
  refine z_icmp_eq (tgt := 22) d_Qu_admits_5 (by decide) (fun h5 => ?_) (fun h5 => ?_)
  · skip
    refine z_aload_n d_Qu_admits_22 rfl ?_
    refine z_get d_Qu_admits_23 zf_Qu_37 (by assumption) rfl ?_
    refine z_ifnull d_Qu_admits_26 ?_
    refine z_iload_n d_Qu_admits_29 rfl ?_
    refine z_callS gt_good d_Qu_admits_30 zs_Qu_26 (fun l => c_Qu_isTransientKind l g M w) rfl rfl ⟨Nat.le_of_ble_eq_true rfl, Nat.le_of_ble_eq_true rfl⟩ (Nat.le_of_ble_eq_true rfl) (Nat.le_of_ble_eq_true rfl) (Nat.le_of_ble_eq_true rfl) ?_
    rintro _ _ ⟨rfl, rfl⟩
    refine z_if_eq (tgt := 40) d_Qu_admits_33 (by decide) (fun h33 => ?_) (fun h33 => ?_)
    · skip
      refine z_iconst (v := 0) d_Qu_admits_40 (by decide) ?_
      refine z_zreturn d_Qu_admits_41 rfl (by decide) ?_ (by decide) (by decide)
      exact ⟨rfl, by simp_all⟩
    · skip
      refine z_iconst (v := 1) d_Qu_admits_36 (by decide) ?_
      refine z_goto (tgt := 41) d_Qu_admits_37 (by decide) ?_
      refine z_zreturn d_Qu_admits_41 rfl (by decide) ?_ (by decide) (by decide)
      exact ⟨rfl, by simp_all⟩
  · skip
    refine z_aload_n d_Qu_admits_8 rfl ?_
    refine z_get d_Qu_admits_9 zf_Qu_22 (by assumption) rfl ?_
    refine z_iload_n d_Qu_admits_12 rfl ?_
    refine z_icmp_ne (tgt := 20) d_Qu_admits_13 (by decide) (fun h13 => ?_) (fun h13 => ?_)
    · skip
      refine z_iconst (v := 0) d_Qu_admits_20 (by decide) ?_
      refine z_zreturn d_Qu_admits_21 rfl (by decide) ?_ (by decide) (by decide)
      exact ⟨rfl, by simp_all⟩
    · skip
      refine z_iconst (v := 1) d_Qu_admits_16 (by decide) ?_
      refine z_goto (tgt := 21) d_Qu_admits_17 (by decide) ?_
      refine z_zreturn d_Qu_admits_21 rfl (by decide) ?_ (by decide) (by decide)
      exact ⟨rfl, by simp_all⟩
