set_option maxHeartbeats 4000000 in
set_option maxRecDepth 100000 in
theorem c_AC_init (l : Launch) (g : ZG) (M : ZM) (a : Nat)  : ZC vcl tlx GT l g y_AC_init b_AC_init 1 none (ZRm 1 0 0) [.ref a] M (fun v M' => M = M' ∧ v = none) := by
  refine ZC.of (by decide) (Nat.le_of_ble_eq_true rfl) rfl (fun k hz0 => ?_)
  refine z_aload_n d_AC_init_0 rfl ?_
  refine z_objInit d_AC_init_1 gw_88 gw_62 gw_63 (Nat.le_of_ble_eq_true rfl) (Nat.le_of_ble_eq_true rfl) ?_
  refine z_return d_AC_init_4 rfl ?_ (by decide) (by decide)
  exact ⟨rfl, rfl⟩
set_option maxHeartbeats 4000000 in
set_option maxRecDepth 100000 in
theorem c_AB_init (l : Launch) (g : ZG) (M : ZM) (a : Nat) (v0 v1 v2 : Value) (ha : M a = some (.inr (6, [v0, v1, v2]))) : ZC vcl tlx GT l g y_AB_init b_AB_init 1 none (ZRm 2 0 0) [.ref a] M (fun v M' => v = none ∧ M' = zset M a (.inr (6, [v0, v1, .int 0]))) := by
  refine ZC.of (by decide) (Nat.le_of_ble_eq_true rfl) rfl (fun k hz0 => ?_)
  refine z_aload_n d_AB_init_0 rfl ?_
  refine z_callI gt_good d_AB_init_1 zi_AB_1 (fun l => c_AC_init l g M a) rfl rfl ⟨Nat.le_of_ble_eq_true rfl, Nat.le_of_ble_eq_true rfl⟩ (Nat.le_of_ble_eq_true rfl) (Nat.le_of_ble_eq_true rfl) (Nat.le_of_ble_eq_true rfl) ?_
  rintro _ _ ⟨rfl, rfl⟩
  refine z_aload_n d_AB_init_4 rfl ?_
  refine z_iconst (v := 0) d_AB_init_5 (by decide) ?_
  refine z_put d_AB_init_6 zp_AB_7 (by assumption) rfl rfl ?_
  refine z_return d_AB_init_9 rfl ?_ (by decide) (by decide)
  exact ⟨rfl, rfl⟩
set_option maxHeartbeats 4000000 in
set_option maxRecDepth 100000 in
theorem c_AL_init (l : Launch) (g : ZG) (M : ZM) (a : Nat) (v1 v2 : Value) (ha : M a = some (.inr (6, [.null, .int 0, v2]))) : ZC vcl tlx GT l g y_AL_init b_AL_init 1 none (ZRm 3 0 0) [.ref a] M (fun v M' => v = none ∧ M' = zset M a (.inr (6, fAL g.2.2.2.1 0 0))) := by
  refine ZC.of (by decide) (Nat.le_of_ble_eq_true rfl) rfl (fun k hz0 => ?_)
  refine z_aload_n d_AL_init_0 rfl ?_
  refine z_callI gt_good d_AL_init_1 zi_AL_1 (fun l => c_AB_init l g M a _ _ _ ha) rfl rfl ⟨Nat.le_of_ble_eq_true rfl, Nat.le_of_ble_eq_true rfl⟩ (Nat.le_of_ble_eq_true rfl) (Nat.le_of_ble_eq_true rfl) (Nat.le_of_ble_eq_true rfl) ?_
  rintro _ _ ⟨rfl, rfl⟩
  refine z_aload_n d_AL_init_4 rfl ?_
  refine z_gets d_AL_init_5 gw_89 ?_
  refine z_put d_AL_init_8 zp_AL_9 (zset_self _ _ _) rfl rfl ?_
  refine z_return d_AL_init_11 rfl ?_ (by decide) (by decide)
  exact ⟨rfl, by rw [zset_zset]; rfl⟩
set_option maxHeartbeats 4000000 in
set_option maxRecDepth 100000 in
theorem c_AS_newLength (l : Launch) (g : ZG) (M : ZM) (o x y : Nat) (h1 : 0 < o + max x y) (h2 : o + max x y ≤ 2147483639) (hx : x < 2 ^ 31) (hy : y < 2 ^ 31) : ZC vcl tlx GT l g y_AS_newLength b_AS_newLength 4 (Option.some FieldType.int) (ZRm 1 0 0) [.int (nI o), .int (nI x), .int (nI y)] M (fun v M' => M = M' ∧ v = some (.int (nI (o + max x y)))) := by
  refine ZC.of (by decide) (Nat.le_of_ble_eq_true rfl) rfl (fun k hz0 => ?_)
  refine z_iload_n d_AS_newLength_0 rfl ?_
  refine z_iload_n d_AS_newLength_1 rfl ?_
  refine z_iload_n d_AS_newLength_2 rfl ?_
  refine z_mmax d_AS_newLength_3 gw_233 gw_68 gw_37 gw_69 (Nat.le_of_ble_eq_true rfl) (Nat.le_of_ble_eq_true rfl) (Nat.le_of_ble_eq_true rfl) (Nat.le_of_ble_eq_true rfl) ?_
  rw [nI_max hx hy]
  refine z_iadd d_AS_newLength_6 ?_
  rw [nI_add]
  refine z_istore_n (i := 3) d_AS_newLength_7 rfl (by decide) rfl ?_
  refine z_iconst (v := 0) d_AS_newLength_8 (by decide) ?_
  refine z_iload_n d_AS_newLength_9 rfl ?_
  refine z_icmp_ge (tgt := 21) d_AS_newLength_10 (by decide) (fun h10 => False.elim (nI_nle h1 (by omega) h10)) (fun h10 => ?_)
  refine z_iload_n d_AS_newLength_13 rfl ?_
  refine z_ldc d_AS_newLength_14 gw_234 ?_
  refine z_icmp_gt (tgt := 21) d_AS_newLength_16 (by decide) (fun h16 => False.elim (nI_nlt h2 (by decide) h16)) (fun h16 => ?_)
  refine z_iload_n d_AS_newLength_19 rfl ?_
  refine z_ireturn d_AS_newLength_20 rfl ?_ (by decide) (by decide)
  exact ⟨rfl, rfl⟩
set_option maxHeartbeats 4000000 in
set_option maxRecDepth 100000 in
theorem c_Ar_copyOf2 (l : Launch) (g : ZG) (M : ZM) (arr m : Nat) (vs : List Value) (hr : M arr = some (.inl (0, vs))) (hel : zElems vcl M vs) (hm : vs.length ≤ m) (h0 : 0 < m) (hM : m < 2 ^ 27) : ZC vcl tlx GT l g y_Ar_copyOf2 b_Ar_copyOf2 4 (Option.some (FieldType.array (FieldType.object "java/lang/Object"))) (ZRm 1 1 m) [.ref arr, .int (nI m), .ref g.2.2.2.2.1] M (fun v M' => ∃ q : Nat, v = some (.ref q) ∧ M q = none ∧ M' = zset M q (.inl (0, vs ++ List.replicate (m - vs.length) .null))) := by
  refine ZC.of (by decide) (Nat.le_of_ble_eq_true rfl) rfl (fun k hz0 => ?_)
  refine z_aload_n d_Ar_copyOf2_0 rfl ?_
  refine z_ldcM d_Ar_copyOf2_1 gw_257 ?_
  refine z_acmpR_ne (tgt := 13) d_Ar_copyOf2_3 (by decide) (fun h => absurd rfl h) (fun _ => ?_)
  refine z_iload_n d_Ar_copyOf2_6 rfl ?_
  refine z_anew (t := 0) d_Ar_copyOf2_7 gw_259 (by decide) rfl rfl hM (Nat.le_of_ble_eq_true rfl) (by simp) (fun q hq => ?_)
  have hrq : zset M q (.inl (0, List.replicate m .null)) arr = some (.inl (0, vs)) := by rw [zset_ne (zfresh_ne hr hq)]; exact hr
  refine z_goto (tgt := 24) d_Ar_copyOf2_10 (by decide) ?_
  refine z_astore_n (i := 3) d_Ar_copyOf2_24 rfl (by decide) rfl ?_
  refine z_aload_n d_Ar_copyOf2_25 rfl ?_
  refine z_iconst (v := 0) d_Ar_copyOf2_26 (by decide) ?_
  refine z_aload_n d_Ar_copyOf2_27 rfl ?_
  refine z_iconst (v := 0) d_Ar_copyOf2_28 (by decide) ?_
  refine z_aload_n d_Ar_copyOf2_29 rfl ?_
  refine z_alen d_Ar_copyOf2_30 (hrq) rfl ?_
  refine z_iload_n d_Ar_copyOf2_31 rfl ?_
  refine z_mmin d_Ar_copyOf2_32 gw_260 gw_65 gw_37 gw_66 (Nat.le_of_ble_eq_true rfl) (Nat.le_of_ble_eq_true rfl) (by simp) (by simp) ?_
  rw [nI_min (by omega) (by omega), Nat.min_eq_left hm]
  refine z_copy (sp := 0) (dp := 0) d_Ar_copyOf2_35 gw_261 gw_263 gw_262 gw_46 rfl hrq (zset_self _ _ _) (by omega) (by simp; omega) (by omega) (by simp; omega) (by simp; omega) (hel.fresh hq) (Nat.le_of_ble_eq_true rfl) (Nat.le_of_ble_eq_true rfl) ?_
  refine z_aload_n d_Ar_copyOf2_38 rfl ?_
  refine z_areturn d_Ar_copyOf2_39 rfl (by simp) (by simp) ?_ (by simp) (by simp)
  exact ⟨q, rfl, hq, by rw [zset_zset, zcopy_grow vs hm]⟩
set_option maxHeartbeats 4000000 in
set_option maxRecDepth 100000 in
theorem c_Ar_copyOf (l : Launch) (g : ZG) (M : ZM) (arr m : Nat) (vs : List Value) (hr : M arr = some (.inl (0, vs))) (hel : zElems vcl M vs) (hm : vs.length ≤ m) (h0 : 0 < m) (hM : m < 2 ^ 27) : ZC vcl tlx GT l g y_Ar_copyOf b_Ar_copyOf 2 (Option.some (FieldType.array (FieldType.object "java/lang/Object"))) (ZRm 2 1 m) [.ref arr, .int (nI m)] M (fun v M' => ∃ q : Nat, v = some (.ref q) ∧ M q = none ∧ M' = zset M q (.inl (0, vs ++ List.replicate (m - vs.length) .null))) := by
  refine ZC.of (by decide) (Nat.le_of_ble_eq_true rfl) rfl (fun k hz0 => ?_)
  refine z_aload_n d_Ar_copyOf_0 rfl ?_
  refine z_iload_n d_Ar_copyOf_1 rfl ?_
  refine z_aload_n d_Ar_copyOf_2 rfl ?_
  refine z_getC d_Ar_copyOf_3 gw_241 gw_808 gw_242 gw_253 hr rfl (Nat.le_of_ble_eq_true rfl) (Nat.le_of_ble_eq_true rfl) ?_
  refine z_callS gt_good d_Ar_copyOf_6 zs_Ar_300 (fun l => c_Ar_copyOf2 l g M arr m vs hr hel hm h0 hM) rfl rfl ⟨Nat.le_of_ble_eq_true rfl, Nat.le_of_ble_eq_true rfl⟩ (Nat.le_of_ble_eq_true rfl) (by simp) (by simp) ?_
  rintro _ _ ⟨q, rfl, hq, rfl⟩
  refine z_areturn d_Ar_copyOf_9 rfl (by simp) (by simp) ?_ (by simp) (by simp)
  exact ⟨q, rfl, hq, rfl⟩
set_option maxHeartbeats 4000000 in
set_option maxRecDepth 100000 in
theorem c_AL_grow2n (l : Launch) (g : ZG) (M : ZM) (a arr : Nat) (mc : Int32) (vs : List Value) (ha : M a = some (.inr (6, fAL arr (nI vs.length) mc))) (hr : M arr = some (.inl (0, vs))) (hel : zElems vcl M vs) (h0 : 0 < vs.length) (hc : vs.length ≤ 1000000) : ZC vcl tlx GT l g y_AL_grow2 b_AL_grow2 4 (Option.some (FieldType.array (FieldType.object "java/lang/Object"))) (ZRm 3 1 (capA vs.length vs.length)) [.ref a, .int (nI (vs.length + 1))] M (fun v M' => ∃ q : Nat, v = some (.ref q) ∧ M q = none ∧ M' = zset (zset M q (.inl (0, vs ++ List.replicate (capA vs.length vs.length - vs.length) .null))) a (.inr (6, fAL q (nI vs.length) mc))) := by
  refine ZC.of (by decide) (Nat.le_of_ble_eq_true rfl) rfl (fun k hz0 => ?_)
  have ec : capA vs.length vs.length = vs.length + max 1 (vs.length / 2) := by unfold capA; rw [if_neg (by omega), if_neg (by omega)]
  refine z_aload_n d_AL_grow2_0 rfl ?_
  refine z_get d_AL_grow2_1 zf_AL_9 (by assumption) rfl ?_
  refine z_alen d_AL_grow2_4 (by assumption) rfl ?_
  refine z_istore_n (i := 2) d_AL_grow2_5 rfl (by decide) rfl ?_
  refine z_iload_n d_AL_grow2_6 rfl ?_
  refine z_if_gt (tgt := 20) d_AL_grow2_7 (by decide) (fun h7 => ?_) (fun h7 => False.elim (h7 (nI_gt0 h0 (by omega))))
  refine z_iload_n d_AL_grow2_20 rfl ?_
  refine z_iload_n d_AL_grow2_21 rfl ?_
  refine z_iload_n d_AL_grow2_22 rfl ?_
  refine z_isub d_AL_grow2_23 ?_
  refine z_iload_n d_AL_grow2_24 rfl ?_
  refine z_iconst (v := 1) d_AL_grow2_25 (by decide) ?_
  refine z_ishr d_AL_grow2_26 ?_
  rw [pk_sub (by omega), nI_half (by omega), show vs.length + 1 - vs.length = 1 from by omega]
  refine z_callS gt_good d_AL_grow2_27 zs_AL_73 (fun l => c_AS_newLength l g M vs.length 1 (vs.length / 2) (by omega) (by omega) (by decide) (by omega)) rfl rfl ⟨Nat.le_of_ble_eq_true rfl, Nat.le_of_ble_eq_true rfl⟩ (Nat.le_of_ble_eq_true rfl) (by simp) (by simp) ?_
  rintro _ _ ⟨rfl, rfl⟩
  refine z_istore_n (i := 3) d_AL_grow2_30 rfl (by decide) rfl ?_
  refine z_aload_n d_AL_grow2_31 rfl ?_
  refine z_aload_n d_AL_grow2_32 rfl ?_
  refine z_get d_AL_grow2_33 zf_AL_9 (by assumption) rfl ?_
  refine z_iload_n d_AL_grow2_36 rfl ?_
  refine z_callS gt_good d_AL_grow2_37 zs_AL_66 (fun l => c_Ar_copyOf l g M arr (vs.length + max 1 (vs.length / 2)) vs hr hel (by omega) (by omega) (by omega)) rfl rfl ⟨Nat.le_of_ble_eq_true rfl, Nat.le_of_ble_eq_true rfl⟩ (Nat.le_of_ble_eq_true rfl) (by simp) (by simp [ec]) ?_
  rintro _ _ ⟨q, rfl, hq, rfl⟩
  have haq : zset M q (.inl (0, vs ++ List.replicate (vs.length + max 1 (vs.length / 2) - vs.length) .null)) a = some (.inr (6, fAL arr (nI vs.length) mc)) := by rw [zset_ne (zfresh_ne ha hq)]; exact ha
  refine z_dup_x1 d_AL_grow2_40 rfl rfl ?_
  refine z_put d_AL_grow2_41 zp_AL_9 (haq) rfl rfl ?_
  refine z_areturn d_AL_grow2_44 rfl (by simp) (by simp) ?_ (by simp) (by simp [ec])
  exact ⟨q, rfl, hq, by rw [ec]; rfl⟩
set_option maxHeartbeats 4000000 in
set_option maxRecDepth 100000 in
theorem c_AL_grow20 (l : Launch) (g : ZG) (M : ZM) (a arr : Nat) (mc : Int32) (ha : M a = some (.inr (6, fAL arr (nI ([] : List Value).length) mc))) (hr : M arr = some (.inl (0, []))) (hz : arr = g.2.2.2.1) : ZC vcl tlx GT l g y_AL_grow2 b_AL_grow2 4 (Option.some (FieldType.array (FieldType.object "java/lang/Object"))) (ZRm 3 1 (capA ([] : List Value).length ([] : List Value).length)) [.ref a, .int (nI (([] : List Value).length + 1))] M (fun v M' => ∃ q : Nat, v = some (.ref q) ∧ M q = none ∧ M' = zset (zset M q (.inl (0, ([] : List Value) ++ List.replicate (capA ([] : List Value).length ([] : List Value).length - ([] : List Value).length) .null))) a (.inr (6, fAL q (nI ([] : List Value).length) mc))) := by
  refine ZC.of (by decide) (Nat.le_of_ble_eq_true rfl) rfl (fun k hz0 => ?_)
  refine z_aload_n d_AL_grow2_0 rfl ?_
  refine z_get d_AL_grow2_1 zf_AL_9 (by assumption) rfl ?_
  refine z_alen d_AL_grow2_4 (by assumption) rfl ?_
  refine z_istore_n (i := 2) d_AL_grow2_5 rfl (by decide) rfl ?_
  refine z_iload_n d_AL_grow2_6 rfl ?_
  refine z_if_gt (tgt := 20) d_AL_grow2_7 (by decide) (fun h7 => False.elim (nI_nlt (Nat.le_refl 0) (by decide) h7)) (fun h7 => ?_)
  refine z_aload_n d_AL_grow2_10 rfl ?_
  refine z_get d_AL_grow2_11 zf_AL_9 (by assumption) rfl ?_
  refine z_gets d_AL_grow2_14 gw_89 ?_
  refine z_acmpR_eq (tgt := 45) d_AL_grow2_17 (by decide) (fun _ => ?_) (fun h => absurd hz h)
  refine z_aload_n d_AL_grow2_45 rfl ?_
  refine z_bipush (v := 10) d_AL_grow2_46 (by decide) ?_
  refine z_iload_n d_AL_grow2_48 rfl ?_
  refine z_mmax d_AL_grow2_49 gw_264 gw_68 gw_37 gw_69 (Nat.le_of_ble_eq_true rfl) (Nat.le_of_ble_eq_true rfl) (by simp) (by simp) ?_
  refine z_anew (t := 0) (N := 10) d_AL_grow2_52 gw_265 (by decide) rfl (by decide) (by decide) (by simp) (by simp [capA]) (fun q hq => ?_)
  have haq : zset M q (.inl (0, List.replicate 10 .null)) a = some (.inr (6, fAL arr (nI ([] : List Value).length) mc)) := by rw [zset_ne (zfresh_ne ha hq)]; exact ha
  refine z_dup_x1 d_AL_grow2_55 rfl rfl ?_
  refine z_put d_AL_grow2_56 zp_AL_9 (haq) rfl rfl ?_
  refine z_areturn d_AL_grow2_59 rfl (by simp) (by simp) ?_ (by simp) (by simp [capA])
  exact ⟨q, rfl, hq, rfl⟩
theorem c_AL_grow2 (l : Launch) (g : ZG) (M : ZM) (a arr : Nat) (mc : Int32) (vs : List Value) (ha : M a = some (.inr (6, fAL arr (nI vs.length) mc))) (hr : M arr = some (.inl (0, vs))) (hel : zElems vcl M vs) (hz : vs = [] → arr = g.2.2.2.1) (hc : vs.length ≤ 1000000) : ZC vcl tlx GT l g y_AL_grow2 b_AL_grow2 4 (Option.some (FieldType.array (FieldType.object "java/lang/Object"))) (ZRm 3 1 (capA vs.length vs.length)) [.ref a, .int (nI (vs.length + 1))] M (fun v M' => ∃ q : Nat, v = some (.ref q) ∧ M q = none ∧ M' = zset (zset M q (.inl (0, vs ++ List.replicate (capA vs.length vs.length - vs.length) .null))) a (.inr (6, fAL q (nI vs.length) mc))) := by
  cases vs with
  | nil => exact c_AL_grow20 l g M a arr mc ha hr (hz rfl)
  | cons v r => exact c_AL_grow2n l g M a arr mc (v :: r) ha hr hel (by simp) hc
set_option maxHeartbeats 4000000 in
set_option maxRecDepth 100000 in
theorem c_AL_grow (l : Launch) (g : ZG) (M : ZM) (a arr : Nat) (mc : Int32) (vs : List Value) (ha : M a = some (.inr (6, fAL arr (nI vs.length) mc))) (hr : M arr = some (.inl (0, vs))) (hel : zElems vcl M vs) (hz : vs = [] → arr = g.2.2.2.1) (hc : vs.length ≤ 1000000) : ZC vcl tlx GT l g y_AL_grow b_AL_grow 1 (Option.some (FieldType.array (FieldType.object "java/lang/Object"))) (ZRm 4 1 (capA vs.length vs.length)) [.ref a] M (fun v M' => ∃ q : Nat, v = some (.ref q) ∧ M q = none ∧ M' = zset (zset M q (.inl (0, vs ++ List.replicate (capA vs.length vs.length - vs.length) .null))) a (.inr (6, fAL q (nI vs.length) mc))) := by
  refine ZC.of (by decide) (Nat.le_of_ble_eq_true rfl) rfl (fun k hz0 => ?_)
  refine z_aload_n d_AL_grow_0 rfl ?_
  refine z_aload_n d_AL_grow_1 rfl ?_
  refine z_get d_AL_grow_2 zf_AL_48 (by assumption) rfl ?_
  refine z_iconst (v := 1) d_AL_grow_5 (by decide) ?_
  refine z_iadd d_AL_grow_6 ?_
  rw [nI_1]
  refine z_callV gt_good d_AL_grow_7 zv_AL_69 (by assumption) rfl (fun l => c_AL_grow2 l g M a arr mc vs ha hr hel hz hc) rfl rfl ⟨Nat.le_of_ble_eq_true rfl, Nat.le_of_ble_eq_true rfl⟩ (Nat.le_of_ble_eq_true rfl) (by simp) (by simp) ?_
  rintro _ _ ⟨q, rfl, hq, rfl⟩
  refine z_areturn d_AL_grow_10 rfl (by simp) (by simp) ?_ (by simp) (by simp)
  exact ⟨q, rfl, hq, rfl⟩
