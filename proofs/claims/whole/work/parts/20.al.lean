abbrev fAL (arr : Nat) (n mc : Int32) : List Value := [.ref arr, .int n, .int mc]
abbrev ZRm (f c s : Nat) : Room := { frames := f, cells := c, slots := s, locals := 30 * f }
set_option maxHeartbeats 4000000 in
set_option maxRecDepth 100000 in
theorem c_AL_size (l : Launch) (g : ZG) (M : ZM) (a arr : Nat) (n mc : Int32) (ha : M a = some (.inr (6, fAL arr n mc))) : ZC vcl tlx GT l g y_AL_size b_AL_size 1 (Option.some FieldType.int) (ZRm 0 0 0) [.ref a] M (fun v M' => v = some (.int n) ∧ M = M') := by
  refine ZC.of (by decide) (Nat.le_of_ble_eq_true rfl) rfl (fun k hz0 => ?_)
  refine z_aload_n d_AL_size_0 rfl ?_
  refine z_get d_AL_size_1 zf_AL_48 (by assumption) rfl ?_
  refine z_ireturn d_AL_size_4 rfl ?_ (by decide) (by decide)
  exact ⟨rfl, rfl⟩
set_option maxHeartbeats 4000000 in
set_option maxRecDepth 100000 in
theorem c_AL_isEmpty (l : Launch) (g : ZG) (M : ZM) (a arr : Nat) (n mc : Int32) (ha : M a = some (.inr (6, fAL arr n mc))) : ZC vcl tlx GT l g y_AL_isEmpty b_AL_isEmpty 1 (Option.some FieldType.boolean) (ZRm 0 0 0) [.ref a] M (fun v M' => v = some (.int (if n = 0 then 1 else 0)) ∧ M = M') := by
  refine ZC.of (by decide) (Nat.le_of_ble_eq_true rfl) rfl (fun k hz0 => ?_)
  refine z_aload_n d_AL_isEmpty_0 rfl ?_
  refine z_get d_AL_isEmpty_1 zf_AL_48 (by assumption) rfl ?_
  refine z_if_ne (tgt := 11) d_AL_isEmpty_4 (by decide) (fun h4 => ?_) (fun h4 => ?_)
  · skip
    refine z_iconst (v := 0) d_AL_isEmpty_11 (by decide) ?_
    refine z_zreturn d_AL_isEmpty_12 rfl (by decide) ?_ (by decide) (by decide)
    exact ⟨by simp [h4], rfl⟩
  · skip
    refine z_iconst (v := 1) d_AL_isEmpty_7 (by decide) ?_
    refine z_goto (tgt := 12) d_AL_isEmpty_8 (by decide) ?_
    refine z_zreturn d_AL_isEmpty_12 rfl (by decide) ?_ (by decide) (by decide)
    exact ⟨by simp [h4], rfl⟩
set_option maxHeartbeats 4000000 in
set_option maxRecDepth 100000 in
theorem c_Pr_checkIndex (l : Launch) (g : ZG) (M : ZM) (i cnt : Nat) (hi : i < cnt) (hc : cnt < 2 ^ 31) : ZC vcl tlx GT l g y_Pr_checkIndex b_Pr_checkIndex 3 (Option.some FieldType.int) (ZRm 0 0 0) [.int (nI i), .int (nI cnt), .null] M (fun v M' => M = M' ∧ v = some (.int (nI i))) := by
  refine ZC.of (by decide) (Nat.le_of_ble_eq_true rfl) rfl (fun k hz0 => ?_)
  refine z_iload_n d_Pr_checkIndex_0 rfl ?_
  refine z_if_lt (tgt := 9) d_Pr_checkIndex_1 (by decide) (fun h1 => (nI_pos (by omega) h1).elim) (fun h1 => ?_)
  refine z_iload_n d_Pr_checkIndex_4 rfl ?_
  refine z_iload_n d_Pr_checkIndex_5 rfl ?_
  refine z_icmp_lt (tgt := 16) d_Pr_checkIndex_6 (by decide) (fun h6 => ?_) (fun h6 => ?_)
  · skip
    refine z_iload_n d_Pr_checkIndex_16 rfl ?_
    refine z_ireturn d_Pr_checkIndex_17 rfl ?_ (by decide) (by decide)
    exact ⟨rfl, rfl⟩
  · skip
    exact absurd (nI_lt hi hc) h6
set_option maxHeartbeats 4000000 in
set_option maxRecDepth 100000 in
theorem c_Ob_checkIndex (l : Launch) (g : ZG) (M : ZM) (i cnt : Nat) (hi : i < cnt) (hc : cnt < 2 ^ 31) : ZC vcl tlx GT l g y_Ob_checkIndex b_Ob_checkIndex 2 (Option.some FieldType.int) (ZRm 1 0 0) [.int (nI i), .int (nI cnt)] M (fun v M' => M = M' ∧ v = some (.int (nI i))) := by
  refine ZC.of (by decide) (Nat.le_of_ble_eq_true rfl) rfl (fun k hz0 => ?_)
  refine z_iload_n d_Ob_checkIndex_0 rfl ?_
  refine z_iload_n d_Ob_checkIndex_1 rfl ?_
  refine z_null d_Ob_checkIndex_2 ?_
  refine z_callS gt_good d_Ob_checkIndex_3 zs_Ob_105 (fun l => c_Pr_checkIndex l g M i cnt hi hc) rfl rfl ⟨Nat.le_of_ble_eq_true rfl, Nat.le_of_ble_eq_true rfl⟩ (Nat.le_of_ble_eq_true rfl) (Nat.le_of_ble_eq_true rfl) (Nat.le_of_ble_eq_true rfl) ?_
  rintro _ _ ⟨rfl, rfl⟩
  refine z_ireturn d_Ob_checkIndex_6 rfl ?_ (by decide) (by decide)
  exact ⟨rfl, rfl⟩
set_option maxHeartbeats 4000000 in
set_option maxRecDepth 100000 in
theorem c_AL_elementData (l : Launch) (g : ZG) (M : ZM) (a arr : Nat) (n mc : Int32) (vs : List Value) (i b : Nat) (ha : M a = some (.inr (6, fAL arr n mc))) (hr : M arr = some (.inl (0, vs))) (hi : i < 2 ^ 31) (hv : vs[i]? = some (.ref b)) : ZC vcl tlx GT l g y_AL_elementData b_AL_elementData 2 (Option.some (FieldType.object "java/lang/Object")) (ZRm 0 0 0) [.ref a, .int (nI i)] M (fun v M' => M = M' ∧ v = some (.ref b)) := by
  refine ZC.of (by decide) (Nat.le_of_ble_eq_true rfl) rfl (fun k hz0 => ?_)
  refine z_aload_n d_AL_elementData_0 rfl ?_
  refine z_get d_AL_elementData_1 zf_AL_9 (by assumption) rfl ?_
  refine z_iload_n d_AL_elementData_4 rfl ?_
  refine z_aald d_AL_elementData_5 hr rfl rfl hi hv ?_
  refine z_areturn d_AL_elementData_6 rfl (by simp) (by simp) ?_ (by decide) (by decide)
  exact ⟨rfl, rfl⟩
set_option maxHeartbeats 4000000 in
set_option maxRecDepth 100000 in
theorem c_AL_get (l : Launch) (g : ZG) (M : ZM) (a arr cnt : Nat) (mc : Int32) (vs : List Value) (i b : Nat) (ha : M a = some (.inr (6, fAL arr (nI cnt) mc))) (hr : M arr = some (.inl (0, vs))) (hi : i < cnt) (hc : cnt < 2 ^ 31) (hv : vs[i]? = some (.ref b)) : ZC vcl tlx GT l g y_AL_get b_AL_get 2 (Option.some (FieldType.object "java/lang/Object")) (ZRm 2 0 0) [.ref a, .int (nI i)] M (fun v M' => M = M' ∧ v = some (.ref b)) := by
  refine ZC.of (by decide) (Nat.le_of_ble_eq_true rfl) rfl (fun k hz0 => ?_)
  refine z_iload_n d_AL_get_0 rfl ?_
  refine z_aload_n d_AL_get_1 rfl ?_
  refine z_get d_AL_get_2 zf_AL_48 (by assumption) rfl ?_
  refine z_callS gt_good d_AL_get_5 zs_AL_118 (fun l => c_Ob_checkIndex l g M i cnt hi hc) rfl rfl ⟨Nat.le_of_ble_eq_true rfl, Nat.le_of_ble_eq_true rfl⟩ (Nat.le_of_ble_eq_true rfl) (Nat.le_of_ble_eq_true rfl) (Nat.le_of_ble_eq_true rfl) ?_
  rintro _ _ ⟨rfl, rfl⟩
  refine z_pop d_AL_get_8 rfl ?_
  refine z_aload_n d_AL_get_9 rfl ?_
  refine z_iload_n d_AL_get_10 rfl ?_
  refine z_callV gt_good d_AL_get_11 zv_AL_123 (by assumption) rfl (fun l => c_AL_elementData l g M a arr (nI cnt) mc vs i b ha hr (by omega) hv) rfl rfl ⟨Nat.le_of_ble_eq_true rfl, Nat.le_of_ble_eq_true rfl⟩ (Nat.le_of_ble_eq_true rfl) (Nat.le_of_ble_eq_true rfl) (Nat.le_of_ble_eq_true rfl) ?_
  rintro _ _ ⟨rfl, rfl⟩
  refine z_areturn d_AL_get_14 rfl (by simp) (by simp) ?_ (by decide) (by decide)
  exact ⟨rfl, rfl⟩
