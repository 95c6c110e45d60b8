set_option maxHeartbeats 4000000 in
set_option maxRecDepth 100000 in
theorem t_AL_fastRemove (g : ZG) (k : ZK) (R : Room) (post : Option Value → ZM → Prop) (M : ZM) (n1 n2 a q i n : Nat) (mc : Int32) (ws : List Value) (ha : M a = some (.inr (6, fAL q (nI (n + 1)) mc))) (hq : M q = some (.inl (0, ws))) (hn : n < ws.length) (hw : ws.length < 2 ^ 31) (h1 : n1 ≤ R.cells) (h2 : n2 ≤ R.slots) (hp : post none (zset (zset M a (.inr (6, fAL q (nI n) mc))) q (.inl (0, ws.set n .null)))) : ZW vcl tlx GT "java/util/ArrayList" b_AL_fastRemove 4 none "fastRemove" R g k post [some (.ref a), some (.ref q), some (.int (nI i)), some (.int (nI n))] 34 [] (M) n1 n2 := by
  have hne := al_ne ha hq
  refine z_aload_n d_AL_fastRemove_34 rfl ?_
  refine z_aload_n d_AL_fastRemove_35 rfl ?_
  refine z_iload_n d_AL_fastRemove_36 rfl ?_
  refine z_dup_x1 d_AL_fastRemove_37 rfl rfl ?_
  refine z_put d_AL_fastRemove_38 zp_AL_48 (ha) rfl rfl ?_
  refine z_null d_AL_fastRemove_41 ?_
  refine z_aastN d_AL_fastRemove_42 (by rw [zset_ne (Ne.symm hne)]; exact hq) rfl (by omega) hn ?_
  refine z_return d_AL_fastRemove_43 rfl ?_ h1 h2
  exact hp
set_option maxHeartbeats 4000000 in
set_option maxRecDepth 100000 in
theorem c_AL_fastRemove (l : Launch) (g : ZG) (M : ZM) (a arr i n : Nat) (mc : Int32) (vs : List Value) (ha : M a = some (.inr (6, fAL arr (nI (n + 1)) mc))) (hr : M arr = some (.inl (0, vs))) (hel : zElems vcl M vs) (hi : i ≤ n) (hn : n < vs.length) (hw : vs.length < 2 ^ 31) : ZC vcl tlx GT l g y_AL_fastRemove b_AL_fastRemove 4 none (ZRm 1 0 0) [.ref a, .ref arr, .int (nI i)] M (fun v M' => v = none ∧ M' a = some (.inr (6, fAL arr (nI n) (mc + 1))) ∧ M' arr = some (.inl (0, (zcopy vs vs (i + 1) i (n - i)).set n .null)) ∧ ∀ x, x ≠ a → x ≠ arr → M' x = M x) := by
  refine ZC.of (by decide) (Nat.le_of_ble_eq_true rfl) rfl (fun k hz0 => ?_)
  have hne := al_ne ha hr
  have ha1 : zset M a (.inr (6, fAL arr (nI (n + 1)) (mc + 1))) a = some (.inr (6, fAL arr (nI (n + 1)) (mc + 1))) := zset_self _ _ _
  have hr1 : zset M a (.inr (6, fAL arr (nI (n + 1)) (mc + 1))) arr = some (.inl (0, vs)) := by rw [zset_ne (Ne.symm hne)]; exact hr
  have hel1 : zElems vcl (zset M a (.inr (6, fAL arr (nI (n + 1)) (mc + 1)))) vs := fun v hv => (hel v hv).imp id (fun ⟨b, c, f, r, e, h⟩ => by obtain ⟨c, f, r, h⟩ := zObj.set (fs' := fAL arr (nI (n + 1)) (mc + 1)) (⟨c, f, r, h⟩ : zObj M b) ha; exact ⟨b, c, f, r, e, h⟩)
  refine z_aload_n d_AL_fastRemove_0 rfl ?_
  refine z_dup d_AL_fastRemove_1 rfl ?_
  refine z_get d_AL_fastRemove_2 zf_AL_63 (ha) rfl ?_
  refine z_iconst (v := 1) d_AL_fastRemove_5 (by decide) ?_
  refine z_iadd d_AL_fastRemove_6 ?_
  refine z_put d_AL_fastRemove_7 zp_AL_63 (ha) rfl rfl ?_
  refine z_aload_n d_AL_fastRemove_10 rfl ?_
  refine z_get d_AL_fastRemove_11 zf_AL_48 (ha1) rfl ?_
  refine z_iconst (v := 1) d_AL_fastRemove_14 (by decide) ?_
  refine z_isub d_AL_fastRemove_15 ?_
  rw [nI_pred]
  refine z_dup d_AL_fastRemove_16 rfl ?_
  refine z_istore_n (i := 3) d_AL_fastRemove_17 rfl (by decide) rfl ?_
  refine z_iload_n d_AL_fastRemove_18 rfl ?_
  refine z_icmp_le (tgt := 34) d_AL_fastRemove_19 (by decide) (fun h19 => ?_) (fun h19 => ?_)
  · skip
    have hin : n = i := Nat.le_antisymm (Nat.not_lt.mp fun q => nI_ge q (by omega) h19) hi
    refine t_AL_fastRemove g k _ _ _ _ _ a arr i n (mc + 1) vs ha1 hr1 hn hw (by simp) (by simp) ⟨rfl, ?_, ?_, fun x hx hy => by rw [zset_ne hy, zset_ne hx, zset_ne hx]⟩
    · rw [zset_ne hne, zset_self]
    · rw [zset_self, hin, Nat.sub_self, al_copy0]
    skip
  · skip
    refine z_aload_n d_AL_fastRemove_22 rfl ?_
    refine z_iload_n d_AL_fastRemove_23 rfl ?_
    refine z_iconst (v := 1) d_AL_fastRemove_24 (by decide) ?_
    refine z_iadd d_AL_fastRemove_25 ?_
    rw [nI_1]
    refine z_aload_n d_AL_fastRemove_26 rfl ?_
    refine z_iload_n d_AL_fastRemove_27 rfl ?_
    refine z_iload_n d_AL_fastRemove_28 rfl ?_
    refine z_iload_n d_AL_fastRemove_29 rfl ?_
    refine z_isub d_AL_fastRemove_30 ?_
    rw [pk_sub hi]
    refine z_copy (sp := i + 1) (dp := i) (n := n - i) d_AL_fastRemove_31 gw_358 gw_263 gw_262 gw_46 rfl hr1 hr1 (by omega) (by omega) hw hw (by omega) hel1 (Nat.le_of_ble_eq_true rfl) (Nat.le_of_ble_eq_true rfl) ?_
    refine t_AL_fastRemove g k _ _ _ _ _ a arr i n (mc + 1) _ (by rw [zset_ne hne]; exact ha1) (zset_self _ _ _) (by rw [zcopy_len]; exact hn) (by rw [zcopy_len]; exact hw) (by simp) (by simp) ⟨rfl, ?_, ?_, fun x hx hy => by rw [zset_ne hy, zset_ne hx, zset_ne hy, zset_ne hx]⟩
    · rw [zset_ne hne, zset_self]
    · rw [zset_self]
set_option maxHeartbeats 4000000 in
set_option maxRecDepth 100000 in
theorem c_AL_remove (l : Launch) (g : ZG) (M : ZM) (a arr i : Nat) (es : List Nat) (cap : Nat) (hl : ALr M g.2.2.2.1 a arr es cap) (hc : cap ≤ 1000000) (hes : ∀ e ∈ es, zObj M e) (hi : i < es.length) : ZC vcl tlx GT l g y_AL_remove b_AL_remove 4 (Option.some (FieldType.object "java/lang/Object")) (ZRm 2 0 0) [.ref a, .int (nI i)] M (fun v M' => v = some (.ref es[i]) ∧ ALr M' g.2.2.2.1 a arr (es.eraseIdx i) cap ∧ ∀ x, x ≠ a → x ≠ arr → M' x = M x) := by
  refine ZC.of (by decide) (Nat.le_of_ble_eq_true rfl) rfl (fun k hz0 => ?_)
  obtain ⟨⟨mc, ha⟩, hr, hle, hz⟩ := hl
  have hln : es.length = (es.length - 1) + 1 := by omega
  have hlE : (es.eraseIdx i).length = es.length - 1 := by rw [List.length_eraseIdx, if_pos hi]
  have hvl : (es.map Value.ref ++ List.replicate (cap - es.length) Value.null).length = cap := by simp; omega
  have hvi : (es.map Value.ref ++ List.replicate (cap - es.length) Value.null)[i]? = some (.ref es[i]) := by rw [List.getElem?_append_left (by simpa using hi)]; simp [hi]
  refine z_iload_n d_AL_remove_0 rfl ?_
  refine z_aload_n d_AL_remove_1 rfl ?_
  refine z_get d_AL_remove_2 zf_AL_48 (ha) rfl ?_
  refine z_callS gt_good d_AL_remove_5 zs_AL_118 (fun l => c_Ob_checkIndex l g M i es.length hi (by omega)) rfl rfl ⟨Nat.le_of_ble_eq_true rfl, Nat.le_of_ble_eq_true rfl⟩ (Nat.le_of_ble_eq_true rfl) (Nat.le_of_ble_eq_true rfl) (Nat.le_of_ble_eq_true rfl) ?_
  rintro _ _ ⟨rfl, rfl⟩
  refine z_pop d_AL_remove_8 rfl ?_
  refine z_aload_n d_AL_remove_9 rfl ?_
  refine z_get d_AL_remove_10 zf_AL_9 (ha) rfl ?_
  refine z_astore_n (i := 2) d_AL_remove_13 rfl (by decide) rfl ?_
  refine z_aload_n d_AL_remove_14 rfl ?_
  refine z_iload_n d_AL_remove_15 rfl ?_
  refine z_aald d_AL_remove_16 hr rfl rfl (by omega) hvi ?_
  refine z_astore_n (i := 3) d_AL_remove_17 rfl (by decide) rfl ?_
  refine z_aload_n d_AL_remove_18 rfl ?_
  refine z_aload_n d_AL_remove_19 rfl ?_
  refine z_iload_n d_AL_remove_20 rfl ?_
  refine z_callV gt_good d_AL_remove_21 zv_AL_144 (ha) rfl (fun l => c_AL_fastRemove l g M a arr i (es.length - 1) mc _ (by rw [← hln]; exact ha) hr (al_elems _ hes) (by omega) (by omega) (by omega)) rfl rfl ⟨Nat.le_of_ble_eq_true rfl, Nat.le_of_ble_eq_true rfl⟩ (Nat.le_of_ble_eq_true rfl) (Nat.le_of_ble_eq_true rfl) (Nat.le_of_ble_eq_true rfl) ?_
  rintro _ M' ⟨rfl, h1, h2, h3⟩
  refine z_aload_n d_AL_remove_24 rfl ?_
  refine z_areturn d_AL_remove_25 rfl (by simp) (by simp) ?_ (by decide) (by decide)
  refine ⟨rfl, ⟨⟨mc + 1, by rw [h1, hlE]⟩, ?_, by omega, hz⟩, h3⟩
  rw [h2, al_rem es i _ hi, hlE, show cap - es.length + 1 = cap - (es.length - 1) by omega]
set_option maxHeartbeats 4000000 in
set_option maxRecDepth 100000 in
theorem lp_AL_clear (g : ZG) (k : ZK) (R : Room) (post : Option Value → ZM → Prop) (M : ZM) (n1 n2 a q n : Nat) (ws : List Value) (hn : n ≤ ws.length) (hw : ws.length < 2 ^ 31) (h1 : n1 ≤ R.cells) (h2 : n2 ≤ R.slots) (hp : post none (zset M q (.inl (0, List.replicate n .null ++ ws.drop n)))) : ∀ (d j : Nat), n - j = d → j ≤ n → ZW vcl tlx GT "java/util/ArrayList" b_AL_clear 4 none "clear" R g k post [some (.ref a), some (.ref q), some (.int (nI n)), some (.int (nI j))] 27 [] (zset M q (.inl (0, List.replicate j .null ++ ws.drop j))) n1 n2 := by
  intro d
  induction d with
  | zero =>
    intro j hd hj
    obtain rfl : j = n := by omega
    refine z_iload_n d_AL_clear_27 rfl ?_
    refine z_iload_n d_AL_clear_28 rfl ?_
    refine z_icmp_ge (tgt := 42) d_AL_clear_29 (by decide) (fun h29 => ?_) (fun h29 => (h29 (nI_le (Nat.le_refl _) (by omega))).elim)
    refine z_return d_AL_clear_42 rfl ?_ h1 h2
    exact hp
  | succ d ih =>
    intro j hd hj
    refine z_iload_n d_AL_clear_27 rfl ?_
    refine z_iload_n d_AL_clear_28 rfl ?_
    refine z_icmp_ge (tgt := 42) d_AL_clear_29 (by decide) (fun h29 => (nI_ge (show j < n by omega) (by omega) h29).elim) (fun h29 => ?_)
    refine z_aload_n d_AL_clear_32 rfl ?_
    refine z_iload_n d_AL_clear_33 rfl ?_
    refine z_null d_AL_clear_34 ?_
    refine z_aastN d_AL_clear_35 (zset_self _ _ _) rfl (by omega) (by simp; omega) ?_
    rw [zset_zset, al_wipe ws .null j (by omega)]
    refine z_iinc (v := nI (j + 1)) d_AL_clear_36 rfl (nI_1 j) (by decide) rfl ?_
    refine z_goto (tgt := 27) d_AL_clear_39 (by decide) ?_
    exact ih (j + 1) (by omega) (by omega)
set_option maxHeartbeats 4000000 in
set_option maxRecDepth 100000 in
theorem c_AL_clear (l : Launch) (g : ZG) (M : ZM) (a arr : Nat) (es : List Nat) (cap : Nat) (hl : ALr M g.2.2.2.1 a arr es cap) (hc : cap ≤ 1000000) : ZC vcl tlx GT l g y_AL_clear b_AL_clear 4 none (ZRm 0 0 0) [.ref a] M (fun v M' => v = none ∧ ALr M' g.2.2.2.1 a arr [] cap ∧ ∀ x, x ≠ a → x ≠ arr → M' x = M x) := by
  refine ZC.of (by decide) (Nat.le_of_ble_eq_true rfl) rfl (fun k hz0 => ?_)
  obtain ⟨⟨mc, ha⟩, hr, hle, hz⟩ := hl
  have hne := al_ne ha hr
  generalize hvs : es.map Value.ref ++ List.replicate (cap - es.length) Value.null = vs at hr
  have hvl : vs.length = cap := by rw [← hvs]; simp; omega
  have ha1 : zset M a (.inr (6, fAL arr (nI es.length) (mc + 1))) a = some (.inr (6, fAL arr (nI es.length) (mc + 1))) := zset_self _ _ _
  refine z_aload_n d_AL_clear_0 rfl ?_
  refine z_dup d_AL_clear_1 rfl ?_
  refine z_get d_AL_clear_2 zf_AL_63 (ha) rfl ?_
  refine z_iconst (v := 1) d_AL_clear_5 (by decide) ?_
  refine z_iadd d_AL_clear_6 ?_
  refine z_put d_AL_clear_7 zp_AL_63 (ha) rfl rfl ?_
  refine z_aload_n d_AL_clear_10 rfl ?_
  refine z_get d_AL_clear_11 zf_AL_9 (ha1) rfl ?_
  refine z_astore_n (i := 1) d_AL_clear_14 rfl (by decide) rfl ?_
  refine z_aload_n d_AL_clear_15 rfl ?_
  refine z_get d_AL_clear_16 zf_AL_48 (ha1) rfl ?_
  refine z_istore_n (i := 2) d_AL_clear_19 rfl (by decide) rfl ?_
  refine z_aload_n d_AL_clear_20 rfl ?_
  refine z_iconst (v := 0) d_AL_clear_21 (by decide) ?_
  refine z_dup_x1 d_AL_clear_22 rfl rfl ?_
  refine z_put d_AL_clear_23 zp_AL_48 (ha1) rfl rfl ?_
  refine z_istore_n (i := 3) d_AL_clear_26 rfl (by decide) rfl ?_
  rw [zset_zset]
  have hr1 : zset M a (.inr (6, fAL arr (nI 0) (mc + 1))) arr = some (.inl (0, List.replicate 0 Value.null ++ vs.drop 0)) := by rw [zset_ne (Ne.symm hne)]; exact hr
  have hw := lp_AL_clear g k (ZRm 0 0 0) (fun v M' => v = none ∧ ALr M' g.2.2.2.1 a arr [] cap ∧ ∀ x, x ≠ a → x ≠ arr → M' x = M x) (zset M a (.inr (6, fAL arr (nI 0) (mc + 1)))) 0 0 a arr es.length vs (by omega) (by omega) (by simp) (by simp) ?_ (es.length - 0) 0 rfl (by omega)
  · rw [zset_id hr1] at hw
    exact hw
  · refine ⟨rfl, ⟨⟨mc + 1, by rw [zset_ne hne, zset_self]; rfl⟩, ?_, by simp, hz⟩, fun x hx hy => by rw [zset_ne hy, zset_ne hx]⟩
    rw [zset_self, ← hvs, List.drop_left' (by simp), List.replicate_append_replicate]
    simp
    omega
set_option maxHeartbeats 4000000 in
set_option maxRecDepth 100000 in
theorem lp_Ar_fill (g : ZG) (k : ZK) (R : Room) (post : Option Value → ZM → Prop) (M : ZM) (n1 n2 q : Nat) (x : Int32) (ws : List Value) (hw : ws.length < 2 ^ 31) (h1 : n1 ≤ R.cells) (h2 : n2 ≤ R.slots) (hp : post none (zset M q (.inl (1, List.replicate ws.length (.int x))))) : ∀ (d j : Nat), ws.length - j = d → j ≤ ws.length → ZW vcl tlx GT "java/util/Arrays" b_Ar_fill 4 none "fill" R g k post [some (.ref q), some (.int x), some (.int (nI j)), some (.int (nI ws.length))] 5 [] (zset M q (.inl (1, List.replicate j (.int x) ++ ws.drop j))) n1 n2 := by
  intro d
  induction d with
  | zero =>
    intro j hd hj
    obtain rfl : j = ws.length := by omega
    refine z_iload_n d_Ar_fill_5 rfl ?_
    refine z_iload_n d_Ar_fill_6 rfl ?_
    refine z_icmp_ge (tgt := 20) d_Ar_fill_7 (by decide) (fun h7 => ?_) (fun h7 => (h7 (nI_le (Nat.le_refl _) (by omega))).elim)
    refine z_return d_Ar_fill_20 rfl ?_ h1 h2
    rw [List.drop_length, List.append_nil]
    exact hp
  | succ d ih =>
    intro j hd hj
    refine z_iload_n d_Ar_fill_5 rfl ?_
    refine z_iload_n d_Ar_fill_6 rfl ?_
    refine z_icmp_ge (tgt := 20) d_Ar_fill_7 (by decide) (fun h7 => (nI_ge (show j < ws.length by omega) (by omega) h7).elim) (fun h7 => ?_)
    refine z_aload_n d_Ar_fill_10 rfl ?_
    refine z_iload_n d_Ar_fill_11 rfl ?_
    refine z_iload_n d_Ar_fill_12 rfl ?_
    refine z_iast d_Ar_fill_13 (zset_self _ _ _) rfl (by omega) (by simp; omega) ?_
    rw [zset_zset, al_wipe ws (.int x) j (by omega)]
    refine z_iinc (v := nI (j + 1)) d_Ar_fill_14 rfl (nI_1 j) (by decide) rfl ?_
    refine z_goto (tgt := 5) d_Ar_fill_17 (by decide) ?_
    exact ih (j + 1) (by omega) (by omega)
set_option maxHeartbeats 4000000 in
set_option maxRecDepth 100000 in
theorem c_Ar_fill (l : Launch) (g : ZG) (M : ZM) (q : Nat) (x : Int32) (ws : List Value) (hr : M q = some (.inl (1, ws))) (hw : ws.length < 2 ^ 31) : ZC vcl tlx GT l g y_Ar_fill b_Ar_fill 4 none (ZRm 0 0 0) [.ref q, .int x] M (fun v M' => v = none ∧ M' = zset M q (.inl (1, List.replicate ws.length (.int x)))) := by
  refine ZC.of (by decide) (Nat.le_of_ble_eq_true rfl) rfl (fun k hz0 => ?_)
  refine z_iconst (v := 0) d_Ar_fill_0 (by decide) ?_
  refine z_istore_n (i := 2) d_Ar_fill_1 rfl (by decide) rfl ?_
  refine z_aload_n d_Ar_fill_2 rfl ?_
  refine z_alen d_Ar_fill_3 (hr) rfl ?_
  refine z_istore_n (i := 3) d_Ar_fill_4 rfl (by decide) rfl ?_
  have hr1 : M q = some (.inl (1, List.replicate 0 (.int x) ++ ws.drop 0)) := hr
  have hh := lp_Ar_fill g k (ZRm 0 0 0) (fun v M' => v = none ∧ M' = zset M q (.inl (1, List.replicate ws.length (.int x)))) M 0 0 q x ws hw (by simp) (by simp) ⟨rfl, rfl⟩ (ws.length - 0) 0 rfl (by omega)
  rw [zset_id hr1] at hh
  exact hh
