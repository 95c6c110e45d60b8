set_option maxHeartbeats 4000000 in
set_option maxRecDepth 100000 in
theorem c_Qu_init (l : Launch) (g : ZG) (M : ZM) (a : Nat) (ha : M a = some (.inr (1, [.null, .null, .int 0, .int 0, .int 0, .long 0, .int 0, .int 0, .long 0, .null]))) : ZC vcl tlx GT l g y_Qu_init b_Qu_init 1 none (ZRm 4 2 11) [.ref a] M (fun r M' => ∃ q1 q2 : Nat, r = none ∧ M q1 = none ∧ M q2 = none ∧ q1 ≠ q2 ∧ M' a = some (.inr (1, fQ q1 q2 (-1) 0 0 0 0 0 0 .null)) ∧ M' q1 = some (.inr (6, fAL g.2.2.2.1 0 0)) ∧ M' q2 = some (.inl (1, List.replicate 8 (.int 0))) ∧ ∀ x, x ≠ a → x ≠ q1 → x ≠ q2 → M' x = M x) := by
  refine ZC.of (by decide) (Nat.le_of_ble_eq_true rfl) rfl (fun k hz0 => ?_)
  refine z_aload_n d_Qu_init_0 rfl ?_
  refine z_objInit d_Qu_init_1 gw_76 gw_62 gw_63 (Nat.le_of_ble_eq_true rfl) (Nat.le_of_ble_eq_true rfl) ?_
  refine z_aload_n d_Qu_init_4 rfl ?_
  refine z_new (ci := 6) (fs := [.null, .int 0, .int 0]) d_Qu_init_5 ⟨_, T_AL, 3, ty_AL, rfl, in_AL, zl_AL, gw_77, gw_78, gw_41, rfl, by decide⟩ (by simp) (by simp) (fun q1 hq1 => ?_)
  have hne1 : a ≠ q1 := zfresh_ne ha hq1
  refine z_dup d_Qu_init_8 rfl ?_
  refine z_callI gt_good d_Qu_init_9 zi_Qu_11 (fun l => c_AL_init l g _ q1 (.int 0) (.int 0) (zset_self _ _ _)) rfl rfl ⟨Nat.le_of_ble_eq_true rfl, Nat.le_of_ble_eq_true rfl⟩ (Nat.le_of_ble_eq_true rfl) (by simp) (by simp) ?_
  rintro _ _ ⟨rfl, rfl⟩
  rw [zset_zset]
  refine z_putF d_Qu_init_12 zp_Qu_12 rfl (by rw [zset_ne hne1]; exact ha) rfl rfl ?_
  refine z_aload_n d_Qu_init_15 rfl ?_
  refine z_bipush (v := 8) d_Qu_init_16 (by decide) ?_
  refine z_newarr (t := 1) (N := 8) (ty := .int) d_Qu_init_18 rfl gw_142 rfl (fun _ _ h => h) (by decide) (by decide) (by simp) (by simp) (by decide) (fun q2 hq2 => ?_)
  have hq2a := zset_none hq2
  have hq2b := zset_none hq2a
  have hne2 : a ≠ q2 := zfresh_ne ha hq2b
  have hne3 : q1 ≠ q2 := zfresh_ne (zset_self _ _ _) hq2a
  refine z_putF d_Qu_init_20 zp_Qu_18 rfl (by rw [zset_ne hne2]; exact zset_self _ _ _) rfl rfl ?_
  refine z_aload_n d_Qu_init_23 rfl ?_
  refine z_iconst (v := (-1)) d_Qu_init_24 (by decide) ?_
  refine z_put d_Qu_init_25 zp_Qu_22 (zset_self _ _ _) rfl rfl ?_
  refine z_return d_Qu_init_28 rfl ?_ (by simp) (by simp)
  refine ⟨q1, q2, rfl, hq1, hq2b, hne3, zset_self _ _ _, ?_, ?_, fun x h1 h2 h3 => ?_⟩
  · rw [zset_ne (Ne.symm hne1), zset_ne (Ne.symm hne1), zset_ne hne3, zset_ne (Ne.symm hne1), zset_self]
  · rw [zset_ne (Ne.symm hne2), zset_ne (Ne.symm hne2), zset_self]; rfl
  · rw [zset_ne h1, zset_ne h1, zset_ne h3, zset_ne h1, zset_ne h2]
set_option maxHeartbeats 4000000 in
set_option maxRecDepth 100000 in
theorem c_Qu_becomeEmpty (l : Launch) (g : ZG) (M : ZM) (a la pa : Nat) (kd pe ho : Int32) (us : Int64) (ln tn : Int32) (tv : Int64) (tr : Value) (arr : Nat) (es : List Nat) (cap : Nat) (ws : List Value) (ha : M a = some (.inr (1, fQ la pa kd pe ho us ln tn tv tr))) (hl : ALr M g.2.2.2.1 la arr es cap) (hp : M pa = some (.inl (1, ws))) (hc : cap ≤ 1000000) (hw : ws.length < 2 ^ 31) : ZC vcl tlx GT l g y_Qu_becomeEmpty b_Qu_becomeEmpty 1 none (ZRm 1 0 0) [.ref a] M (fun r M' => r = none ∧ M' a = some (.inr (1, fQ la pa (-1) pe ho us ln tn tv tr)) ∧ ALr M' g.2.2.2.1 la arr [] cap ∧ M' pa = some (.inl (1, List.replicate ws.length (.int 0))) ∧ ∀ x, x ≠ a → x ≠ la → x ≠ arr → x ≠ pa → M' x = M x) := by
  refine ZC.of (by decide) (Nat.le_of_ble_eq_true rfl) rfl (fun k hz0 => ?_)
  have hl0 := hl
  obtain ⟨⟨mc, hla⟩, hr, hle, hz⟩ := hl0
  have n1 : a ≠ la := zne ha hla (by intro h; cases h)
  have n2 : a ≠ arr := zne ha hr (by intro h; cases h)
  have n3 : pa ≠ la := zne hp hla (by intro h; cases h)
  have n4 : pa ≠ arr := zne hp hr (by simp)
  have n5 : a ≠ pa := zne ha hp (by intro h; cases h)
  refine z_aload_n d_Qu_becomeEmpty_0 rfl ?_
  refine z_get d_Qu_becomeEmpty_1 zf_Qu_12 (ha) rfl ?_
  refine z_callV gt_good d_Qu_becomeEmpty_4 zv_Qu_99 (hla) rfl (fun l => c_AL_clear l g M la arr es cap hl hc) rfl rfl ⟨Nat.le_of_ble_eq_true rfl, Nat.le_of_ble_eq_true rfl⟩ (Nat.le_of_ble_eq_true rfl) (Nat.le_of_ble_eq_true rfl) (Nat.le_of_ble_eq_true rfl) ?_
  rintro _ M1 ⟨rfl, hl1, hf⟩
  refine z_aload_n d_Qu_becomeEmpty_7 rfl ?_
  refine z_get d_Qu_becomeEmpty_8 zf_Qu_18 (by rw [hf a n1 n2]; exact ha) rfl ?_
  refine z_iconst (v := 0) d_Qu_becomeEmpty_11 (by decide) ?_
  refine z_callS gt_good d_Qu_becomeEmpty_12 zs_Qu_102 (fun l => c_Ar_fill l g M1 pa 0 ws (by rw [hf pa n3 n4]; exact hp) hw) rfl rfl ⟨Nat.le_of_ble_eq_true rfl, Nat.le_of_ble_eq_true rfl⟩ (Nat.le_of_ble_eq_true rfl) (Nat.le_of_ble_eq_true rfl) (Nat.le_of_ble_eq_true rfl) ?_
  rintro _ _ ⟨rfl, rfl⟩
  refine z_aload_n d_Qu_becomeEmpty_15 rfl ?_
  refine z_iconst (v := (-1)) d_Qu_becomeEmpty_16 (by decide) ?_
  refine z_put d_Qu_becomeEmpty_17 zp_Qu_22 (by rw [zset_ne n5, hf a n1 n2]; exact ha) rfl rfl ?_
  refine z_return d_Qu_becomeEmpty_20 rfl ?_ (by decide) (by decide)
  refine ⟨rfl, zset_self _ _ _, hl1.kept ?_ ?_, ?_, fun x h1 h2 h3 h4 => ?_⟩
  · rw [zset_ne (Ne.symm n1), zset_ne (Ne.symm n3)]
  · rw [zset_ne (Ne.symm n2), zset_ne (Ne.symm n4)]
  · rw [zset_ne (Ne.symm n5), zset_self]
  · rw [zset_ne h1, zset_ne h4, hf x h2 h3]
set_option maxHeartbeats 4000000 in
set_option maxRecDepth 100000 in
theorem t_Qu_append (g : ZG) (k : ZK) (R : Room) (post : Option Value → ZM → Prop) (n1 n2 : Nat) (M : ZM) (a la pa : Nat) (kd pe ho : Int32) (us : Int64) (ln tn : Int32) (tv : Int64) (tr : Value) (arr : Nat) (n mc : Int32) (v : Int64) (u : Int32) (ha : M a = some (.inr (1, fQ la pa kd pe ho us ln tn tv tr))) (hl : M la = some (.inr (6, fAL arr n mc))) (hf : 2 ≤ R.frames) (hlo : 60 ≤ R.locals) (h1 : n1 ≤ R.cells) (h2 : n2 ≤ R.slots) (hp1 : ¬ kTrans kd → post (some (.int n)) M) (hp2 : kTrans kd → post (some (.int (ln + 1))) (zset M a (.inr (1, fQ la pa kd pe ho us (ln + 1) tn tv tr)))) : ZW vcl tlx GT "MonitorQueues$Queue" b_Qu_append 5 (Option.some FieldType.int) "append" R g k post [some (.ref a), some (.int kd), some (.long v), none, some (.int u)] 52 [] (M) n1 n2 := by
  refine z_aload_n d_Qu_append_52 rfl ?_
  refine z_callV gt_good d_Qu_append_53 zv_Qu_60 (ha) rfl (fun l => c_Qu_isTransient l g M a la pa kd pe ho us ln tn tv tr ha) rfl rfl ⟨by show 1 + 1 ≤ _; omega, by show 8 + (1 + 11) + 30 ≤ _; omega⟩ (Nat.le_of_ble_eq_true rfl) (by simpa using h1) (by simpa using h2) ?_
  rintro _ _ ⟨rfl, rfl⟩
  refine z_if_ne (tgt := 67) d_Qu_append_56 (by decide) (fun h56 => ?_) (fun h56 => ?_)
  · skip
    refine z_aload_n d_Qu_append_67 rfl ?_
    refine z_dup d_Qu_append_68 rfl ?_
    refine z_get d_Qu_append_69 zf_Qu_64 (ha) rfl ?_
    refine z_iconst (v := 1) d_Qu_append_72 (by decide) ?_
    refine z_iadd d_Qu_append_73 ?_
    refine z_put d_Qu_append_74 zp_Qu_64 (ha) rfl rfl ?_
    refine z_aload_n d_Qu_append_77 rfl ?_
    refine z_get d_Qu_append_78 zf_Qu_64 (zset_self _ _ _) rfl ?_
    refine z_ireturn d_Qu_append_81 rfl ?_ (by simpa using h1) (by simpa using h2)
    exact hp2 (zif1 h56)
  · skip
    refine z_aload_n d_Qu_append_59 rfl ?_
    refine z_get d_Qu_append_60 zf_Qu_12 (ha) rfl ?_
    refine z_callV gt_good d_Qu_append_63 zv_Qu_33 (hl) rfl (fun l => c_AL_size l g M la arr n mc hl) rfl rfl ⟨by show 0 + 1 ≤ _; omega, by show 8 + (1 + 11) + 0 ≤ _; omega⟩ (Nat.le_of_ble_eq_true rfl) (by simpa using h1) (by simpa using h2) ?_
    rintro _ _ ⟨rfl, rfl⟩
    refine z_ireturn d_Qu_append_66 rfl ?_ (by simpa using h1) (by simpa using h2)
    exact hp1 (zif0 h56)
set_option maxHeartbeats 4000000 in
set_option maxRecDepth 100000 in
theorem c_Qu_append (l : Launch) (g : ZG) (M : ZM) (a la pa : Nat) (kd pe ho : Int32) (us : Int64) (ln tn : Int32) (tv : Int64) (tr : Value) (w : Int32) (v : Int64) (u : Int32) (arr : Nat) (es : List Nat) (cap : Nat) (ha : M a = some (.inr (1, fQ la pa kd pe ho us ln tn tv tr))) (hl : ALr M g.2.2.2.1 la arr es cap) (hc : cap ≤ 1000000) (hes : ∀ e ∈ es, ∃ x : Int64, M e = some (.inr (2, [.long x]))) : ZC vcl tlx GT l g y_Qu_append b_Qu_append 5 (Option.some FieldType.int) (ZRm 7 (if es.length < cap then 1 else 2) (if es.length < cap then 1 else 1 + capA es.length cap)) [.ref a, .int w, .long v, .int u] M (fun r M' => ∃ q arr' : Nat, M q = none ∧ (arr' = arr ∨ M arr' = none) ∧ q ≠ arr' ∧ arr' ≠ g.2.2.2.1 ∧ r = some (.int (if kTrans w then ln + 1 else nI (es.length + 1))) ∧ M' a = some (.inr (1, fQ la pa w (if kProt w ∧ ¬ u = 0 then pe + 1 else pe) (if kProt w ∧ ¬ u = 0 then u else ho) us (if kTrans w then ln + 1 else ln) tn tv tr)) ∧ ALr M' g.2.2.2.1 la arr' (es ++ [q]) (capA es.length cap) ∧ M' q = some (.inr (2, [.long v])) ∧ ∀ x, x ≠ a → x ≠ la → x ≠ arr' → x ≠ q → M' x = M x) := by
  refine ZC.of (by decide) (Nat.le_of_ble_eq_true rfl) rfl (fun k hz0 => ?_)
  have hl0 := hl
  obtain ⟨⟨mc, hla⟩, hr, hle, hz⟩ := hl0
  have n1 : a ≠ la := zne ha hla (by intro h; cases h)
  have n2 : a ≠ arr := zne ha hr (by intro h; cases h)
  refine z_aload_n d_Qu_append_0 rfl ?_
  refine z_iload_n d_Qu_append_1 rfl ?_
  refine z_put d_Qu_append_2 zp_Qu_22 (ha) rfl rfl ?_
  refine z_aload_n d_Qu_append_5 rfl ?_
  refine z_get d_Qu_append_6 zf_Qu_12 (zset_self _ _ _) rfl ?_
  refine z_new (ci := 2) (fs := [.long 0]) d_Qu_append_9 ⟨_, T_It, 1, ty_It, rfl, in_It, zl_It, gw_202, gw_203, gw_43, rfl, by decide⟩ (by simp; split <;> simp) (by simp; split <;> simp <;> omega) (fun q hq => ?_)
  have hqM := zset_none hq
  have n7 : a ≠ q := zfresh_ne ha hqM
  have nlq : la ≠ q := zfresh_ne hla hqM
  have nrq : arr ≠ q := zfresh_ne hr hqM
  refine z_dup d_Qu_append_12 rfl ?_
  refine z_lload_n d_Qu_append_13 rfl ?_
  refine z_callI gt_good d_Qu_append_14 zi_Qu_47 (fun l => c_It_init l g _ q (.long 0) v (zset_self _ _ _)) rfl rfl ⟨Nat.le_of_ble_eq_true rfl, Nat.le_of_ble_eq_true rfl⟩ (Nat.le_of_ble_eq_true rfl) (by simp; split <;> simp) (by simp; split <;> simp <;> omega) ?_
  rintro _ _ ⟨rfl, rfl⟩
  rw [zset_zset]
  have h3 : ∀ x, x ≠ a → x ≠ q → zset (zset M a (.inr (1, fQ la pa w pe ho us ln tn tv tr))) q (.inr (2, [.long v])) x = M x := fun x h1 h2 => by rw [zset_ne h2, zset_ne h1]
  refine z_callV gt_good d_Qu_append_17 zv_Qu_50 ((h3 la (Ne.symm n1) nlq).trans hla) rfl (fun l => c_AL_add l g _ la arr q es cap (hl.kept (h3 la (Ne.symm n1) nlq) (h3 arr (Ne.symm n2) nrq)) hc (fun e he => by obtain ⟨x, hx⟩ := hes e he; exact (zObj.it hx).kept (h3 e (Ne.symm (zne ha hx (by intro h; cases h))) (zfresh_ne hx hqM))) (zObj.it (zset_self _ _ _))) rfl rfl ⟨Nat.le_of_ble_eq_true rfl, Nat.le_of_ble_eq_true rfl⟩ (Nat.le_of_ble_eq_true rfl) (by simp; split <;> simp) (by simp; split <;> simp) ?_
  rintro _ M4 ⟨arr', rfl, hq4, hqz, hl4, hk4⟩
  have hqq : arr' = arr ∨ M arr' = none := hq4.imp id (fun h => zset_none (zset_none h))
  have n6 : a ≠ arr' := by
    rcases hqq with e | e
    · rw [e]; exact n2
    · exact zfresh_ne ha e
  have hqr : q ≠ arr' := by
    rcases hq4 with e | e
    · rw [e]; exact Ne.symm nrq
    · exact zfresh_ne (zset_self _ _ _) e
  have h4a : M4 a = some (.inr (1, fQ la pa w pe ho us ln tn tv tr)) := by rw [hk4 a n1 n6, zset_ne n7, zset_self]; rfl
  have h4q : M4 q = some (.inr (2, [.long v])) := by rw [hk4 q (Ne.symm nlq) hqr, zset_self]
  have hf4 : ∀ x, x ≠ a → x ≠ la → x ≠ arr' → x ≠ q → M4 x = M x := fun x h1 h2 h4 h5 => (hk4 x h2 h4).trans (h3 x h1 h5)
  obtain ⟨⟨mc4, hla4⟩, hr4, hle4⟩ := id hl4
  refine z_pop d_Qu_append_20 rfl ?_
  refine z_aload_n d_Qu_append_21 rfl ?_
  refine z_get d_Qu_append_22 zf_Qu_22 (h4a) rfl ?_
  refine z_callS gt_good d_Qu_append_25 zs_Qu_54 (fun l => c_Qu_isProtectedKind l g M4 w) rfl rfl ⟨Nat.le_of_ble_eq_true rfl, Nat.le_of_ble_eq_true rfl⟩ (Nat.le_of_ble_eq_true rfl) (by simp; split <;> simp) (by simp; split <;> simp) ?_
  rintro _ _ ⟨rfl, rfl⟩
  refine z_if_eq (tgt := 52) d_Qu_append_28 (by decide) (fun h28 => ?_) (fun h28 => ?_)
  · skip
    have hpr : ¬ kProt w := zif0 h28
    refine t_Qu_append g k _ _ _ _ (M4) a la pa w (pe) ho us ln tn tv tr arr' (nI (es ++ [q]).length) mc4 v u h4a hla4 (Nat.le_of_ble_eq_true rfl) (Nat.le_of_ble_eq_true rfl) (by simp; split <;> simp) (by simp; split <;> simp <;> omega) (fun ht => ?_) (fun ht => ?_)
    · skip
      refine ⟨q, arr', hqM, hqq, hqr, hqz, by simp [ht], by simp [ht, hpr]; exact h4a, hl4.kept (rfl) (rfl), h4q, fun x hx1 hx2 hx3 hx4 => hf4 x hx1 hx2 hx3 hx4⟩
    · skip
      refine ⟨q, arr', hqM, hqq, hqr, hqz, by simp [ht], by simp [ht, hpr, zset_self], hl4.kept (zset_ne (Ne.symm n1)) (zset_ne (Ne.symm n6)), by rw [zset_ne (Ne.symm n7)]; exact h4q, fun x hx1 hx2 hx3 hx4 => by rw [zset_ne hx1, hf4 x hx1 hx2 hx3 hx4]⟩
    skip
  · skip
    have hpr0 : kProt w := zif1 h28
    refine z_iload d_Qu_append_31 rfl ?_
    refine z_if_eq (tgt := 52) d_Qu_append_33 (by decide) (fun h33 => ?_) (fun h33 => ?_)
    · skip
      have hpr : u = 0 := h33
      refine t_Qu_append g k _ _ _ _ (M4) a la pa w (pe) ho us ln tn tv tr arr' (nI (es ++ [q]).length) mc4 v u h4a hla4 (Nat.le_of_ble_eq_true rfl) (Nat.le_of_ble_eq_true rfl) (by simp; split <;> simp) (by simp; split <;> simp <;> omega) (fun ht => ?_) (fun ht => ?_)
      · skip
        refine ⟨q, arr', hqM, hqq, hqr, hqz, by simp [ht], by simp [ht, hpr]; exact h4a, hl4.kept (rfl) (rfl), h4q, fun x hx1 hx2 hx3 hx4 => hf4 x hx1 hx2 hx3 hx4⟩
      · skip
        refine ⟨q, arr', hqM, hqq, hqr, hqz, by simp [ht], by simp [ht, hpr, zset_self], hl4.kept (zset_ne (Ne.symm n1)) (zset_ne (Ne.symm n6)), by rw [zset_ne (Ne.symm n7)]; exact h4q, fun x hx1 hx2 hx3 hx4 => by rw [zset_ne hx1, hf4 x hx1 hx2 hx3 hx4]⟩
      skip
    · skip
      have hpr : kProt w ∧ ¬ u = 0 := ⟨hpr0, h33⟩
      refine z_aload_n d_Qu_append_36 rfl ?_
      refine z_iload d_Qu_append_37 rfl ?_
      refine z_put d_Qu_append_39 zp_Qu_57 (h4a) rfl rfl ?_
      refine z_aload_n d_Qu_append_42 rfl ?_
      refine z_dup d_Qu_append_43 rfl ?_
      refine z_get d_Qu_append_44 zf_Qu_30 (zset_self _ _ _) rfl ?_
      refine z_iconst (v := 1) d_Qu_append_47 (by decide) ?_
      refine z_iadd d_Qu_append_48 ?_
      refine z_put d_Qu_append_49 zp_Qu_30 (zset_self _ _ _) rfl rfl ?_
      rw [zset_zset]
      refine t_Qu_append g k _ _ _ _ (zset M4 a (.inr (1, fQ la pa w (pe + 1) u us ln tn tv tr))) a la pa w (pe + 1) u us ln tn tv tr arr' (nI (es ++ [q]).length) mc4 v u (zset_self _ _ _) (by rw [zset_ne (Ne.symm n1)]; exact hla4) (Nat.le_of_ble_eq_true rfl) (Nat.le_of_ble_eq_true rfl) (by simp; split <;> simp) (by simp; split <;> simp <;> omega) (fun ht => ?_) (fun ht => ?_)
      · skip
        refine ⟨q, arr', hqM, hqq, hqr, hqz, by simp [ht], by simp [ht, hpr, zset_self], hl4.kept (zset_ne (Ne.symm n1)) (zset_ne (Ne.symm n6)), by rw [zset_ne (Ne.symm n7)]; exact h4q, fun x hx1 hx2 hx3 hx4 => by rw [zset_ne hx1, hf4 x hx1 hx2 hx3 hx4]⟩
      · rw [zset_zset]
        refine ⟨q, arr', hqM, hqq, hqr, hqz, by simp [ht], by simp [ht, hpr, zset_self], hl4.kept (zset_ne (Ne.symm n1)) (zset_ne (Ne.symm n6)), by rw [zset_ne (Ne.symm n7)]; exact h4q, fun x hx1 hx2 hx3 hx4 => by rw [zset_ne hx1, hf4 x hx1 hx2 hx3 hx4]⟩
