set_option maxHeartbeats 4000000 in
set_option maxRecDepth 100000 in
theorem c_MQ_isQueue (l : Launch) (g : ZG) (M : ZM) (x qarr lt lw : Nat) (S : MS) (qs : List Nat) (q : Int32) (hx : M x = some (.inr (0, fM qarr lt lw S))) (hq : M qarr = some (.inl (4, qs.map Value.ref))) (hl : qs.length = 32) : ZC vcl tlx GT l g y_MQ_isQueue b_MQ_isQueue 2 (Option.some FieldType.boolean) (ZRm 0 0 0) [.ref x, .int q] M (fun r M' => M = M' ∧ r = some (.int (if q < 0 ∨ 32 ≤ q then 0 else 1))) := by
  refine ZC.of (by decide) (Nat.le_of_ble_eq_true rfl) rfl (fun k hz0 => ?_)
  refine z_iload_n d_MQ_isQueue_0 rfl ?_
  refine z_if_lt (tgt := 17) d_MQ_isQueue_1 (by decide) (fun h1 => ?_) (fun h1 => ?_)
  · skip
    refine z_iconst (v := 0) d_MQ_isQueue_17 (by decide) ?_
    refine z_zreturn d_MQ_isQueue_18 rfl (by decide) ?_ (by decide) (by decide)
    exact ⟨rfl, by first | simp [h1, h10] | simp [h1]⟩
  · skip
    refine z_iload_n d_MQ_isQueue_4 rfl ?_
    refine z_aload_n d_MQ_isQueue_5 rfl ?_
    refine z_get d_MQ_isQueue_6 zf_MQ_24 (hx) rfl ?_
    refine z_alen d_MQ_isQueue_9 (hq) rfl ?_
    rw [show nI (List.map Value.ref qs).length = 32 by rw [List.length_map, hl]; rfl]
    refine z_icmp_ge (tgt := 17) d_MQ_isQueue_10 (by decide) (fun h10 => ?_) (fun h10 => ?_)
    · skip
      refine z_iconst (v := 0) d_MQ_isQueue_17 (by decide) ?_
      refine z_zreturn d_MQ_isQueue_18 rfl (by decide) ?_ (by decide) (by decide)
      exact ⟨rfl, by first | simp [h1, h10] | simp [h1]⟩
    · skip
      refine z_iconst (v := 1) d_MQ_isQueue_13 (by decide) ?_
      refine z_goto (tgt := 18) d_MQ_isQueue_14 (by decide) ?_
      refine z_zreturn d_MQ_isQueue_18 rfl (by decide) ?_ (by decide) (by decide)
      exact ⟨rfl, by first | simp [h1, h10] | simp [h1]⟩
set_option maxHeartbeats 4000000 in
set_option maxRecDepth 100000 in
theorem c_MQ_isTask (l : Launch) (g : ZG) (M : ZM) (x qarr lt lw : Nat) (S : MS) (arr : Nat) (n mc t : Int32) (hx : M x = some (.inr (0, fM qarr lt lw S))) (hl : M lt = some (.inr (6, fAL arr n mc))) : ZC vcl tlx GT l g y_MQ_isTask b_MQ_isTask 2 (Option.some FieldType.boolean) (ZRm 1 0 0) [.ref x, .int t] M (fun r M' => M = M' ∧ r = some (.int (if t < 1 ∨ n < t then 0 else 1))) := by
  refine ZC.of (by decide) (Nat.le_of_ble_eq_true rfl) rfl (fun k hz0 => ?_)
  refine z_iload_n d_MQ_isTask_0 rfl ?_
  refine z_iconst (v := 1) d_MQ_isTask_1 (by decide) ?_
  refine z_icmp_lt (tgt := 20) d_MQ_isTask_2 (by decide) (fun h2 => ?_) (fun h2 => ?_)
  · skip
    refine z_iconst (v := 0) d_MQ_isTask_20 (by decide) ?_
    refine z_zreturn d_MQ_isTask_21 rfl (by decide) ?_ (by decide) (by decide)
    exact ⟨rfl, by first | simp [h2, h13] | simp [h2]⟩
  · skip
    refine z_iload_n d_MQ_isTask_5 rfl ?_
    refine z_aload_n d_MQ_isTask_6 rfl ?_
    refine z_get d_MQ_isTask_7 zf_MQ_32 (hx) rfl ?_
    refine z_callV gt_good d_MQ_isTask_10 zv_MQ_151 (hl) rfl (fun l => c_AL_size l g M lt arr n mc hl) rfl rfl ⟨Nat.le_of_ble_eq_true rfl, Nat.le_of_ble_eq_true rfl⟩ (Nat.le_of_ble_eq_true rfl) (Nat.le_of_ble_eq_true rfl) (Nat.le_of_ble_eq_true rfl) ?_
    rintro _ _ ⟨rfl, rfl⟩
    refine z_icmp_gt (tgt := 20) d_MQ_isTask_13 (by decide) (fun h13 => ?_) (fun h13 => ?_)
    · skip
      refine z_iconst (v := 0) d_MQ_isTask_20 (by decide) ?_
      refine z_zreturn d_MQ_isTask_21 rfl (by decide) ?_ (by decide) (by decide)
      exact ⟨rfl, by first | simp [h2, h13] | simp [h2]⟩
    · skip
      refine z_iconst (v := 1) d_MQ_isTask_16 (by decide) ?_
      refine z_goto (tgt := 21) d_MQ_isTask_17 (by decide) ?_
      refine z_zreturn d_MQ_isTask_21 rfl (by decide) ?_ (by decide) (by decide)
      exact ⟨rfl, by first | simp [h2, h13] | simp [h2]⟩
set_option maxHeartbeats 4000000 in
set_option maxRecDepth 100000 in
theorem lp_MQ_allItems (g : ZG) (k : ZK) (post : Option Value → ZM → Prop) (M : ZM) (own : Nat → Nat) (x qarr lt lw : Nat) (qs : List Nat) (S : MS) (cap : Nat) (hm : MRep M g.2.2.2.1 own x qarr lt lw qs S cap) (hp : post (some (.int (nI (tot S 32)))) M) : ∀ (d i : Nat), i + d = 32 → ZW vcl tlx GT "MonitorQueues" b_MQ_allItems 3 (Option.some FieldType.int) "allItems" (ZRm 1 0 0) g k post [some (.ref x), some (.int (nI (tot S i))), some (.int (nI i))] 4 [] (M) 0 0 := by
  obtain ⟨⟨hx, hq, hl, -, -⟩, hQ, -, -, -⟩ := hm
  intro d
  induction d with
  | zero =>
    intro i hi
    obtain rfl : i = 32 := by omega
    refine z_iload_n d_MQ_allItems_4 rfl ?_
    refine z_aload_n d_MQ_allItems_5 rfl ?_
    refine z_get d_MQ_allItems_6 zf_MQ_24 (hx) rfl ?_
    refine z_alen d_MQ_allItems_9 (hq) rfl ?_
    rw [show nI (List.map Value.ref qs).length = nI 32 by rw [List.length_map, hl]]
    refine z_icmp_ge (tgt := 34) d_MQ_allItems_10 (by decide) (fun h10 => ?_) (fun h10 => False.elim (h10 (nI_le (Nat.le_refl _) (by decide))))
    refine z_iload_n d_MQ_allItems_34 rfl ?_
    refine z_ireturn d_MQ_allItems_35 rfl ?_ (by decide) (by decide)
    exact hp
  | succ d ih =>
    intro i hi
    obtain ⟨qa, hqa⟩ : ∃ qa, qs[i]? = some qa := ⟨qs[i], List.getElem?_eq_getElem (by omega)⟩
    obtain ⟨la, pa, arr, es, cp, tr, h1, ⟨⟨mc, h2⟩, -⟩, -, ⟨h3, -⟩, -⟩ := hQ i qa hqa
    have hv : (qs.map Value.ref)[i]? = some (.ref qa) := by rw [List.getElem?_map, hqa]; rfl
    refine z_iload_n d_MQ_allItems_4 rfl ?_
    refine z_aload_n d_MQ_allItems_5 rfl ?_
    refine z_get d_MQ_allItems_6 zf_MQ_24 (hx) rfl ?_
    refine z_alen d_MQ_allItems_9 (hq) rfl ?_
    rw [show nI (List.map Value.ref qs).length = nI 32 by rw [List.length_map, hl]]
    refine z_icmp_ge (tgt := 34) d_MQ_allItems_10 (by decide) (fun h10 => False.elim (nI_ge (show i < 32 by omega) (by decide) h10)) (fun h10 => ?_)
    refine z_iload_n d_MQ_allItems_13 rfl ?_
    refine z_aload_n d_MQ_allItems_14 rfl ?_
    refine z_get d_MQ_allItems_15 zf_MQ_24 (hx) rfl ?_
    refine z_iload_n d_MQ_allItems_18 rfl ?_
    refine z_aald d_MQ_allItems_19 hq rfl rfl (by omega) hv ?_
    refine z_get d_MQ_allItems_20 zf_MQ_87 (h1) rfl ?_
    refine z_callV gt_good d_MQ_allItems_23 zv_MQ_151 (h2) rfl (fun l => c_AL_size l g M la arr (nI es.length) mc h2) rfl rfl ⟨Nat.le_of_ble_eq_true rfl, Nat.le_of_ble_eq_true rfl⟩ (Nat.le_of_ble_eq_true rfl) (Nat.le_of_ble_eq_true rfl) (Nat.le_of_ble_eq_true rfl) ?_
    rintro _ _ ⟨rfl, rfl⟩
    rw [h3]
    refine z_iadd d_MQ_allItems_26 ?_
    rw [nI_add]
    refine z_istore_n (i := 1) d_MQ_allItems_27 rfl (by decide) rfl ?_
    refine z_iinc (v := nI (i + 1)) d_MQ_allItems_28 rfl (nI_1 i) (by decide) rfl ?_
    refine z_goto (tgt := 4) d_MQ_allItems_31 (by decide) ?_
    exact ih (i + 1) (by omega)
set_option maxHeartbeats 4000000 in
set_option maxRecDepth 100000 in
theorem c_MQ_allItems (l : Launch) (g : ZG) (M : ZM) (own : Nat → Nat) (x qarr lt lw : Nat) (qs : List Nat) (S : MS) (cap : Nat) (hm : MRep M g.2.2.2.1 own x qarr lt lw qs S cap) : ZC vcl tlx GT l g y_MQ_allItems b_MQ_allItems 3 (Option.some FieldType.int) (ZRm 1 0 0) [.ref x] M (fun r M' => M = M' ∧ r = some (.int (nI (tot S 32)))) := by
  refine ZC.of (by decide) (Nat.le_of_ble_eq_true rfl) rfl (fun k hz0 => ?_)
  refine z_iconst (v := 0) d_MQ_allItems_0 (by decide) ?_
  refine z_istore_n (i := 1) d_MQ_allItems_1 rfl (by decide) rfl ?_
  refine z_iconst (v := 0) d_MQ_allItems_2 (by decide) ?_
  refine z_istore_n (i := 2) d_MQ_allItems_3 rfl (by decide) rfl ?_
  exact lp_MQ_allItems g k _ M own x qarr lt lw qs S cap hm ⟨rfl, rfl⟩ 32 0 rfl
set_option maxHeartbeats 4000000 in
set_option maxRecDepth 100000 in
theorem c_MQ_begin (l : Launch) (g : ZG) (M : ZM) (own : Nat → Nat) (x qarr lt lw : Nat) (S : MS) (cap : Nat) (c : Int32) (hx : M x = some (.inr (0, fM qarr lt lw S))) (hX : own x = 34) (ht : TaR M g.2.2.2.1 own lt S.2.2.1 cap) (hc : cap ≤ 1000000) : ZC vcl tlx GT l g y_MQ_begin b_MQ_begin 2 (Option.some FieldType.int) (ZRm 7 (if S.2.2.1.length < cap then 1 else 2) (if S.2.2.1.length < cap then 2 else 2 + capA S.2.2.1.length cap)) [.ref x, .int c] M (fun r M' => r = some (.int (nI (S.2.2.1.length + 1))) ∧ M' x = some (.inr (0, fM qarr lt lw (addT S S.2.1 (some c)))) ∧ TaR M' g.2.2.2.1 (ow M own 32) lt (S.2.2.1 ++ [(c, 1)]) (capA S.2.2.1.length cap) ∧ ∀ y, M y ≠ none → y ≠ x → own y ≠ 32 → M' y = M y) := by
  refine ZC.of (by decide) (Nat.le_of_ble_eq_true rfl) rfl (fun k hz0 => ?_)
  obtain ⟨arr, es, hl, h4, h5, h6, o2, o4⟩ := ht
  obtain ⟨⟨mc, hla⟩, hr, hle, hz⟩ := id hl
  have hlen := h4
  have n1 : x ≠ lt := zne hx hla (by intro h; cases h)
  have n2 : x ≠ arr := zne hx hr (by intro h; cases h)
  refine z_aload_n d_MQ_begin_0 rfl ?_
  refine z_get d_MQ_begin_1 zf_MQ_32 (hx) rfl ?_
  refine z_new (ci := 3) (fs := [.int 0, .int 0]) d_MQ_begin_4 ⟨_, T_Ta, 2, ty_Ta, rfl, in_Ta, zl_Ta, gw_294, gw_295, gw_47, rfl, by decide⟩ (by simp; split <;> simp) (by simp; split <;> simp <;> omega) (fun q hq => ?_)
  have n7 : x ≠ q := zfresh_ne hx hq
  have nlq : lt ≠ q := zfresh_ne hla hq
  have nrq : arr ≠ q := zfresh_ne hr hq
  refine z_dup d_MQ_begin_7 rfl ?_
  refine z_iload_n d_MQ_begin_8 rfl ?_
  refine z_callI gt_good d_MQ_begin_9 zi_MQ_188 (fun l => c_Ta_init l g _ q (.int 0) (.int 0) c (zset_self _ _ _)) rfl rfl ⟨Nat.le_of_ble_eq_true rfl, Nat.le_of_ble_eq_true rfl⟩ (Nat.le_of_ble_eq_true rfl) (by simp; split <;> simp) (by simp; split <;> simp <;> omega) ?_
  rintro _ _ ⟨rfl, rfl⟩
  rw [zset_zset]
  refine z_callV gt_good d_MQ_begin_12 zv_MQ_191 (by rw [zset_ne nlq]; exact hla) rfl (fun l => c_AL_add l g (zset M q (.inr (3, [.int c, .int 1]))) lt arr q es cap (hl.kept (zset_ne nlq) (zset_ne nrq)) hc (fun e he => by obtain ⟨j, hj⟩ := List.getElem?_of_mem he; obtain ⟨y, -, hy, -⟩ := h5 j e hj; exact (zObj.ta hy).kept (zset_ne (zfresh_ne hy hq))) (zObj.ta (zset_self _ _ _))) rfl rfl ⟨Nat.le_of_ble_eq_true rfl, Nat.le_of_ble_eq_true rfl⟩ (Nat.le_of_ble_eq_true rfl) (by simp [hlen]; split <;> simp) (by simp [hlen]; split <;> simp) ?_
  rintro _ M4 ⟨arr', rfl, hq4, hqz, hl4, hk4⟩
  have hqq : arr' = arr ∨ M arr' = none := hq4.imp id zset_none
  have n6 : x ≠ arr' := by
    rcases hqq with e | e
    · rw [e]; exact n2
    · exact zfresh_ne hx e
  have nqr : q ≠ arr' := by
    rcases hq4 with e | e
    · rw [e]; exact Ne.symm nrq
    · exact zfresh_ne (zset_self _ _ _) e
  have h4x : M4 x = some (.inr (0, fM qarr lt lw S)) := by rw [hk4 x n1 n6, zset_ne n7]; exact hx
  obtain ⟨⟨mc4, hla4⟩, hr4, hle4⟩ := id hl4
  refine z_pop d_MQ_begin_15 rfl ?_
  refine z_aload_n d_MQ_begin_16 rfl ?_
  refine z_dup d_MQ_begin_17 rfl ?_
  refine z_get d_MQ_begin_18 zf_MQ_144 (h4x) rfl ?_
  refine z_iconst (v := 1) d_MQ_begin_21 (by decide) ?_
  refine z_iadd d_MQ_begin_22 ?_
  refine z_put d_MQ_begin_23 zp_MQ_144 (h4x) rfl rfl ?_
  refine z_aload_n d_MQ_begin_26 rfl ?_
  refine z_get d_MQ_begin_27 zf_MQ_32 (zset_self _ _ _) rfl ?_
  refine z_callV gt_good d_MQ_begin_30 zv_MQ_151 (by rw [zset_ne (Ne.symm n1)]; exact hla4) rfl (fun l => c_AL_size l g _ lt arr' (nI (es ++ [q]).length) mc4 (by rw [zset_ne (Ne.symm n1)]; exact hla4)) rfl rfl ⟨Nat.le_of_ble_eq_true rfl, Nat.le_of_ble_eq_true rfl⟩ (Nat.le_of_ble_eq_true rfl) (by simp [hlen]; split <;> simp) (by simp [hlen]; split <;> simp) ?_
  rintro _ _ ⟨rfl, rfl⟩
  refine z_ireturn d_MQ_begin_33 rfl ?_ (by simp [hlen]; split <;> simp) (by simp [hlen]; split <;> simp)
  refine ⟨by simp [hlen], zset_self _ _ _, ⟨arr', es ++ [q], ?_, by simp [hlen], ?_, ?_, ?_, ?_⟩, fun y y1 y2 y3 => ?_⟩
  · rw [← hlen]
    exact hl4.kept (zset_ne (Ne.symm n1)) (zset_ne (Ne.symm n6))
  · intro j e hj
    by_cases hjl : j < es.length
    · rw [List.getElem?_append_left hjl] at hj
      obtain ⟨y, e1, e2, e3⟩ := h5 j e hj
      have ne1 : e ≠ lt := zne e2 hla (by simp)
      have ne2 : e ≠ arr' := by
        rcases hqq with w | w
        · rw [w]; exact zne e2 hr (by intro h; cases h)
        · exact zfresh_ne e2 w
      have ne3 : e ≠ x := zne e2 hx (by simp)
      refine ⟨y, by rw [List.getElem?_append_left (by omega)]; exact e1, ?_, by rw [ow_old (by rw [e2]; simp)]; exact e3⟩
      rw [zset_ne ne3, hk4 e ne1 ne2, zset_ne (zfresh_ne e2 hq)]; exact e2
    · have hjn : j = es.length := by have := (List.getElem?_eq_some_iff.mp hj).1; simp at this; omega
      rw [hjn, List.getElem?_append_right (Nat.le_refl _), Nat.sub_self] at hj
      obtain rfl : q = e := by simpa using hj
      refine ⟨(c, 1), by rw [hjn, hlen, List.getElem?_append_right (Nat.le_refl _), Nat.sub_self]; rfl, ?_, ow_new hq⟩
      rw [zset_ne (Ne.symm n7), hk4 q (Ne.symm nlq) nqr, zset_self]
  · rw [List.nodup_append]
    refine ⟨h6, by simp, fun a ha b hb => ?_⟩
    obtain ⟨j, hj⟩ := List.getElem?_of_mem ha
    obtain ⟨y, -, hy, -⟩ := h5 j a hj
    rw [List.mem_singleton.mp hb]
    exact zfresh_ne hy hq
  · rw [ow_old (by rw [hla]; simp)]; exact o2
  · intro hne
    rcases hqq with w | w
    · rw [w] at hne ⊢
      rw [ow_old (by rw [hr]; simp)]; exact o4 hne
    · exact ow_new w
  · have yl : y ≠ lt := fun e => y3 (by rw [e]; exact o2)
    have yr : y ≠ arr' := by
      intro e
      rcases hqq with w | w
      · exact y3 (by rw [e, w]; exact o4 (by rw [← w]; exact hqz))
      · rw [e] at y1; exact y1 w
    rw [zset_ne y2, hk4 y yl yr, zset_ne (fun e => y1 (by rw [e]; exact hq))]
