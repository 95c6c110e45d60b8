set_option maxHeartbeats 4000000 in
set_option maxRecDepth 100000 in
theorem c_MQ_rewrite (l : Launch) (g : ZG) (M : ZM) (own : Nat → Nat) (x qarr lt lw : Nat) (qs : List Nat) (S : MS) (cap : Nat) (i : Nat) (n : Int32) (v : Int64) (hm : MRep M g.2.2.2.1 own x qarr lt lw qs S cap) (hc : cap ≤ 1000) (hi : i < 32) (hlen : (S.2.1 i).2.1.length ≤ 600) : ZC vcl tlx GT l g y_MQ_rewrite b_MQ_rewrite 6 (Option.some FieldType.int) (ZRm 11 70 6000) [.ref x, .int (nI i), .int n, .long v] M (fun r M' => r = some (.int (rewI S i n v).1) ∧ ∃ (own' : Nat → Nat) (cap' : Nat), MRep M' g.2.2.2.1 own' x qarr lt lw qs (rewI S i n v).2 cap' ∧ cap' ≤ 1000) := by
  refine ZC.of (by decide) (Nat.le_of_ble_eq_true rfl) rfl (fun k hz0 => ?_)
  obtain ⟨⟨hx, hqr, hl, hX, hXq⟩, hQ, hT, hD, hzo⟩ := id hm
  obtain ⟨qa, hqa⟩ : ∃ qa, qs[i]? = some qa := ⟨qs[i], List.getElem?_eq_getElem (by omega)⟩
  have hv : (qs.map Value.ref)[i]? = some (.ref qa) := by rw [List.getElem?_map, hqa]; rfl
  obtain ⟨la, pa, arr, es, cp, tr, hqx⟩ := hQ i qa hqa
  obtain ⟨q1, ⟨⟨mc, q2⟩, q2r, q2c, q2z⟩, q2b, ⟨q3, q3e, q3n⟩, q4, q5, q6, q7, q8, q9, q10, q11⟩ := id hqx
  have hgood : ¬ (nI i < 0 ∨ 32 ≤ nI i) := fun h => h.elim (nI_pos (by omega)) (fun h => nI_ge hi (by decide) h)
  have hzq : g.2.2.2.1 ≠ qa := zne hz0 q1 (by intro h; cases h)
  have ht := TrR.cases q7
  have n1 : pa ≠ qa := zne q4 q1 (by intro h; cases h)
  have n2 : la ≠ qa := zne q2 q1 (by simp)
  have n3 : arr ≠ qa := zne q2r q1 (by intro h; cases h)
  have n4 : pa ≠ la := zne q4 q2 (by intro h; cases h)
  have n5 : pa ≠ arr := zne q4 q2r (by simp)
  refine z_aload_n d_MQ_rewrite_0 rfl ?_
  refine z_iload_n d_MQ_rewrite_1 rfl ?_
  refine z_callV gt_good d_MQ_rewrite_2 zv_MQ_39 (hx) rfl (fun l => c_MQ_isQueue l g M x qarr lt lw S qs _ hx hqr hl) rfl rfl ⟨Nat.le_of_ble_eq_true rfl, Nat.le_of_ble_eq_true rfl⟩ (Nat.le_of_ble_eq_true rfl) (Nat.le_of_ble_eq_true rfl) (Nat.le_of_ble_eq_true rfl) ?_
  rintro _ _ ⟨rfl, rfl⟩
  rw [if_neg hgood]
  refine z_if_ne (tgt := 11) d_MQ_rewrite_5 (by decide) (fun h5 => ?_) (fun h5 => False.elim (absurd h5 (by decide)))
  refine z_aload_n d_MQ_rewrite_11 rfl ?_
  refine z_get d_MQ_rewrite_12 zf_MQ_24 (hx) rfl ?_
  refine z_iload_n d_MQ_rewrite_15 rfl ?_
  refine z_aald d_MQ_rewrite_16 hqr rfl rfl (by omega) hv ?_
  refine z_astore d_MQ_rewrite_17 (by decide) rfl ?_
  refine z_aload d_MQ_rewrite_19 rfl ?_
  refine z_callV gt_good d_MQ_rewrite_21 zv_MQ_107 (q1) rfl (fun l => c_Qu_isTransient l g M qa la pa _ _ _ _ _ _ _ tr q1) rfl rfl ⟨Nat.le_of_ble_eq_true rfl, Nat.le_of_ble_eq_true rfl⟩ (Nat.le_of_ble_eq_true rfl) (Nat.le_of_ble_eq_true rfl) (Nat.le_of_ble_eq_true rfl) ?_
  rintro _ _ ⟨rfl, rfl⟩
  refine z_if_eq (tgt := 30) d_MQ_rewrite_24 (by decide) (fun h24 => ?_) (fun h24 => ?_)
  · skip
    have hkt := zif0 h24
    refine z_aload d_MQ_rewrite_30 rfl ?_
    refine z_iload_n d_MQ_rewrite_32 rfl ?_
    refine z_callV gt_good d_MQ_rewrite_33 zv_MQ_82 (q1) rfl (fun l => c_Qu_holds l g M qa la pa _ _ _ _ _ _ _ tr arr (nI es.length) mc _ q1 q2) rfl rfl ⟨Nat.le_of_ble_eq_true rfl, Nat.le_of_ble_eq_true rfl⟩ (Nat.le_of_ble_eq_true rfl) (Nat.le_of_ble_eq_true rfl) (Nat.le_of_ble_eq_true rfl) ?_
    rintro _ _ ⟨rfl, rfl⟩
    refine z_if_ne (tgt := 42) d_MQ_rewrite_36 (by decide) (fun h36 => ?_) (fun h36 => ?_)
    · skip
      have hnx : ¬ nxN (S.2.1 i) n := by have h := zifn h36; rw [q3] at h; exact h
      obtain ⟨j, hj1, hj2, hj3, hj4⟩ := zpos (by omega) hnx
      obtain ⟨e, he⟩ : ∃ e, es[j]? = some e := ⟨es[j]'(by omega), List.getElem?_eq_getElem (by omega)⟩
      obtain ⟨y, k1, k2, k3⟩ := q3e j e he
      refine z_aload d_MQ_rewrite_42 rfl ?_
      refine z_get d_MQ_rewrite_44 zf_MQ_87 (q1) rfl ?_
      refine z_iload_n d_MQ_rewrite_47 rfl ?_
      refine z_iconst (v := 1) d_MQ_rewrite_48 (by decide) ?_
      refine z_isub d_MQ_rewrite_49 ?_
      rw [hj3]
      refine z_callV gt_good d_MQ_rewrite_50 zv_MQ_90 (q2) rfl (fun l => c_AL_get l g M la arr es.length mc _ j e q2 q2r (by omega) (by omega) (al_get he)) rfl rfl ⟨Nat.le_of_ble_eq_true rfl, Nat.le_of_ble_eq_true rfl⟩ (Nat.le_of_ble_eq_true rfl) (Nat.le_of_ble_eq_true rfl) (Nat.le_of_ble_eq_true rfl) ?_
      rintro _ _ ⟨rfl, rfl⟩
      refine z_cast (ci := 2) d_MQ_rewrite_53 gw_421 k2 rfl rfl ?_
      refine z_lload_n d_MQ_rewrite_56 rfl ?_
      refine z_put d_MQ_rewrite_57 zp_MQ_96 (k2) rfl rfl ?_
      refine z_aload d_MQ_rewrite_60 rfl ?_
      refine z_aload_n d_MQ_rewrite_62 rfl ?_
      refine z_get d_MQ_rewrite_63 zf_MQ_57 (by rw [zset_ne (zne hx k2 (by simp))]; exact hx) rfl ?_
      refine z_callV gt_good d_MQ_rewrite_66 zv_MQ_61 (by rw [zset_ne (zne q1 k2 (by simp))]; exact q1) rfl (fun l => c_Qu_touch l g _ qa la pa _ _ _ _ _ _ _ tr S.2.2.2.2.2.2 (by rw [zset_ne (zne q1 k2 (by simp))]; exact q1)) rfl rfl ⟨Nat.le_of_ble_eq_true rfl, Nat.le_of_ble_eq_true rfl⟩ (Nat.le_of_ble_eq_true rfl) (Nat.le_of_ble_eq_true rfl) (Nat.le_of_ble_eq_true rfl) ?_
      rintro _ _ ⟨rfl, rfl⟩
      refine z_iconst (v := 1) d_MQ_rewrite_69 (by decide) ?_
      refine z_ireturn d_MQ_rewrite_70 rfl ?_ (by decide) (by decide)
      rw [show rewI S i n v = _ from by unfold rewI; rw [if_neg hkt, if_neg hnx, hj4]]
      have hr2 : QRep (zset (zset M e (.inr (2, [.long v]))) qa (.inr (1, fQs la pa (rewQ (S.2.1 i) S.2.2.2.2.2.2 j v) tr))) g.2.2.2.1 (ow M own i) i qa (rewQ (S.2.1 i) S.2.2.2.2.2.2 j v) := hqx.rew he
      have hm2 := hm.updQ hqa (by rw [hz0]; simp) (fun y y1 y2 => by rw [zset_ne (fun w => y2 (by rw [w]; exact q8)), zset_ne (fun w => y2 (by rw [w]; exact k3))]) hr2
      exact ⟨rfl, _, cap, hm2, hc⟩
    · skip
      have hnx : nxN (S.2.1 i) n := by have h := zift h36; rw [q3] at h; exact h
      refine z_bipush (v := (-4)) d_MQ_rewrite_39 (by decide) ?_
      refine z_ireturn d_MQ_rewrite_41 rfl ?_ (by decide) (by decide)
      rw [show rewI S i n v = _ from by unfold rewI; rw [if_neg hkt, if_pos hnx]]
      exact ⟨rfl, own, cap, hm, hc⟩
  · skip
    have hkt := zif1 h24
    refine z_bipush (v := (-3)) d_MQ_rewrite_27 (by decide) ?_
    refine z_ireturn d_MQ_rewrite_29 rfl ?_ (by decide) (by decide)
    rw [show rewI S i n v = _ from by unfold rewI; rw [if_pos hkt]]
    exact ⟨rfl, own, cap, hm, hc⟩
set_option maxHeartbeats 4000000 in
set_option maxRecDepth 100000 in
theorem c_MQ_rewriteB (l : Launch) (g : ZG) (M : ZM) (own : Nat → Nat) (x qarr lt lw : Nat) (qs : List Nat) (S : MS) (cap : Nat) (q n : Int32) (v : Int64) (hm : MRep M g.2.2.2.1 own x qarr lt lw qs S cap) (hc : cap ≤ 1000) (hq : q < 0 ∨ 32 ≤ q) : ZC vcl tlx GT l g y_MQ_rewrite b_MQ_rewrite 6 (Option.some FieldType.int) (ZRm 11 70 6000) [.ref x, .int q, .int n, .long v] M (fun r M' => M = M' ∧ r = some (.int (-2))) := by
  refine ZC.of (by decide) (Nat.le_of_ble_eq_true rfl) rfl (fun k hz0 => ?_)
  obtain ⟨⟨hx, hqr, hl, hX, hXq⟩, hQ, hT, hD, hzo⟩ := id hm
  refine z_aload_n d_MQ_rewrite_0 rfl ?_
  refine z_iload_n d_MQ_rewrite_1 rfl ?_
  refine z_callV gt_good d_MQ_rewrite_2 zv_MQ_39 (hx) rfl (fun l => c_MQ_isQueue l g M x qarr lt lw S qs _ hx hqr hl) rfl rfl ⟨Nat.le_of_ble_eq_true rfl, Nat.le_of_ble_eq_true rfl⟩ (Nat.le_of_ble_eq_true rfl) (Nat.le_of_ble_eq_true rfl) (Nat.le_of_ble_eq_true rfl) ?_
  rintro _ _ ⟨rfl, rfl⟩
  rw [if_pos hq]
  refine z_if_ne (tgt := 11) d_MQ_rewrite_5 (by decide) (fun h5 => False.elim (h5 rfl)) (fun h5 => ?_)
  refine z_bipush (v := (-2)) d_MQ_rewrite_8 (by decide) ?_
  refine z_ireturn d_MQ_rewrite_10 rfl ?_ (by decide) (by decide)
  exact ⟨rfl, rfl⟩
set_option maxHeartbeats 4000000 in
set_option maxRecDepth 100000 in
theorem c_MQ_trigger (l : Launch) (g : ZG) (M : ZM) (own : Nat → Nat) (x qarr lt lw : Nat) (qs : List Nat) (S : MS) (cap : Nat) (i : Nat) (n c : Int32) (hm : MRep M g.2.2.2.1 own x qarr lt lw qs S cap) (hc : cap ≤ 1000) (hi : i < 32) (hbd : (lookN (triS S i n c) 32).2.2.1.length ≤ 600) : ZC vcl tlx GT l g y_MQ_trigger b_MQ_trigger 5 (Option.some FieldType.int) (ZRm 11 70 6000) [.ref x, .int (nI i), .int n, .int c] M (fun r M' => r = some (.int (triI S i n c).1) ∧ ∃ (own' : Nat → Nat) (cap' : Nat), MRep M' g.2.2.2.1 own' x qarr lt lw qs (triI S i n c).2 cap' ∧ cap' ≤ 1000) := by
  refine ZC.of (by decide) (Nat.le_of_ble_eq_true rfl) rfl (fun k hz0 => ?_)
  obtain ⟨⟨hx, hqr, hl, hX, hXq⟩, hQ, hT, hD, hzo⟩ := id hm
  obtain ⟨qa, hqa⟩ : ∃ qa, qs[i]? = some qa := ⟨qs[i], List.getElem?_eq_getElem (by omega)⟩
  have hv : (qs.map Value.ref)[i]? = some (.ref qa) := by rw [List.getElem?_map, hqa]; rfl
  obtain ⟨la, pa, arr, es, cp, tr, hqx⟩ := hQ i qa hqa
  obtain ⟨q1, ⟨⟨mc, q2⟩, q2r, q2c, q2z⟩, q2b, ⟨q3, q3e, q3n⟩, q4, q5, q6, q7, q8, q9, q10, q11⟩ := id hqx
  have hgood : ¬ (nI i < 0 ∨ 32 ≤ nI i) := fun h => h.elim (nI_pos (by omega)) (fun h => nI_ge hi (by decide) h)
  have hzq : g.2.2.2.1 ≠ qa := zne hz0 q1 (by intro h; cases h)
  have ht := TrR.cases q7
  have n1 : pa ≠ qa := zne q4 q1 (by intro h; cases h)
  have n2 : la ≠ qa := zne q2 q1 (by simp)
  have n3 : arr ≠ qa := zne q2r q1 (by intro h; cases h)
  have n4 : pa ≠ la := zne q4 q2 (by intro h; cases h)
  have n5 : pa ≠ arr := zne q4 q2r (by simp)
  refine z_aload_n d_MQ_trigger_0 rfl ?_
  refine z_iload_n d_MQ_trigger_1 rfl ?_
  refine z_callV gt_good d_MQ_trigger_2 zv_MQ_39 (hx) rfl (fun l => c_MQ_isQueue l g M x qarr lt lw S qs _ hx hqr hl) rfl rfl ⟨Nat.le_of_ble_eq_true rfl, Nat.le_of_ble_eq_true rfl⟩ (Nat.le_of_ble_eq_true rfl) (Nat.le_of_ble_eq_true rfl) (Nat.le_of_ble_eq_true rfl) ?_
  rintro _ _ ⟨rfl, rfl⟩
  rw [if_neg hgood]
  refine z_if_eq (tgt := 19) d_MQ_trigger_5 (by decide) (fun h5 => False.elim (absurd h5 (by decide))) (fun h5 => ?_)
  refine z_iload_n d_MQ_trigger_8 rfl ?_
  refine z_if_lt (tgt := 19) d_MQ_trigger_9 (by decide) (fun h9 => ?_) (fun h9 => ?_)
  · skip
    have hb : n < 0 ∨ 4096 < n := Or.inl h9
    refine z_bipush (v := (-2)) d_MQ_trigger_19 (by decide) ?_
    refine z_ireturn d_MQ_trigger_21 rfl ?_ (by decide) (by decide)
    rw [show triI S i n c = _ from by unfold triI; rw [if_pos hb]]
    exact ⟨rfl, own, cap, hm, hc⟩
  · skip
    refine z_iload_n d_MQ_trigger_12 rfl ?_
    refine z_sipush (v := 4096) d_MQ_trigger_13 (by decide) ?_
    refine z_icmp_le (tgt := 22) d_MQ_trigger_16 (by decide) (fun h16 => ?_) (fun h16 => ?_)
    · skip
      have hb : ¬ (n < 0 ∨ 4096 < n) := fun h => h.elim h9 (fun h => k2_nlt h16 h)
      refine z_aload_n d_MQ_trigger_22 rfl ?_
      refine z_get d_MQ_trigger_23 zf_MQ_24 (hx) rfl ?_
      refine z_iload_n d_MQ_trigger_26 rfl ?_
      refine z_aald d_MQ_trigger_27 hqr rfl rfl (by omega) hv ?_
      refine z_astore d_MQ_trigger_28 (by decide) rfl ?_
      refine z_aload d_MQ_trigger_30 rfl ?_
      refine z_callV gt_good d_MQ_trigger_32 zv_MQ_79 (q1) rfl (fun l => c_Qu_isTemporary l g M qa la pa _ _ _ _ _ _ _ tr q1) rfl rfl ⟨Nat.le_of_ble_eq_true rfl, Nat.le_of_ble_eq_true rfl⟩ (Nat.le_of_ble_eq_true rfl) (Nat.le_of_ble_eq_true rfl) (Nat.le_of_ble_eq_true rfl) ?_
      rintro _ _ ⟨rfl, rfl⟩
      refine z_if_eq (tgt := 41) d_MQ_trigger_35 (by decide) (fun h35 => ?_) (fun h35 => ?_)
      · skip
        have hkt := zif0 h35
        refine z_aload d_MQ_trigger_41 rfl ?_
        refine z_iload_n d_MQ_trigger_43 rfl ?_
        refine z_if_ne (tgt := 51) d_MQ_trigger_44 (by decide) (fun h44 => ?_) (fun h44 => ?_)
        · skip
          refine z_new (ci := 4) (fs := [.int 0, .int 0, .int 0, .int 0, .int 0]) d_MQ_trigger_51 ⟨_, T_Tr, 5, ty_Tr, rfl, in_Tr, zl_Tr, gw_374, gw_375, gw_54, rfl, by decide⟩ (by simp) (by simp) (fun ta hta => ?_)
          have hqt : qa ≠ ta := zfresh_ne q1 hta
          refine z_dup d_MQ_trigger_54 rfl ?_
          refine z_iload_n d_MQ_trigger_55 rfl ?_
          refine z_iload_n d_MQ_trigger_56 rfl ?_
          refine z_callI gt_good d_MQ_trigger_57 zi_MQ_125 (fun l => c_Tr_init l g _ ta _ _ _ _ _ n c (zset_self _ _ _)) rfl rfl ⟨Nat.le_of_ble_eq_true rfl, Nat.le_of_ble_eq_true rfl⟩ (Nat.le_of_ble_eq_true rfl) (by first | (dsimp only [ZRm]; omega) | (dsimp only [ZRm, List.length]; omega) | (simp [ZRm]; done)) (by first | (dsimp only [ZRm]; omega) | (dsimp only [ZRm, List.length]; omega) | (simp [ZRm]; done)) ?_
          rintro _ _ ⟨rfl, rfl⟩
          rw [zset_zset]
          first
            | (refine z_put d_MQ_trigger_60 zp_MQ_128 (by rw [zset_ne hqt]; exact q1) rfl rfl ?_
               have hr2 : QRep (zset (zset M ta (.inr (4, [.int n, .int c, .int 1, .int 0, .int 0]))) qa (.inr (1, fQs la pa (setTr (S.2.1 i) (triT n c)) (.ref ta)))) g.2.2.2.1 (ow M own i) i qa (setTr (S.2.1 i) (triT n c)) := by
                 refine hqx.gen 0 es.length (tr' := .ref ta) (zset_self _ _ _) ?_ ?_ ?_ q5 q6 ?_ (fun e y h => ?_)
                 · rw [dt_all]
                   exact ALr.kept ⟨⟨mc, q2⟩, q2r, q2c, q2z⟩ (by rw [zset_ne n2, zset_ne (zfresh_ne q2 hta)]) (by rw [zset_ne n3, zset_ne (zfresh_ne q2r hta)])
                 · rw [q3, dt_all]; rfl
                 · rw [zset_ne n1, zset_ne (zfresh_ne q4 hta)]; exact q4
                 · show TrR _ _ i (triT n c) _
                   unfold triT
                   rw [if_neg h44]
                   exact ⟨ta, rfl, ow_new hta, by rw [zset_ne (Ne.symm hqt), zset_self]⟩
                 · rw [zset_ne (zne h q1 (by simp)), zset_ne (zfresh_ne h hta)]
               have hm2 := hm.updQ hqa (by rw [hz0]; simp) (fun y y1 y2 => by rw [zset_ne (fun w => y2 (by rw [w]; exact q8)), zset_ne (fun w => y1 (by rw [w]; exact hta))]) hr2
               refine z_aload_n d_MQ_trigger_63 rfl ?_
               refine z_callV gt_good d_MQ_trigger_64 zv_MQ_69 (hm2.1.1) rfl (fun l => c_MQ_lookAtTriggers l g _ _ x qarr lt lw qs (triS S i n c) cap hm2 hc hbd) rfl rfl ⟨Nat.le_of_ble_eq_true rfl, Nat.le_of_ble_eq_true rfl⟩ (Nat.le_of_ble_eq_true rfl) (by first | (dsimp only [ZRm]; omega) | (dsimp only [ZRm, List.length]; omega) | (simp [ZRm]; done)) (by first | (dsimp only [ZRm]; omega) | (dsimp only [ZRm, List.length]; omega) | (simp [ZRm]; done)) ?_
               rintro _ M3 ⟨rfl, own3, cap3, hm3, hc3⟩
               refine z_iconst (v := 1) d_MQ_trigger_67 (by decide) ?_
               refine z_ireturn d_MQ_trigger_68 rfl ?_ (by first | (dsimp only [ZRm]; omega) | (dsimp only [ZRm, List.length]; omega) | (simp [ZRm]; done)) (by first | (dsimp only [ZRm]; omega) | (dsimp only [ZRm, List.length]; omega) | (simp [ZRm]; done))
               rw [show triI S i n c = _ from by unfold triI; rw [if_neg hb, if_neg hkt]]
               exact ⟨rfl, own3, cap3, hm3, hc3⟩)
            | (refine z_put d_MQ_trigger_60 zp_MQ_128 q1 rfl rfl ?_
               have hr2 : QRep (zset M qa (.inr (1, fQs la pa (setTr (S.2.1 i) (triT n c)) .null))) g.2.2.2.1 (ow M own i) i qa (setTr (S.2.1 i) (triT n c)) := by
                 refine hqx.gen 0 es.length (tr' := .null) (zset_self _ _ _) ?_ ?_ ?_ q5 q6 ?_ (fun e y h => ?_)
                 · rw [dt_all]
                   exact ALr.kept ⟨⟨mc, q2⟩, q2r, q2c, q2z⟩ (by rw [zset_ne n2]) (by rw [zset_ne n3])
                 · rw [q3, dt_all]; rfl
                 · rw [zset_ne n1]; exact q4
                 · show TrR _ _ i (triT n c) _
                   unfold triT
                   rw [if_pos h44]
                   rfl
                 · rw [zset_ne (zne h q1 (by simp))]
               have hm2 := hm.updQ hqa (by rw [hz0]; simp) (fun y y1 y2 => by rw [zset_ne (fun w => y2 (by rw [w]; exact q8))]) hr2
               refine z_aload_n d_MQ_trigger_63 rfl ?_
               refine z_callV gt_good d_MQ_trigger_64 zv_MQ_69 (hm2.1.1) rfl (fun l => c_MQ_lookAtTriggers l g _ _ x qarr lt lw qs (triS S i n c) cap hm2 hc hbd) rfl rfl ⟨Nat.le_of_ble_eq_true rfl, Nat.le_of_ble_eq_true rfl⟩ (Nat.le_of_ble_eq_true rfl) (by first | (dsimp only [ZRm]; omega) | (dsimp only [ZRm, List.length]; omega) | (simp [ZRm]; done)) (by first | (dsimp only [ZRm]; omega) | (dsimp only [ZRm, List.length]; omega) | (simp [ZRm]; done)) ?_
               rintro _ M3 ⟨rfl, own3, cap3, hm3, hc3⟩
               refine z_iconst (v := 1) d_MQ_trigger_67 (by decide) ?_
               refine z_ireturn d_MQ_trigger_68 rfl ?_ (by first | (dsimp only [ZRm]; omega) | (dsimp only [ZRm, List.length]; omega) | (simp [ZRm]; done)) (by first | (dsimp only [ZRm]; omega) | (dsimp only [ZRm, List.length]; omega) | (simp [ZRm]; done))
               rw [show triI S i n c = _ from by unfold triI; rw [if_neg hb, if_neg hkt]]
               exact ⟨rfl, own3, cap3, hm3, hc3⟩)
        · skip
          refine z_null d_MQ_trigger_47 ?_
          refine z_goto (tgt := 60) d_MQ_trigger_48 (by decide) ?_
          first
            | (refine z_put d_MQ_trigger_60 zp_MQ_128 (by rw [zset_ne hqt]; exact q1) rfl rfl ?_
               have hr2 : QRep (zset (zset M ta (.inr (4, [.int n, .int c, .int 1, .int 0, .int 0]))) qa (.inr (1, fQs la pa (setTr (S.2.1 i) (triT n c)) (.ref ta)))) g.2.2.2.1 (ow M own i) i qa (setTr (S.2.1 i) (triT n c)) := by
                 refine hqx.gen 0 es.length (tr' := .ref ta) (zset_self _ _ _) ?_ ?_ ?_ q5 q6 ?_ (fun e y h => ?_)
                 · rw [dt_all]
                   exact ALr.kept ⟨⟨mc, q2⟩, q2r, q2c, q2z⟩ (by rw [zset_ne n2, zset_ne (zfresh_ne q2 hta)]) (by rw [zset_ne n3, zset_ne (zfresh_ne q2r hta)])
                 · rw [q3, dt_all]; rfl
                 · rw [zset_ne n1, zset_ne (zfresh_ne q4 hta)]; exact q4
                 · show TrR _ _ i (triT n c) _
                   unfold triT
                   rw [if_neg h44]
                   exact ⟨ta, rfl, ow_new hta, by rw [zset_ne (Ne.symm hqt), zset_self]⟩
                 · rw [zset_ne (zne h q1 (by simp)), zset_ne (zfresh_ne h hta)]
               have hm2 := hm.updQ hqa (by rw [hz0]; simp) (fun y y1 y2 => by rw [zset_ne (fun w => y2 (by rw [w]; exact q8)), zset_ne (fun w => y1 (by rw [w]; exact hta))]) hr2
               refine z_aload_n d_MQ_trigger_63 rfl ?_
               refine z_callV gt_good d_MQ_trigger_64 zv_MQ_69 (hm2.1.1) rfl (fun l => c_MQ_lookAtTriggers l g _ _ x qarr lt lw qs (triS S i n c) cap hm2 hc hbd) rfl rfl ⟨Nat.le_of_ble_eq_true rfl, Nat.le_of_ble_eq_true rfl⟩ (Nat.le_of_ble_eq_true rfl) (by first | (dsimp only [ZRm]; omega) | (dsimp only [ZRm, List.length]; omega) | (simp [ZRm]; done)) (by first | (dsimp only [ZRm]; omega) | (dsimp only [ZRm, List.length]; omega) | (simp [ZRm]; done)) ?_
               rintro _ M3 ⟨rfl, own3, cap3, hm3, hc3⟩
               refine z_iconst (v := 1) d_MQ_trigger_67 (by decide) ?_
               refine z_ireturn d_MQ_trigger_68 rfl ?_ (by first | (dsimp only [ZRm]; omega) | (dsimp only [ZRm, List.length]; omega) | (simp [ZRm]; done)) (by first | (dsimp only [ZRm]; omega) | (dsimp only [ZRm, List.length]; omega) | (simp [ZRm]; done))
               rw [show triI S i n c = _ from by unfold triI; rw [if_neg hb, if_neg hkt]]
               exact ⟨rfl, own3, cap3, hm3, hc3⟩)
            | (refine z_put d_MQ_trigger_60 zp_MQ_128 q1 rfl rfl ?_
               have hr2 : QRep (zset M qa (.inr (1, fQs la pa (setTr (S.2.1 i) (triT n c)) .null))) g.2.2.2.1 (ow M own i) i qa (setTr (S.2.1 i) (triT n c)) := by
                 refine hqx.gen 0 es.length (tr' := .null) (zset_self _ _ _) ?_ ?_ ?_ q5 q6 ?_ (fun e y h => ?_)
                 · rw [dt_all]
                   exact ALr.kept ⟨⟨mc, q2⟩, q2r, q2c, q2z⟩ (by rw [zset_ne n2]) (by rw [zset_ne n3])
                 · rw [q3, dt_all]; rfl
                 · rw [zset_ne n1]; exact q4
                 · show TrR _ _ i (triT n c) _
                   unfold triT
                   rw [if_pos h44]
                   rfl
                 · rw [zset_ne (zne h q1 (by simp))]
               have hm2 := hm.updQ hqa (by rw [hz0]; simp) (fun y y1 y2 => by rw [zset_ne (fun w => y2 (by rw [w]; exact q8))]) hr2
               refine z_aload_n d_MQ_trigger_63 rfl ?_
               refine z_callV gt_good d_MQ_trigger_64 zv_MQ_69 (hm2.1.1) rfl (fun l => c_MQ_lookAtTriggers l g _ _ x qarr lt lw qs (triS S i n c) cap hm2 hc hbd) rfl rfl ⟨Nat.le_of_ble_eq_true rfl, Nat.le_of_ble_eq_true rfl⟩ (Nat.le_of_ble_eq_true rfl) (by first | (dsimp only [ZRm]; omega) | (dsimp only [ZRm, List.length]; omega) | (simp [ZRm]; done)) (by first | (dsimp only [ZRm]; omega) | (dsimp only [ZRm, List.length]; omega) | (simp [ZRm]; done)) ?_
               rintro _ M3 ⟨rfl, own3, cap3, hm3, hc3⟩
               refine z_iconst (v := 1) d_MQ_trigger_67 (by decide) ?_
               refine z_ireturn d_MQ_trigger_68 rfl ?_ (by first | (dsimp only [ZRm]; omega) | (dsimp only [ZRm, List.length]; omega) | (simp [ZRm]; done)) (by first | (dsimp only [ZRm]; omega) | (dsimp only [ZRm, List.length]; omega) | (simp [ZRm]; done))
               rw [show triI S i n c = _ from by unfold triI; rw [if_neg hb, if_neg hkt]]
               exact ⟨rfl, own3, cap3, hm3, hc3⟩)
      · skip
        have hkt := zif1 h35
        refine z_bipush (v := (-3)) d_MQ_trigger_38 (by decide) ?_
        refine z_ireturn d_MQ_trigger_40 rfl ?_ (by decide) (by decide)
        rw [show triI S i n c = _ from by unfold triI; rw [if_neg hb, if_pos hkt]]
        exact ⟨rfl, own, cap, hm, hc⟩
    · skip
      have hb : n < 0 ∨ 4096 < n := Or.inr (k2_lt h16)
      refine z_bipush (v := (-2)) d_MQ_trigger_19 (by decide) ?_
      refine z_ireturn d_MQ_trigger_21 rfl ?_ (by decide) (by decide)
      rw [show triI S i n c = _ from by unfold triI; rw [if_pos hb]]
      exact ⟨rfl, own, cap, hm, hc⟩
set_option maxHeartbeats 4000000 in
set_option maxRecDepth 100000 in
theorem c_MQ_triggerB (l : Launch) (g : ZG) (M : ZM) (own : Nat → Nat) (x qarr lt lw : Nat) (qs : List Nat) (S : MS) (cap : Nat) (q n c : Int32) (hm : MRep M g.2.2.2.1 own x qarr lt lw qs S cap) (hc : cap ≤ 1000) (hq : q < 0 ∨ 32 ≤ q) : ZC vcl tlx GT l g y_MQ_trigger b_MQ_trigger 5 (Option.some FieldType.int) (ZRm 11 70 6000) [.ref x, .int q, .int n, .int c] M (fun r M' => M = M' ∧ r = some (.int (-2))) := by
  refine ZC.of (by decide) (Nat.le_of_ble_eq_true rfl) rfl (fun k hz0 => ?_)
  obtain ⟨⟨hx, hqr, hl, hX, hXq⟩, hQ, hT, hD, hzo⟩ := id hm
  refine z_aload_n d_MQ_trigger_0 rfl ?_
  refine z_iload_n d_MQ_trigger_1 rfl ?_
  refine z_callV gt_good d_MQ_trigger_2 zv_MQ_39 (hx) rfl (fun l => c_MQ_isQueue l g M x qarr lt lw S qs _ hx hqr hl) rfl rfl ⟨Nat.le_of_ble_eq_true rfl, Nat.le_of_ble_eq_true rfl⟩ (Nat.le_of_ble_eq_true rfl) (Nat.le_of_ble_eq_true rfl) (Nat.le_of_ble_eq_true rfl) ?_
  rintro _ _ ⟨rfl, rfl⟩
  rw [if_pos hq]
  refine z_if_eq (tgt := 19) d_MQ_trigger_5 (by decide) (fun h5 => ?_) (fun h5 => False.elim (h5 rfl))
  refine z_bipush (v := (-2)) d_MQ_trigger_19 (by decide) ?_
  refine z_ireturn d_MQ_trigger_21 rfl ?_ (by decide) (by decide)
  exact ⟨rfl, rfl⟩
