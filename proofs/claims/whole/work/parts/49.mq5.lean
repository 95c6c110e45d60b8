set_option maxHeartbeats 4000000 in
set_option maxRecDepth 100000 in
theorem c_MQ_next (l : Launch) (g : ZG) (M : ZM) (own : Nat → Nat) (x qarr lt lw : Nat) (qs : List Nat) (S : MS) (cap : Nat) (i j : Nat) (hm : MRep M g.2.2.2.1 own x qarr lt lw qs S cap) (hc : cap ≤ 1000) (hi : i < 32) (hj : j < 8) : ZC vcl tlx GT l g y_MQ_next b_MQ_next 5 (Option.some FieldType.int) (ZRm 11 70 6000) [.ref x, .int (nI i), .int (nI j)] M (fun r M' => r = some (.int (nextI S i j).1) ∧ ∃ (own' : Nat → Nat) (cap' : Nat), MRep M' g.2.2.2.1 own' x qarr lt lw qs (nextI S i j).2 cap' ∧ cap' ≤ 1000) := by
  refine ZC.of (by decide) (Nat.le_of_ble_eq_true rfl) rfl (fun k hz0 => ?_)
  obtain ⟨⟨hx, hqr, hl, hX, hXq⟩, hQ, hT, hD, hzo⟩ := id hm
  obtain ⟨qa, hqa⟩ : ∃ qa, qs[i]? = some qa := ⟨qs[i], List.getElem?_eq_getElem (by omega)⟩
  have hv : (qs.map Value.ref)[i]? = some (.ref qa) := by rw [List.getElem?_map, hqa]; rfl
  obtain ⟨la, pa, arr, es, cp, tr, hqx⟩ := hQ i qa hqa
  obtain ⟨q1, ⟨⟨mc, q2⟩, q2r, q2c, q2z⟩, q2b, ⟨q3, q3e, q3n⟩, q4, q5, q6, q7, q8, q9, q10, q11⟩ := id hqx
  have hgood : ¬ (nI i < 0 ∨ 32 ≤ nI i) := fun h => h.elim (nI_pos (by omega)) (fun h => nI_ge hi (by decide) h)
  have hzq : g.2.2.2.1 ≠ qa := zne hz0 q1 (by intro h; cases h)
  have ht := TrR.cases q7
  have n1 : pa ≠ qa := zne q4 q1 (by intro h; cases h)
  have n2 : la ≠ qa := zne q2 q1 (by simp)
  have n3 : arr ≠ qa := zne q2r q1 (by intro h; cases h)
  have n4 : pa ≠ la := zne q4 q2 (by intro h; cases h)
  have n5 : pa ≠ arr := zne q4 q2r (by simp)
  have hv2 : ((S.2.1 i).2.2.2.2.2.2.2.2.2.map Value.int)[j]? = some (.int ((S.2.1 i).2.2.2.2.2.2.2.2.2.getD j 0)) := by rw [List.getElem?_map, List.getD_eq_getElem?_getD, List.getElem?_eq_getElem (by omega)]; rfl
  have hb1 : ¬ nI j < 0 := nI_pos (by omega)
  have hb2 : nI j < 8 := nI_lt hj (by decide)
  refine z_aload_n d_MQ_next_0 rfl ?_
  refine z_iload_n d_MQ_next_1 rfl ?_
  refine z_callV gt_good d_MQ_next_2 zv_MQ_39 (hx) rfl (fun l => c_MQ_isQueue l g M x qarr lt lw S qs _ hx hqr hl) rfl rfl ⟨Nat.le_of_ble_eq_true rfl, Nat.le_of_ble_eq_true rfl⟩ (Nat.le_of_ble_eq_true rfl) (Nat.le_of_ble_eq_true rfl) (Nat.le_of_ble_eq_true rfl) ?_
  rintro _ _ ⟨rfl, rfl⟩
  rw [if_neg hgood]
  refine z_if_eq (tgt := 18) d_MQ_next_5 (by decide) (fun h5 => False.elim (absurd h5 (by decide))) (fun h5 => ?_)
  refine z_iload_n d_MQ_next_8 rfl ?_
  refine z_if_lt (tgt := 18) d_MQ_next_9 (by decide) (fun h9 => False.elim (hb1 h9)) (fun h9 => ?_)
  refine z_iload_n d_MQ_next_12 rfl ?_
  refine z_bipush (v := 8) d_MQ_next_13 (by decide) ?_
  refine z_icmp_lt (tgt := 21) d_MQ_next_15 (by decide) (fun h15 => ?_) (fun h15 => False.elim (h15 hb2))
  refine z_aload_n d_MQ_next_21 rfl ?_
  refine z_get d_MQ_next_22 zf_MQ_24 (hx) rfl ?_
  refine z_iload_n d_MQ_next_25 rfl ?_
  refine z_aald d_MQ_next_26 hqr rfl rfl (by omega) hv ?_
  refine z_astore_n (i := 3) d_MQ_next_27 rfl (by decide) rfl ?_
  refine z_aload_n d_MQ_next_28 rfl ?_
  refine z_callV gt_good d_MQ_next_29 zv_MQ_107 (q1) rfl (fun l => c_Qu_isTransient l g M qa la pa _ _ _ _ _ _ _ tr q1) rfl rfl ⟨Nat.le_of_ble_eq_true rfl, Nat.le_of_ble_eq_true rfl⟩ (Nat.le_of_ble_eq_true rfl) (Nat.le_of_ble_eq_true rfl) (Nat.le_of_ble_eq_true rfl) ?_
  rintro _ _ ⟨rfl, rfl⟩
  refine z_if_eq (tgt := 38) d_MQ_next_32 (by decide) (fun h32 => ?_) (fun h32 => ?_)
  · skip
    have hkt := zif0 h32
    refine z_aload_n d_MQ_next_38 rfl ?_
    refine z_get d_MQ_next_39 zf_MQ_110 (q1) rfl ?_
    refine z_iload_n d_MQ_next_42 rfl ?_
    refine z_iald d_MQ_next_43 q4 rfl (by omega) hv2 ?_
    refine z_iconst (v := 1) d_MQ_next_44 (by decide) ?_
    refine z_iadd d_MQ_next_45 ?_
    refine z_istore d_MQ_next_46 (by decide) rfl ?_
    refine z_aload_n d_MQ_next_48 rfl ?_
    refine z_iload d_MQ_next_49 rfl ?_
    refine z_callV gt_good d_MQ_next_51 zv_MQ_82 (q1) rfl (fun l => c_Qu_holds l g M qa la pa _ _ _ _ _ _ _ tr arr (nI es.length) mc _ q1 q2) rfl rfl ⟨Nat.le_of_ble_eq_true rfl, Nat.le_of_ble_eq_true rfl⟩ (Nat.le_of_ble_eq_true rfl) (Nat.le_of_ble_eq_true rfl) (Nat.le_of_ble_eq_true rfl) ?_
    rintro _ _ ⟨rfl, rfl⟩
    refine z_if_ne (tgt := 60) d_MQ_next_54 (by decide) (fun h54 => ?_) (fun h54 => ?_)
    · skip
      have hnx : ¬ nxN (S.2.1 i) (nxP (S.2.1 i) j) := by have h := zifn h54; rw [q3] at h; exact h
      refine z_aload_n d_MQ_next_60 rfl ?_
      refine z_get d_MQ_next_61 zf_MQ_110 (q1) rfl ?_
      refine z_iload_n d_MQ_next_64 rfl ?_
      refine z_iload d_MQ_next_65 rfl ?_
      refine z_iast d_MQ_next_67 q4 rfl (by omega) (by rw [List.length_map]; omega) ?_
      refine z_aload_n d_MQ_next_68 rfl ?_
      refine z_aload_n d_MQ_next_69 rfl ?_
      refine z_get d_MQ_next_70 zf_MQ_57 (by rw [zset_ne (zne hx q4 (by intro h; cases h))]; exact hx) rfl ?_
      refine z_callV gt_good d_MQ_next_73 zv_MQ_61 (by rw [zset_ne (Ne.symm n1)]; exact q1) rfl (fun l => c_Qu_touch l g _ qa la pa _ _ _ _ _ _ _ tr S.2.2.2.2.2.2 (by rw [zset_ne (Ne.symm n1)]; exact q1)) rfl rfl ⟨Nat.le_of_ble_eq_true rfl, Nat.le_of_ble_eq_true rfl⟩ (Nat.le_of_ble_eq_true rfl) (Nat.le_of_ble_eq_true rfl) (Nat.le_of_ble_eq_true rfl) ?_
      rintro _ _ ⟨rfl, rfl⟩
      refine z_iload d_MQ_next_76 rfl ?_
      refine z_ireturn d_MQ_next_78 rfl ?_ (by decide) (by decide)
      rw [show nextI S i j = _ from by unfold nextI; rw [if_neg hkt, if_neg hnx]]
      have hr2 : QRep (zset (zset M pa (.inl (1, ((S.2.1 i).2.2.2.2.2.2.2.2.2.map Value.int).set j (.int (nxP (S.2.1 i) j))))) qa (.inr (1, fQs la pa (nextQ (S.2.1 i) S.2.2.2.2.2.2 j (nxP (S.2.1 i) j)) tr))) g.2.2.2.1 (ow M own i) i qa (nextQ (S.2.1 i) S.2.2.2.2.2.2 j (nxP (S.2.1 i) j)) := by
        refine hqx.gen 0 es.length (zset_self _ _ _) ?_ ?_ ?_ ?_ q6 (q7.keep (fun ta fs h => ?_)) (fun e y h => ?_)
        · rw [dt_all]
          exact ALr.kept ⟨⟨mc, q2⟩, q2r, q2c, q2z⟩ (by rw [zset_ne n2, zset_ne (Ne.symm n4)]) (by rw [zset_ne n3, zset_ne (Ne.symm n5)])
        · rw [q3, dt_all]; rfl
        · rw [zset_ne n1, zset_self, ← List.map_set]; rfl
        · show ((S.2.1 i).2.2.2.2.2.2.2.2.2.set j _).length = 8
          rw [List.length_set]; exact q5
        · rw [zset_ne (zne h q1 (by simp)), zset_ne (zne h q4 (by intro h; cases h))]
        · rw [zset_ne (zne h q1 (by simp)), zset_ne (zne h q4 (by intro h; cases h))]
      exact ⟨rfl, _, cap, hm.updQ hqa (by rw [hz0]; simp) (fun y y1 y2 => by rw [zset_ne (fun e => y2 (by rw [e]; exact q8)), zset_ne (fun e => y2 (by rw [e]; exact q10))]) hr2, hc⟩
    · skip
      have hnx : nxN (S.2.1 i) (nxP (S.2.1 i) j) := by have h := zift h54; rw [q3] at h; exact h
      refine z_bipush (v := (-4)) d_MQ_next_57 (by decide) ?_
      refine z_ireturn d_MQ_next_59 rfl ?_ (by decide) (by decide)
      rw [show nextI S i j = _ from by unfold nextI; rw [if_neg hkt, if_pos hnx]]
      exact ⟨rfl, own, cap, hm, hc⟩
  · skip
    have hkt := zif1 h32
    refine z_bipush (v := (-3)) d_MQ_next_35 (by decide) ?_
    refine z_ireturn d_MQ_next_37 rfl ?_ (by decide) (by decide)
    rw [show nextI S i j = _ from by unfold nextI; rw [if_pos hkt]]
    exact ⟨rfl, own, cap, hm, hc⟩
set_option maxHeartbeats 4000000 in
set_option maxRecDepth 100000 in
theorem c_MQ_nextB (l : Launch) (g : ZG) (M : ZM) (own : Nat → Nat) (x qarr lt lw : Nat) (qs : List Nat) (S : MS) (cap : Nat) (q r : Int32) (hm : MRep M g.2.2.2.1 own x qarr lt lw qs S cap) (hc : cap ≤ 1000) (hq : (q < 0 ∨ 32 ≤ q) ∨ r < 0 ∨ 8 ≤ r) : ZC vcl tlx GT l g y_MQ_next b_MQ_next 5 (Option.some FieldType.int) (ZRm 11 70 6000) [.ref x, .int q, .int r] M (fun r M' => M = M' ∧ r = some (.int (-2))) := by
  refine ZC.of (by decide) (Nat.le_of_ble_eq_true rfl) rfl (fun k hz0 => ?_)
  obtain ⟨⟨hx, hqr, hl, hX, hXq⟩, hQ, hT, hD, hzo⟩ := id hm
  refine z_aload_n d_MQ_next_0 rfl ?_
  refine z_iload_n d_MQ_next_1 rfl ?_
  refine z_callV gt_good d_MQ_next_2 zv_MQ_39 (hx) rfl (fun l => c_MQ_isQueue l g M x qarr lt lw S qs _ hx hqr hl) rfl rfl ⟨Nat.le_of_ble_eq_true rfl, Nat.le_of_ble_eq_true rfl⟩ (Nat.le_of_ble_eq_true rfl) (Nat.le_of_ble_eq_true rfl) (Nat.le_of_ble_eq_true rfl) ?_
  rintro _ _ ⟨rfl, rfl⟩
  refine z_if_eq (tgt := 18) d_MQ_next_5 (by decide) (fun h5 => ?_) (fun h5 => ?_)
  · skip
    refine z_bipush (v := (-2)) d_MQ_next_18 (by decide) ?_
    refine z_ireturn d_MQ_next_20 rfl ?_ (by decide) (by decide)
    exact ⟨rfl, rfl⟩
  · skip
    have hq := hq.resolve_left (zifn h5)
    refine z_iload_n d_MQ_next_8 rfl ?_
    refine z_if_lt (tgt := 18) d_MQ_next_9 (by decide) (fun h9 => ?_) (fun h9 => ?_)
    · skip
      refine z_bipush (v := (-2)) d_MQ_next_18 (by decide) ?_
      refine z_ireturn d_MQ_next_20 rfl ?_ (by decide) (by decide)
      exact ⟨rfl, rfl⟩
    · skip
      have hq := hq.resolve_left h9
      refine z_iload_n d_MQ_next_12 rfl ?_
      refine z_bipush (v := 8) d_MQ_next_13 (by decide) ?_
      refine z_icmp_lt (tgt := 21) d_MQ_next_15 (by decide) (fun h15 => False.elim (k2_nlt hq h15)) (fun h15 => ?_)
      refine z_bipush (v := (-2)) d_MQ_next_18 (by decide) ?_
      refine z_ireturn d_MQ_next_20 rfl ?_ (by decide) (by decide)
      exact ⟨rfl, rfl⟩
set_option maxHeartbeats 4000000 in
set_option maxRecDepth 100000 in
theorem c_MQ_started (l : Launch) (g : ZG) (M : ZM) (own : Nat → Nat) (x qarr lt lw : Nat) (qs : List Nat) (S : MS) (cap : Nat) (t : Int32) (hm : MRep M g.2.2.2.1 own x qarr lt lw qs S cap) (hc : cap ≤ 1000) : ZC vcl tlx GT l g y_MQ_started b_MQ_started 2 (Option.some FieldType.int) (ZRm 11 70 6000) [.ref x, .int t] M (fun r M' => M = M' ∧ r = some (.int (staF S t))) := by
  refine ZC.of (by decide) (Nat.le_of_ble_eq_true rfl) rfl (fun k hz0 => ?_)
  obtain ⟨⟨hx, hqr, hl, hX, hXq⟩, hQ, hT, hD, hzo⟩ := id hm
  obtain ⟨arr, es, t1, t2, t3, t4, t5, t6⟩ := id hT
  obtain ⟨⟨mc, u2⟩, u2r, u2c, u2z⟩ := id t1
  refine z_aload_n d_MQ_started_0 rfl ?_
  refine z_iload_n d_MQ_started_1 rfl ?_
  refine z_callV gt_good d_MQ_started_2 zv_MQ_132 (hx) rfl (fun l => c_MQ_isTask l g M x qarr lt lw S arr (nI es.length) mc t hx u2) rfl rfl ⟨Nat.le_of_ble_eq_true rfl, Nat.le_of_ble_eq_true rfl⟩ (Nat.le_of_ble_eq_true rfl) (Nat.le_of_ble_eq_true rfl) (Nat.le_of_ble_eq_true rfl) ?_
  rintro _ _ ⟨rfl, rfl⟩
  refine z_if_eq (tgt := 27) d_MQ_started_5 (by decide) (fun h5 => ?_) (fun h5 => ?_)
  · skip
    have hb := zift h5
    rw [t2] at hb
    refine z_iconst (v := 0) d_MQ_started_27 (by decide) ?_
    refine z_ireturn d_MQ_started_28 rfl ?_ (by decide) (by decide)
    first | exact ⟨rfl, by unfold staF; rw [if_pos hb]⟩ | exact ⟨rfl, by unfold staF; rw [if_neg hb, hj4, k1]; rfl⟩
  · skip
    have hb := zifn h5
    rw [t2] at hb
    obtain ⟨j, hj1, hj2, hj3, hj4⟩ := zpos (by omega) hb
    obtain ⟨e, he⟩ : ∃ e, es[j]? = some e := ⟨es[j]'(by omega), List.getElem?_eq_getElem (by omega)⟩
    obtain ⟨y, k1, k2, k3⟩ := t3 j e he
    refine z_aload_n d_MQ_started_8 rfl ?_
    refine z_get d_MQ_started_9 zf_MQ_32 (hx) rfl ?_
    refine z_iload_n d_MQ_started_12 rfl ?_
    refine z_iconst (v := 1) d_MQ_started_13 (by decide) ?_
    refine z_isub d_MQ_started_14 ?_
    rw [hj3]
    refine z_callV gt_good d_MQ_started_15 zv_MQ_90 (u2) rfl (fun l => c_AL_get l g M lt arr es.length mc _ j e u2 u2r (by omega) (by omega) (al_get he)) rfl rfl ⟨Nat.le_of_ble_eq_true rfl, Nat.le_of_ble_eq_true rfl⟩ (Nat.le_of_ble_eq_true rfl) (Nat.le_of_ble_eq_true rfl) (Nat.le_of_ble_eq_true rfl) ?_
    rintro _ _ ⟨rfl, rfl⟩
    refine z_cast (ci := 3) d_MQ_started_18 gw_294 k2 rfl rfl ?_
    refine z_get d_MQ_started_21 zf_MQ_137 (k2) rfl ?_
    refine z_goto (tgt := 28) d_MQ_started_24 (by decide) ?_
    refine z_ireturn d_MQ_started_28 rfl ?_ (by decide) (by decide)
    first | exact ⟨rfl, by unfold staF; rw [if_pos hb]⟩ | exact ⟨rfl, by unfold staF; rw [if_neg hb, hj4, k1]; rfl⟩
