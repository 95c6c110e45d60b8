set_option maxHeartbeats 4000000 in
set_option maxRecDepth 100000 in
theorem c_MQ_take (l : Launch) (g : ZG) (M : ZM) (own : Nat → Nat) (x qarr lt lw : Nat) (qs : List Nat) (S : MS) (cap : Nat) (i : Nat) (hm : MRep M g.2.2.2.1 own x qarr lt lw qs S cap) (hc : cap ≤ 1000) (hi : i < 32) (hlen : (S.2.1 i).2.1.length ≤ 600) (hbd : (lookN (takS S i) 32).2.2.1.length ≤ 600) : ZC vcl tlx GT l g y_MQ_take b_MQ_take 4 (Option.some FieldType.int) (ZRm 11 70 6000) [.ref x, .int (nI i)] M (fun r M' => r = some (.int (takI S i).1) ∧ ∃ (own' : Nat → Nat) (cap' : Nat), MRep M' g.2.2.2.1 own' x qarr lt lw qs (takI S i).2 cap' ∧ cap' ≤ 1000) := by
  refine ZC.of (by decide) (Nat.le_of_ble_eq_true rfl) rfl (fun k hz0 => ?_)
  obtain ⟨⟨hx, hqr, hl, hX, hXq⟩, hQ, hT, hD, hzo⟩ := id hm
  obtain ⟨qa, hqa⟩ : ∃ qa, qs[i]? = some qa := ⟨qs[i], List.getElem?_eq_getElem (by omega)⟩
  have hv : (qs.map Value.ref)[i]? = some (.ref qa) := by rw [List.getElem?_map, hqa]; rfl
  obtain ⟨la, pa, arr, es, cp, tr, hqx⟩ := hQ i qa hqa
  obtain ⟨q1, ⟨⟨mc, q2⟩, q2r, q2c, q2z⟩, q2b, ⟨q3, q3e, q3n⟩, q4, q5, q6, q7, q8, q9, q10, q11⟩ := id hqx
  have hgood : ¬ (nI i < 0 ∨ 32 ≤ nI i) := fun h => h.elim (nI_pos (by omega)) (fun h => nI_ge hi (by decide) h)
  have hzq : g.2.2.2.1 ≠ qa := zne hz0 q1 (by intro h; cases h)
  have ht := TrR.cases q7
  have n1 : pa ≠ qa := zne q4 q1 (by intro h; cases h)
  have n2 : la ≠ qa := zne q2 q1 (by simp)
  have n3 : arr ≠ qa := zne q2r q1 (by intro h; cases h)
  have n4 : pa ≠ la := zne q4 q2 (by intro h; cases h)
  have n5 : pa ≠ arr := zne q4 q2r (by simp)
  refine z_aload_n d_MQ_take_0 rfl ?_
  refine z_iload_n d_MQ_take_1 rfl ?_
  refine z_callV gt_good d_MQ_take_2 zv_MQ_39 (hx) rfl (fun l => c_MQ_isQueue l g M x qarr lt lw S qs _ hx hqr hl) rfl rfl ⟨Nat.le_of_ble_eq_true rfl, Nat.le_of_ble_eq_true rfl⟩ (Nat.le_of_ble_eq_true rfl) (Nat.le_of_ble_eq_true rfl) (Nat.le_of_ble_eq_true rfl) ?_
  rintro _ _ ⟨rfl, rfl⟩
  rw [if_neg hgood]
  refine z_if_ne (tgt := 11) d_MQ_take_5 (by decide) (fun h5 => ?_) (fun h5 => False.elim (absurd h5 (by decide)))
  refine z_aload_n d_MQ_take_11 rfl ?_
  refine z_get d_MQ_take_12 zf_MQ_24 (hx) rfl ?_
  refine z_iload_n d_MQ_take_15 rfl ?_
  refine z_aald d_MQ_take_16 hqr rfl rfl (by omega) hv ?_
  refine z_astore_n (i := 2) d_MQ_take_17 rfl (by decide) rfl ?_
  refine z_aload_n d_MQ_take_18 rfl ?_
  refine z_callV gt_good d_MQ_take_19 zv_MQ_79 (q1) rfl (fun l => c_Qu_isTemporary l g M qa la pa _ _ _ _ _ _ _ tr q1) rfl rfl ⟨Nat.le_of_ble_eq_true rfl, Nat.le_of_ble_eq_true rfl⟩ (Nat.le_of_ble_eq_true rfl) (Nat.le_of_ble_eq_true rfl) (Nat.le_of_ble_eq_true rfl) ?_
  rintro _ _ ⟨rfl, rfl⟩
  refine z_if_eq (tgt := 28) d_MQ_take_22 (by decide) (fun h22 => ?_) (fun h22 => ?_)
  · skip
    have hkt := zif0 h22
    refine z_aload_n d_MQ_take_28 rfl ?_
    refine z_get d_MQ_take_29 zf_MQ_87 (q1) rfl ?_
    refine z_callV gt_good d_MQ_take_32 zv_MQ_114 (q2) rfl (fun l => c_AL_isEmpty l g M la arr (nI es.length) mc q2) rfl rfl ⟨Nat.le_of_ble_eq_true rfl, Nat.le_of_ble_eq_true rfl⟩ (Nat.le_of_ble_eq_true rfl) (Nat.le_of_ble_eq_true rfl) (Nat.le_of_ble_eq_true rfl) ?_
    rintro _ _ ⟨rfl, rfl⟩
    refine z_if_eq (tgt := 41) d_MQ_take_35 (by decide) (fun h35 => ?_) (fun h35 => ?_)
    · skip
      have hne : ¬ (S.2.1 i).2.1 = [] := fun e => zif0 h35 (by rw [q3, e]; rfl)
      refine z_aload_n d_MQ_take_41 rfl ?_
      refine z_callV gt_good d_MQ_take_42 zv_MQ_117 (q1) rfl (fun l => c_Qu_standing l g M qa la pa _ _ _ _ _ _ _ tr arr (nI es.length) mc q1 q2) rfl rfl ⟨Nat.le_of_ble_eq_true rfl, Nat.le_of_ble_eq_true rfl⟩ (Nat.le_of_ble_eq_true rfl) (Nat.le_of_ble_eq_true rfl) (Nat.le_of_ble_eq_true rfl) ?_
      rintro _ _ ⟨rfl, rfl⟩
      rw [q3, pk_sub q6]
      refine z_if_ne (tgt := 51) d_MQ_take_45 (by decide) (fun h45 => ?_) (fun h45 => ?_)
      · skip
        have hst : ¬ (S.2.1 i).2.1.length = (S.2.1 i).2.2.1 := fun e => h45 (by rw [e, Nat.sub_self]; rfl)
        refine z_aload_n d_MQ_take_51 rfl ?_
        obtain ⟨e0, es1, rfl⟩ : ∃ e0 es1, es = e0 :: es1 := by
          cases es with
          | nil => exact absurd (List.length_eq_zero_iff.mp q3.symm) hne
          | cons a b => exact ⟨a, b, rfl⟩
        obtain ⟨v0, k1, k2, k3⟩ := q3e 0 e0 rfl
        obtain ⟨v1, vt, hvs⟩ : ∃ v1 vt, (S.2.1 i).2.1 = v1 :: vt := by
          cases hh : (S.2.1 i).2.1 with
          | nil => exact absurd hh hne
          | cons a b => exact ⟨a, b, rfl⟩
        have hv01 : v0 = v1 := by rw [hvs] at k1; exact (Option.some.inj k1).symm
        subst hv01
        have q3' := q3.symm
        have hvl : es1.length = vt.length := by rw [hvs] at q3; simpa using q3
        have hpt : (S.2.1 i).2.2.1 ≤ (S.2.1 i).2.1.tail.length := by
          rw [List.length_tail]
          have := q6
          omega
        have hes : ∀ e ∈ e0 :: es1, ∃ x : Int64, M e = some (.inr (2, [.long x])) := fun e he => by
          obtain ⟨j, hj⟩ := List.getElem?_of_mem he
          obtain ⟨y, -, hy, -⟩ := q3e j e hj
          exact ⟨y, hy⟩
        have harz : arr ≠ g.2.2.2.1 := zne q2r hz0 (by simp)
        cases htr : (S.2.1 i).2.2.2.2.2.2.2.2.1 with
        | none =>
          have q7 : tr = .null := by rw [htr] at q7; exact q7
          subst q7
          refine z_callV gt_good d_MQ_take_52 zv_MQ_120 (q1) rfl (fun l => c_Qu_removeFirstN l g M qa la pa _ _ _ _ _ _ _ arr e0 es1 cp _ v0 q1 ⟨⟨mc, q2⟩, q2r, q2c, q2z⟩ q4 (by omega) (by rw [List.length_map, q5]; decide) hes k2) rfl rfl ⟨Nat.le_of_ble_eq_true rfl, Nat.le_of_ble_eq_true rfl⟩ (Nat.le_of_ble_eq_true rfl) (Nat.le_of_ble_eq_true rfl) (Nat.le_of_ble_eq_true rfl) ?_
          rintro _ M1 ⟨rfl, e1, e2, e3, e5⟩
          have hem : (es1 = []) = ((S.2.1 i).2.1.tail = []) := by
            rw [hvs]
            show (es1 = []) = (vt = [])
            rw [← List.length_eq_zero_iff, ← List.length_eq_zero_iff, hvl]
          have hr2 : QRep M1 g.2.2.2.1 (ow M own i) i qa (takQ (S.2.1 i)) := by
            refine hqx.gen 1 es1.length (tr' := .null) ?_ ?_ ?_ ?_ ?_ ?_ ?_ (fun e y h => ?_)
            · rw [e1]
              unfold takQ fQs
              simp only [hem]
              rw [q3', hvs]
              rfl
            · rw [show ((e0 :: es1).drop 1).take es1.length = es1 by simp]; exact e2
            · unfold takQ
              simp [hvs, hvl]
            · rw [e3]
              unfold takQ
              simp only [hem, q5, List.length_map]
              split <;> rfl
            · unfold takQ
              dsimp only
              split
              · rfl
              · exact q5
            · unfold takQ
              exact hpt
            · unfold takQ
              rw [htr]
              rfl
            · exact e5 e (zne h q1 (by simp)) (zne h q2 (by simp)) (zne h q2r (by intro h; cases h)) (zne h q4 (by intro h; cases h))
          have hm2 := hm.updQ hqa (by rw [hz0]; simp) (fun y y1 y2 => e5 y (fun w => y2 (by rw [w]; exact q8)) (fun w => y2 (by rw [w]; exact q9)) (fun w => y2 (by rw [w]; exact q11 harz)) (fun w => y2 (by rw [w]; exact q10))) hr2
          refine z_istore_n (i := 3) d_MQ_take_55 rfl (by decide) rfl ?_
          refine z_aload_n d_MQ_take_56 rfl ?_
          refine z_callV gt_good d_MQ_take_57 zv_MQ_69 (hm2.1.1) rfl (fun l => c_MQ_lookAtTriggers l g M1 _ x qarr lt lw qs (takS S i) cap hm2 hc hbd) rfl rfl ⟨Nat.le_of_ble_eq_true rfl, Nat.le_of_ble_eq_true rfl⟩ (Nat.le_of_ble_eq_true rfl) (by first | (dsimp only [ZRm]; omega) | (dsimp only [ZRm, List.length]; omega) | (simp [ZRm]; done)) (by first | (dsimp only [ZRm]; omega) | (dsimp only [ZRm, List.length]; omega) | (simp [ZRm]; done)) ?_
          rintro _ M3 ⟨rfl, own3, cap3, hm3, hc3⟩
          refine z_iload_n d_MQ_take_60 rfl ?_
          refine z_ireturn d_MQ_take_61 rfl ?_ (by first | (dsimp only [ZRm]; omega) | (dsimp only [ZRm, List.length]; omega) | (simp [ZRm]; done)) (by first | (dsimp only [ZRm]; omega) | (dsimp only [ZRm, List.length]; omega) | (simp [ZRm]; done))
          rw [show takI S i = _ from by unfold takI; rw [if_neg hkt, if_neg hne, if_neg hst], show (S.2.1 i).2.1.length = (e0 :: es1).length from q3']
          exact ⟨rfl, own3, cap3, hm3, hc3⟩
        | some t =>
          rw [htr] at q7
          obtain ⟨ta, hte, hto, hta⟩ := q7
          subst hte
          refine z_callV gt_good d_MQ_take_52 zv_MQ_120 (q1) rfl (fun l => c_Qu_removeFirstR l g M qa la pa _ _ _ _ _ _ _ ta _ _ _ _ _ arr e0 es1 cp _ v0 q1 ⟨⟨mc, q2⟩, q2r, q2c, q2z⟩ q4 (by omega) (by rw [List.length_map, q5]; decide) hes k2 hta) rfl rfl ⟨Nat.le_of_ble_eq_true rfl, Nat.le_of_ble_eq_true rfl⟩ (Nat.le_of_ble_eq_true rfl) (Nat.le_of_ble_eq_true rfl) (Nat.le_of_ble_eq_true rfl) ?_
          rintro _ M1 ⟨rfl, e1, e2, e3, e4, e5⟩
          have hem : (es1 = []) = ((S.2.1 i).2.1.tail = []) := by
            rw [hvs]
            show (es1 = []) = (vt = [])
            rw [← List.length_eq_zero_iff, ← List.length_eq_zero_iff, hvl]
          have hr2 : QRep M1 g.2.2.2.1 (ow M own i) i qa (takQ (S.2.1 i)) := by
            refine hqx.gen 1 es1.length (tr' := .ref ta) ?_ ?_ ?_ ?_ ?_ ?_ ?_ (fun e y h => ?_)
            · rw [e1]
              unfold takQ fQs
              simp only [hem]
              rw [q3', hvs]
              rfl
            · rw [show ((e0 :: es1).drop 1).take es1.length = es1 by simp]; exact e2
            · unfold takQ
              simp [hvs, hvl]
            · rw [e3]
              unfold takQ
              simp only [hem, q5, List.length_map]
              split <;> rfl
            · unfold takQ
              dsimp only
              split
              · rfl
              · exact q5
            · unfold takQ
              exact hpt
            · unfold takQ
              rw [htr]
              exact ⟨ta, rfl, by rw [ow_old (by rw [hta]; simp)]; exact hto, e4⟩
            · exact e5 e (zne h q1 (by simp)) (zne h q2 (by simp)) (zne h q2r (by intro h; cases h)) (zne h q4 (by intro h; cases h)) (zne h hta (by simp))
          have hm2 := hm.updQ hqa (by rw [hz0]; simp) (fun y y1 y2 => e5 y (fun w => y2 (by rw [w]; exact q8)) (fun w => y2 (by rw [w]; exact q9)) (fun w => y2 (by rw [w]; exact q11 harz)) (fun w => y2 (by rw [w]; exact q10)) (fun w => y2 (by rw [w]; exact hto))) hr2
          refine z_istore_n (i := 3) d_MQ_take_55 rfl (by decide) rfl ?_
          refine z_aload_n d_MQ_take_56 rfl ?_
          refine z_callV gt_good d_MQ_take_57 zv_MQ_69 (hm2.1.1) rfl (fun l => c_MQ_lookAtTriggers l g M1 _ x qarr lt lw qs (takS S i) cap hm2 hc hbd) rfl rfl ⟨Nat.le_of_ble_eq_true rfl, Nat.le_of_ble_eq_true rfl⟩ (Nat.le_of_ble_eq_true rfl) (by first | (dsimp only [ZRm]; omega) | (dsimp only [ZRm, List.length]; omega) | (simp [ZRm]; done)) (by first | (dsimp only [ZRm]; omega) | (dsimp only [ZRm, List.length]; omega) | (simp [ZRm]; done)) ?_
          rintro _ M3 ⟨rfl, own3, cap3, hm3, hc3⟩
          refine z_iload_n d_MQ_take_60 rfl ?_
          refine z_ireturn d_MQ_take_61 rfl ?_ (by first | (dsimp only [ZRm]; omega) | (dsimp only [ZRm, List.length]; omega) | (simp [ZRm]; done)) (by first | (dsimp only [ZRm]; omega) | (dsimp only [ZRm, List.length]; omega) | (simp [ZRm]; done))
          rw [show takI S i = _ from by unfold takI; rw [if_neg hkt, if_neg hne, if_neg hst], show (S.2.1 i).2.1.length = (e0 :: es1).length from q3']
          exact ⟨rfl, own3, cap3, hm3, hc3⟩
      · skip
        have hst : (S.2.1 i).2.1.length = (S.2.1 i).2.2.1 := by
          have h := (nI_eq (a := (S.2.1 i).2.1.length - (S.2.1 i).2.2.1) (b := 0) (by omega) (by decide)).mp h45
          omega
        refine z_bipush (v := (-5)) d_MQ_take_48 (by decide) ?_
        refine z_ireturn d_MQ_take_50 rfl ?_ (by decide) (by decide)
        rw [show takI S i = _ from by unfold takI; rw [if_neg hkt, if_neg hne, if_pos hst]]
        exact ⟨rfl, own, cap, hm, hc⟩
    · skip
      have hne : (S.2.1 i).2.1 = [] := List.length_eq_zero_iff.mp ((nI_eq (by omega) (by decide)).mp (by have h := zif1 h35; rw [q3] at h; exact h))
      refine z_bipush (v := (-4)) d_MQ_take_38 (by decide) ?_
      refine z_ireturn d_MQ_take_40 rfl ?_ (by decide) (by decide)
      rw [show takI S i = _ from by unfold takI; rw [if_neg hkt, if_pos hne]]
      exact ⟨rfl, own, cap, hm, hc⟩
  · skip
    have hkt := zif1 h22
    refine z_bipush (v := (-3)) d_MQ_take_25 (by decide) ?_
    refine z_ireturn d_MQ_take_27 rfl ?_ (by decide) (by decide)
    rw [show takI S i = _ from by unfold takI; rw [if_pos hkt]]
    exact ⟨rfl, own, cap, hm, hc⟩
set_option maxHeartbeats 4000000 in
set_option maxRecDepth 100000 in
theorem c_MQ_takeB (l : Launch) (g : ZG) (M : ZM) (own : Nat → Nat) (x qarr lt lw : Nat) (qs : List Nat) (S : MS) (cap : Nat) (q : Int32) (hm : MRep M g.2.2.2.1 own x qarr lt lw qs S cap) (hc : cap ≤ 1000) (hq : q < 0 ∨ 32 ≤ q) : ZC vcl tlx GT l g y_MQ_take b_MQ_take 4 (Option.some FieldType.int) (ZRm 11 70 6000) [.ref x, .int q] M (fun r M' => M = M' ∧ r = some (.int (-2))) := by
  refine ZC.of (by decide) (Nat.le_of_ble_eq_true rfl) rfl (fun k hz0 => ?_)
  obtain ⟨⟨hx, hqr, hl, hX, hXq⟩, hQ, hT, hD, hzo⟩ := id hm
  refine z_aload_n d_MQ_take_0 rfl ?_
  refine z_iload_n d_MQ_take_1 rfl ?_
  refine z_callV gt_good d_MQ_take_2 zv_MQ_39 (hx) rfl (fun l => c_MQ_isQueue l g M x qarr lt lw S qs _ hx hqr hl) rfl rfl ⟨Nat.le_of_ble_eq_true rfl, Nat.le_of_ble_eq_true rfl⟩ (Nat.le_of_ble_eq_true rfl) (Nat.le_of_ble_eq_true rfl) (Nat.le_of_ble_eq_true rfl) ?_
  rintro _ _ ⟨rfl, rfl⟩
  rw [if_pos hq]
  refine z_if_ne (tgt := 11) d_MQ_take_5 (by decide) (fun h5 => False.elim (h5 rfl)) (fun h5 => ?_)
  refine z_bipush (v := (-2)) d_MQ_take_8 (by decide) ?_
  refine z_ireturn d_MQ_take_10 rfl ?_ (by decide) (by decide)
  exact ⟨rfl, rfl⟩
