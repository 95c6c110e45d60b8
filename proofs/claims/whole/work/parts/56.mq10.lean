set_option maxHeartbeats 4000000 in
set_option maxRecDepth 100000 in
theorem c_MQ_end (l : Launch) (g : ZG) (M : ZM) (own : Nat → Nat) (x qarr lt lw : Nat) (qs : List Nat) (S : MS) (cap : Nat) (t : Int32) (hm : MRep M g.2.2.2.1 own x qarr lt lw qs S cap) (hc : cap ≤ 1000) (hlen : S.2.2.1.length ≤ 600) (hbd : (lookN (agN (endS S (t - 1).toNatClampNeg) t 32).2 32).2.2.1.length ≤ 600) : ZC vcl tlx GT l g y_MQ_end b_MQ_end 4 (Option.some FieldType.int) (ZRm 11 70 6000) [.ref x, .int t] M (fun r M' => r = some (.int (endI S t).1) ∧ ∃ (own' : Nat → Nat) (cap' : Nat), MRep M' g.2.2.2.1 own' x qarr lt lw qs (endI S t).2 cap' ∧ cap' ≤ 1000) := by
  refine ZC.of (by decide) (Nat.le_of_ble_eq_true rfl) rfl (fun k hz0 => ?_)
  obtain ⟨⟨hx, hqr, hl, hX, hXq⟩, hQ, hT, hD, hzo⟩ := id hm
  obtain ⟨arr, es, t1, t2, t3, t4, t5, t6⟩ := id hT
  obtain ⟨⟨mc, u2⟩, u2r, u2c, u2z⟩ := id t1
  refine z_aload_n d_MQ_end_0 rfl ?_
  refine z_iload_n d_MQ_end_1 rfl ?_
  refine z_callV gt_good d_MQ_end_2 zv_MQ_132 (hx) rfl (fun l => c_MQ_isTask l g M x qarr lt lw S arr (nI es.length) mc t hx u2) rfl rfl ⟨Nat.le_of_ble_eq_true rfl, Nat.le_of_ble_eq_true rfl⟩ (Nat.le_of_ble_eq_true rfl) (Nat.le_of_ble_eq_true rfl) (Nat.le_of_ble_eq_true rfl) ?_
  rintro _ _ ⟨rfl, rfl⟩
  refine z_if_ne (tgt := 11) d_MQ_end_5 (by decide) (fun h5 => ?_) (fun h5 => ?_)
  · skip
    have hb := zifn h5
    rw [t2] at hb
    obtain ⟨j, hj1, hj2, hj3, hj4⟩ := zpos (by omega) hb
    obtain ⟨e, he⟩ : ∃ e, es[j]? = some e := ⟨es[j]'(by omega), List.getElem?_eq_getElem (by omega)⟩
    obtain ⟨y, k1, k2, k3⟩ := t3 j e he
    refine z_aload_n d_MQ_end_11 rfl ?_
    refine z_get d_MQ_end_12 zf_MQ_32 (hx) rfl ?_
    refine z_iload_n d_MQ_end_15 rfl ?_
    refine z_iconst (v := 1) d_MQ_end_16 (by decide) ?_
    refine z_isub d_MQ_end_17 ?_
    rw [hj3]
    refine z_callV gt_good d_MQ_end_18 zv_MQ_90 (u2) rfl (fun l => c_AL_get l g M lt arr es.length mc _ j e u2 u2r (by omega) (by omega) (al_get he)) rfl rfl ⟨Nat.le_of_ble_eq_true rfl, Nat.le_of_ble_eq_true rfl⟩ (Nat.le_of_ble_eq_true rfl) (Nat.le_of_ble_eq_true rfl) (Nat.le_of_ble_eq_true rfl) ?_
    rintro _ _ ⟨rfl, rfl⟩
    refine z_cast (ci := 3) d_MQ_end_21 gw_294 k2 rfl rfl ?_
    refine z_astore_n (i := 2) d_MQ_end_24 rfl (by decide) rfl ?_
    refine z_aload_n d_MQ_end_25 rfl ?_
    refine z_get d_MQ_end_26 zf_MQ_140 (k2) rfl ?_
    refine z_if_ne (tgt := 35) d_MQ_end_29 (by decide) (fun h29 => ?_) (fun h29 => ?_)
    · skip
      have hgo : ¬ ((S.2.2.1[(t - 1).toNatClampNeg]?).getD (0, 0)).2 = 0 := by rw [hj4, k1]; exact h29
      refine z_aload_n d_MQ_end_35 rfl ?_
      refine z_iconst (v := 0) d_MQ_end_36 (by decide) ?_
      refine z_put d_MQ_end_37 zp_MQ_140 (k2) rfl rfl ?_
      refine z_aload_n d_MQ_end_40 rfl ?_
      refine z_dup d_MQ_end_41 rfl ?_
      refine z_get d_MQ_end_42 zf_MQ_144 (by rw [zset_ne (zne hx k2 (by simp))]; exact hx) rfl ?_
      refine z_iconst (v := 1) d_MQ_end_45 (by decide) ?_
      refine z_isub d_MQ_end_46 ?_
      refine z_put d_MQ_end_47 zp_MQ_144 (by rw [zset_ne (zne hx k2 (by simp))]; exact hx) rfl rfl ?_
      refine z_aload_n d_MQ_end_50 rfl ?_
      refine z_iload_n d_MQ_end_51 rfl ?_
      have hxe : x ≠ e := zne hx k2 (by simp)
      have hy : S.2.2.1[j]?.getD (0, 0) = y := by rw [k1]; rfl
      have hm1 : MRep (zset (zset M e (.inr (3, [.int y.1, .int 0]))) x (.inr (0, fM qarr lt lw (endS S j)))) g.2.2.2.1 own x qarr lt lw qs (endS S j) cap := by
        refine hm.updTD (fun _ _ => rfl) (by rw [hz0]; simp) (zset_self _ _ _) rfl ?_ (hD.fr (fun w w1 w2 => ⟨by rw [zset_ne (fun q => by rw [q, hX] at w2; omega), zset_ne (fun q => by rw [q, k3] at w2; omega)], w2⟩) (by rw [zset_ne (zne hz0 hx (by intro h; cases h)), zset_ne (zne hz0 k2 (by intro h; cases h))])) (fun w w1 w2 w3 w4 => by rw [zset_ne w2, zset_ne (fun q => by rw [q, k3] at w3; omega)])
        have hh := (TaR.set (w := (y.1, 0)) t1 t2 t3 t4 t5 t6 he).fr (M' := zset (zset M e (.inr (3, [.int y.1, .int 0]))) x (.inr (0, fM qarr lt lw (endS S j)))) (own' := own) (fun w w1 w2 => ⟨zset_ne (fun q => by rw [q, hX] at w2; omega), w2⟩) (zset_ne (zne hz0 hx (by intro h; cases h)))
        unfold endS
        rw [hy]
        exact hh
      refine z_callV gt_good d_MQ_end_52 zv_MQ_147 (hm1.1.1) rfl (fun l => c_MQ_beginAgain l g (zset (zset M e (.inr (3, [.int y.1, .int 0]))) x (.inr (0, fM qarr lt lw (endS S j)))) own x qarr lt lw qs (endS S j) cap t hm1 hc (by unfold endS; rw [List.length_set]; exact hlen)) rfl rfl ⟨Nat.le_of_ble_eq_true rfl, Nat.le_of_ble_eq_true rfl⟩ (Nat.le_of_ble_eq_true rfl) (by first | (dsimp only [ZRm]; omega) | (dsimp only [ZRm, List.length]; omega) | (simp [ZRm]; done)) (by first | (dsimp only [ZRm]; omega) | (dsimp only [ZRm, List.length]; omega) | (simp [ZRm]; done)) ?_
      rintro _ M3 ⟨rfl, own3, cap3, hm3, hc3⟩
      refine z_istore_n (i := 3) d_MQ_end_55 rfl (by decide) rfl ?_
      refine z_aload_n d_MQ_end_56 rfl ?_
      refine z_callV gt_good d_MQ_end_57 zv_MQ_69 (hm3.1.1) rfl (fun l => c_MQ_lookAtTriggers l g M3 own3 x qarr lt lw qs _ cap3 hm3 hc3 (by rw [hj4] at hbd; exact hbd)) rfl rfl ⟨Nat.le_of_ble_eq_true rfl, Nat.le_of_ble_eq_true rfl⟩ (Nat.le_of_ble_eq_true rfl) (by first | (dsimp only [ZRm]; omega) | (dsimp only [ZRm, List.length]; omega) | (simp [ZRm]; done)) (by first | (dsimp only [ZRm]; omega) | (dsimp only [ZRm, List.length]; omega) | (simp [ZRm]; done)) ?_
      rintro _ M4 ⟨rfl, own4, cap4, hm4, hc4⟩
      refine z_iload_n d_MQ_end_60 rfl ?_
      refine z_ireturn d_MQ_end_61 rfl ?_ (by first | (dsimp only [ZRm]; omega) | (dsimp only [ZRm, List.length]; omega) | (simp [ZRm]; done)) (by first | (dsimp only [ZRm]; omega) | (dsimp only [ZRm, List.length]; omega) | (simp [ZRm]; done))
      rw [show endI S t = _ from by unfold endI; rw [if_neg hb, if_neg hgo, hj4]]
      exact ⟨rfl, own4, cap4, hm4, hc4⟩
    · skip
      refine z_bipush (v := (-4)) d_MQ_end_32 (by decide) ?_
      refine z_ireturn d_MQ_end_34 rfl ?_ (by first | (dsimp only [ZRm]; omega) | (dsimp only [ZRm, List.length]; omega) | (simp [ZRm]; done)) (by first | (dsimp only [ZRm]; omega) | (dsimp only [ZRm, List.length]; omega) | (simp [ZRm]; done))
      rw [show endI S t = _ from by unfold endI; rw [if_neg hb, if_pos (by rw [hj4, k1]; exact h29)]]
      exact ⟨rfl, own, cap, hm, hc⟩
  · skip
    have hb := zift h5
    rw [t2] at hb
    refine z_bipush (v := (-4)) d_MQ_end_8 (by decide) ?_
    refine z_ireturn d_MQ_end_10 rfl ?_ (by first | (dsimp only [ZRm]; omega) | (dsimp only [ZRm, List.length]; omega) | (simp [ZRm]; done)) (by first | (dsimp only [ZRm]; omega) | (dsimp only [ZRm, List.length]; omega) | (simp [ZRm]; done))
    rw [show endI S t = _ from by unfold endI; rw [if_pos hb]]
    exact ⟨rfl, own, cap, hm, hc⟩
