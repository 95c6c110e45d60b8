set_option maxHeartbeats 4000000 in
set_option maxRecDepth 100000 in
theorem lp_MQ_beginAgain (g : ZG) (k : ZK) (post : Option Value → ZM → Prop) (M : ZM) (own : Nat → Nat) (x qarr lt lw : Nat) (qs : List Nat) (S : MS) (cap : Nat) (e : Int32) (hm : MRep M g.2.2.2.1 own x qarr lt lw qs S cap) (hc : cap ≤ 1000) (hz0 : M g.2.2.2.1 = some (.inl (0, []))) (hb : S.2.2.1.length ≤ 600) (hp : ∀ (M1 : ZM) (own1 : Nat → Nat) (cap1 : Nat), MRep M1 g.2.2.2.1 own1 x qarr lt lw qs (agN S e 32).2 cap1 → cap1 ≤ 1000 → post (some (.int (agN S e 32).1)) M1) : ∀ (d i : Nat) (lo lo2 : Option Value), i + d = 32 → agN S e 32 = agN S e d → ZW vcl tlx GT "MonitorQueues" b_MQ_beginAgain 5 (Option.some FieldType.int) "beginAgain" (ZRm 9 2 1002) g k post [some (.ref x), some (.int e), some (.int (nI i)), lo, lo2] 2 [] (M) 0 0 := by
  obtain ⟨⟨hx, hqr, hl, hX, hXq⟩, hQ, hT, hD, hzo⟩ := id hm
  intro d
  induction d with
  | zero =>
    intro i lo lo2 hi ha
    obtain rfl : i = 32 := by omega
    refine z_iload_n d_MQ_beginAgain_2 rfl ?_
    refine z_aload_n d_MQ_beginAgain_3 rfl ?_
    refine z_get d_MQ_beginAgain_4 zf_MQ_24 (hx) rfl ?_
    refine z_alen d_MQ_beginAgain_7 (hqr) rfl ?_
    rw [show nI (List.map Value.ref qs).length = nI 32 by rw [List.length_map, hl]]
    refine z_icmp_ge (tgt := 85) d_MQ_beginAgain_8 (by decide) (fun h8 => ?_) (fun h8 => False.elim (h8 (nI_le (Nat.le_refl _) (by decide))))
    refine z_iconst (v := 0) d_MQ_beginAgain_85 (by decide) ?_
    refine z_ireturn d_MQ_beginAgain_86 rfl ?_ (by decide) (by decide)
    have hp0 := hp M own cap (by rw [ha]; exact hm) hc
    rw [ha] at hp0
    exact hp0
  | succ d ih =>
    intro i lo lo2 hi ha
    have hid : 31 - d = i := by omega
    obtain ⟨qa, hqa⟩ : ∃ qa, qs[i]? = some qa := ⟨qs[i], List.getElem?_eq_getElem (by omega)⟩
    have hv : (qs.map Value.ref)[i]? = some (.ref qa) := by rw [List.getElem?_map, hqa]; rfl
    obtain ⟨la, pa, arr, es, cp, tr, hqx⟩ := hQ i qa hqa
    obtain ⟨q1, ⟨⟨mc, q2⟩, q2r, q2c, q2z⟩, q2b, ⟨q3, q3e, q3n⟩, q4, q5, q6, q7, q8, q9, q10, q11⟩ := id hqx
    cases htr : (S.2.1 i).2.2.2.2.2.2.2.2.1 with
    | none =>
      rw [htr] at q7
      have q7 : tr = .null := q7
      subst q7
      have hsm : agN S e (d + 1) = agN S e d := by
        show (match (S.2.1 (31 - d)).2.2.2.2.2.2.2.2.1 with | none => _ | some t => _) = _
        rw [hid, htr]
      refine z_iload_n d_MQ_beginAgain_2 rfl ?_
      refine z_aload_n d_MQ_beginAgain_3 rfl ?_
      refine z_get d_MQ_beginAgain_4 zf_MQ_24 (hx) rfl ?_
      refine z_alen d_MQ_beginAgain_7 (hqr) rfl ?_
      rw [show nI (List.map Value.ref qs).length = nI 32 by rw [List.length_map, hl]]
      refine z_icmp_ge (tgt := 85) d_MQ_beginAgain_8 (by decide) (fun h8 => False.elim (nI_ge (show i < 32 by omega) (by decide) h8)) (fun h8 => ?_)
      refine z_aload_n d_MQ_beginAgain_11 rfl ?_
      refine z_get d_MQ_beginAgain_12 zf_MQ_24 (hx) rfl ?_
      refine z_iload_n d_MQ_beginAgain_15 rfl ?_
      refine z_aald d_MQ_beginAgain_16 hqr rfl rfl (by omega) hv ?_
      refine z_get d_MQ_beginAgain_17 zf_MQ_128 (q1) rfl ?_
      refine z_astore_nN (i := 3) d_MQ_beginAgain_20 rfl (by decide) rfl ?_
      refine z_aload_nN d_MQ_beginAgain_21 rfl ?_
      refine z_ifnullN (tgt := 79) d_MQ_beginAgain_22 (by decide) ?_
      refine z_iinc (v := nI (i + 1)) d_MQ_beginAgain_79 rfl (nI_1 i) (by decide) rfl ?_
      refine z_goto (tgt := 2) d_MQ_beginAgain_82 (by decide) ?_
      exact ih (i + 1) _ _ (by omega) (ha.trans hsm)
    | some t =>
      rw [htr] at q7
      obtain ⟨ta, hte, hto, hta⟩ := q7
      subst hte
      have hxta : ta ≠ x := zne hta hx (by simp)
      have hcap := hT.len
      have hok := capA_ok (n := S.2.2.1.length) (cap := cap) (by omega) hc hcap
      refine z_iload_n d_MQ_beginAgain_2 rfl ?_
      refine z_aload_n d_MQ_beginAgain_3 rfl ?_
      refine z_get d_MQ_beginAgain_4 zf_MQ_24 (hx) rfl ?_
      refine z_alen d_MQ_beginAgain_7 (hqr) rfl ?_
      rw [show nI (List.map Value.ref qs).length = nI 32 by rw [List.length_map, hl]]
      refine z_icmp_ge (tgt := 85) d_MQ_beginAgain_8 (by decide) (fun h8 => False.elim (nI_ge (show i < 32 by omega) (by decide) h8)) (fun h8 => ?_)
      refine z_aload_n d_MQ_beginAgain_11 rfl ?_
      refine z_get d_MQ_beginAgain_12 zf_MQ_24 (hx) rfl ?_
      refine z_iload_n d_MQ_beginAgain_15 rfl ?_
      refine z_aald d_MQ_beginAgain_16 hqr rfl rfl (by omega) hv ?_
      refine z_get d_MQ_beginAgain_17 zf_MQ_128 (q1) rfl ?_
      refine z_astore_n (i := 3) d_MQ_beginAgain_20 rfl (by decide) rfl ?_
      refine z_aload_n d_MQ_beginAgain_21 rfl ?_
      refine z_ifnull d_MQ_beginAgain_22 ?_
      refine z_aload_n d_MQ_beginAgain_25 rfl ?_
      refine z_get d_MQ_beginAgain_26 zf_MQ_199 (hta) rfl ?_
      refine z_iload_n d_MQ_beginAgain_29 rfl ?_
      refine z_icmp_ne (tgt := 79) d_MQ_beginAgain_30 (by decide) (fun h30 => ?_) (fun h30 => ?_)
      · skip
        have hsm : agN S e (d + 1) = agN S e d := by
          show (match (S.2.1 (31 - d)).2.2.2.2.2.2.2.2.1 with | none => _ | some t => _) = _
          rw [hid, htr]
          exact if_neg h30
        refine z_iinc (v := nI (i + 1)) d_MQ_beginAgain_79 rfl (nI_1 i) (by decide) rfl ?_
        refine z_goto (tgt := 2) d_MQ_beginAgain_82 (by decide) ?_
        exact ih (i + 1) _ _ (by omega) (ha.trans hsm)
      · skip
        have h30 : t.2.2.2.1 = e := h30
        have hag : agN S e 32 = agT S i t := by
          rw [ha]
          show (match (S.2.1 (31 - d)).2.2.2.2.2.2.2.2.1 with | none => _ | some t => _) = _
          rw [hid, htr]
          exact if_pos h30
        have hx1 : (zset M ta (.inr (4, fT (t.1, t.2.1, t.2.2.1, 0, t.2.2.2.2)))) x = some (.inr (0, fM qarr lt lw S)) := by rw [zset_ne (Ne.symm hxta)]; exact hx
        refine z_aload_n d_MQ_beginAgain_33 rfl ?_
        refine z_iconst (v := 0) d_MQ_beginAgain_34 (by decide) ?_
        refine z_put d_MQ_beginAgain_35 zp_MQ_199 (hta) rfl rfl ?_
        refine z_aload_n d_MQ_beginAgain_38 rfl ?_
        refine z_get d_MQ_beginAgain_39 zf_MQ_202 (zset_self _ _ _) rfl ?_
        refine z_if_ne (tgt := 61) d_MQ_beginAgain_42 (by decide) (fun h42 => ?_) (fun h42 => ?_)
        · skip
          have hagc : ¬ agC S i t := fun h => h42 h.1
          refine z_iconst (v := 0) d_MQ_beginAgain_61 (by decide) ?_
          refine z_istore d_MQ_beginAgain_62 (by decide) rfl ?_
          refine z_iload d_MQ_beginAgain_64 rfl ?_
          refine z_if_eq (tgt := 77) d_MQ_beginAgain_66 (by decide) (fun h66 => ?_) (fun h66 => False.elim (h66 rfl))
          refine z_iconst (v := 0) d_MQ_beginAgain_77 (by decide) ?_
          refine z_ireturn d_MQ_beginAgain_78 rfl ?_ (by decide) (by decide)
          have hr2 : QRep (zset M ta (.inr (4, fT (t.1, t.2.1, t.2.2.1, 0, t.2.2.2.2)))) g.2.2.2.1 (ow M own i) i qa (setTr (S.2.1 i) (some (t.1, t.2.1, t.2.2.1, 0, t.2.2.2.2))) := ⟨la, pa, arr, es, cp, .ref ta, hqx.trig hta (fun y y1 y2 y3 => ⟨zset_ne y3, by rw [ow_old y1]; exact y2⟩) (zset_ne (zne hz0 hta (by intro h; cases h))) (by rw [ow_old (by rw [hta]; simp)]; exact hto) (zset_self _ _ _)⟩
          have hm2 := hm.updQ hqa (by rw [hz0]; simp) (fun y y1 y2 => zset_ne (fun w => y2 (by rw [w]; exact hto))) hr2
          have hp0 := hp _ _ cap (by rw [hag]; unfold agT; rw [if_neg hagc]; exact hm2) hc
          rw [hag] at hp0
          unfold agT at hp0
          rw [if_neg hagc] at hp0
          exact hp0
        · skip
          refine z_aload_n d_MQ_beginAgain_45 rfl ?_
          refine z_get d_MQ_beginAgain_46 zf_MQ_24 (hx1) rfl ?_
          refine z_iload_n d_MQ_beginAgain_49 rfl ?_
          refine z_aald d_MQ_beginAgain_50 (by rw [zset_ne (zne hqr hta (by intro h; cases h))]; exact hqr) rfl rfl (by omega) hv ?_
          refine z_callV gt_good d_MQ_beginAgain_51 zv_MQ_117 (by rw [zset_ne (zne q1 hta (by simp))]; exact q1) rfl (fun l => c_Qu_standing l g _ qa la pa _ _ _ _ _ _ _ _ arr (nI es.length) mc (by rw [zset_ne (zne q1 hta (by simp))]; exact q1) (by rw [zset_ne (zne q2 hta (by simp))]; exact q2)) rfl rfl ⟨Nat.le_of_ble_eq_true rfl, Nat.le_of_ble_eq_true rfl⟩ (Nat.le_of_ble_eq_true rfl) (Nat.le_of_ble_eq_true rfl) (Nat.le_of_ble_eq_true rfl) ?_
          rintro _ _ ⟨rfl, rfl⟩
          rw [q3, pk_sub q6]
          refine z_if_le (tgt := 61) d_MQ_beginAgain_54 (by decide) (fun h54 => ?_) (fun h54 => ?_)
          · skip
            have hagc : ¬ agC S i t := fun h => nI_nle h.2 (by omega) h54
            refine z_iconst (v := 0) d_MQ_beginAgain_61 (by decide) ?_
            refine z_istore d_MQ_beginAgain_62 (by decide) rfl ?_
            refine z_iload d_MQ_beginAgain_64 rfl ?_
            refine z_if_eq (tgt := 77) d_MQ_beginAgain_66 (by decide) (fun h66 => ?_) (fun h66 => False.elim (h66 rfl))
            refine z_iconst (v := 0) d_MQ_beginAgain_77 (by decide) ?_
            refine z_ireturn d_MQ_beginAgain_78 rfl ?_ (by decide) (by decide)
            have hr2 : QRep (zset M ta (.inr (4, fT (t.1, t.2.1, t.2.2.1, 0, t.2.2.2.2)))) g.2.2.2.1 (ow M own i) i qa (setTr (S.2.1 i) (some (t.1, t.2.1, t.2.2.1, 0, t.2.2.2.2))) := ⟨la, pa, arr, es, cp, .ref ta, hqx.trig hta (fun y y1 y2 y3 => ⟨zset_ne y3, by rw [ow_old y1]; exact y2⟩) (zset_ne (zne hz0 hta (by intro h; cases h))) (by rw [ow_old (by rw [hta]; simp)]; exact hto) (zset_self _ _ _)⟩
            have hm2 := hm.updQ hqa (by rw [hz0]; simp) (fun y y1 y2 => zset_ne (fun w => y2 (by rw [w]; exact hto))) hr2
            have hp0 := hp _ _ cap (by rw [hag]; unfold agT; rw [if_neg hagc]; exact hm2) hc
            rw [hag] at hp0
            unfold agT at hp0
            rw [if_neg hagc] at hp0
            exact hp0
          · skip
            have hagc : agC S i t := ⟨h42, by
              rcases Nat.eq_zero_or_pos ((S.2.1 i).2.1.length - (S.2.1 i).2.2.1) with q | q
              · exact absurd (by rw [q]; exact (by decide : nI 0 ≤ 0)) h54
              · exact q⟩
            refine z_iconst (v := 1) d_MQ_beginAgain_57 (by decide) ?_
            refine z_goto (tgt := 62) d_MQ_beginAgain_58 (by decide) ?_
            refine z_istore d_MQ_beginAgain_62 (by decide) rfl ?_
            refine z_iload d_MQ_beginAgain_64 rfl ?_
            refine z_if_eq (tgt := 77) d_MQ_beginAgain_66 (by decide) (fun h66 => False.elim (absurd h66 (by decide))) (fun h66 => ?_)
            refine z_aload_n d_MQ_beginAgain_69 rfl ?_
            refine z_aload_n d_MQ_beginAgain_70 rfl ?_
            refine z_callV gt_good d_MQ_beginAgain_71 zv_MQ_215 (hx1) rfl (fun l => c_MQ_beginFor l g _ own x qarr lt lw S cap ta (t.1, t.2.1, t.2.2.1, 0, t.2.2.2.2) hx1 hX (hT.fr (fun y y1 y2 => ⟨zset_ne (fun w => by rw [w, hto] at y2; omega), y2⟩) (zset_ne (zne hz0 hta (by intro h; cases h)))) (by omega) (zset_self _ _ _) (by omega)) rfl rfl ⟨Nat.le_of_ble_eq_true rfl, Nat.le_of_ble_eq_true rfl⟩ (Nat.le_of_ble_eq_true rfl) (by dsimp only [ZRm]; (repeat' split) <;> omega) (by dsimp only [ZRm]; (repeat' split) <;> omega) ?_
            rintro _ M2 ⟨rfl, e1, e2, e3, e4⟩
            refine z_goto (tgt := 78) d_MQ_beginAgain_74 (by decide) ?_
            refine z_ireturn d_MQ_beginAgain_78 rfl ?_ (by dsimp only [ZRm]; (repeat' split) <;> omega) (by dsimp only [ZRm]; (repeat' split) <;> omega)
            have hp0 := hp _ (ow (zset M ta (.inr (4, fT (t.1, t.2.1, t.2.2.1, 0, t.2.2.2.2)))) own 32) (capA S.2.2.1.length cap) (by
                rw [hag]
                unfold agT
                rw [if_pos hagc]
                refine hm.upd hqa (fun y hy => ow_old (zset_dom hy)) (by rw [hz0]; simp) e2 rfl ⟨la, pa, arr, es, cp, .ref ta, hqx.trig hta (fun y y1 y2 y3 => ⟨by rw [e4 y (zset_dom y1) (fun w => by rw [w, hX] at y2; omega) y3 (by omega), zset_ne y3], by rw [ow_old (zset_dom y1)]; exact y2⟩) (by rw [e4 _ (zset_dom (by rw [hz0]; simp)) (fun w => by rw [w, hX] at hzo; omega) (fun w => by rw [w, hto] at hzo; omega) (by omega), zset_ne (zne hz0 hta (by intro h; cases h))]) (by rw [ow_old (zset_dom (by rw [hta]; simp))]; exact hto) e1⟩ e3 rfl (fun y y1 y2 y3 y4 => by rw [e4 y (zset_dom y1) y2 (fun w => y3 (by rw [w]; exact hto)) y4, zset_ne (fun w => y3 (by rw [w]; exact hto))])) hok
            rw [hag] at hp0
            unfold agT at hp0
            rw [if_pos hagc] at hp0
            exact hp0
set_option maxHeartbeats 4000000 in
set_option maxRecDepth 100000 in
theorem c_MQ_beginAgain (l : Launch) (g : ZG) (M : ZM) (own : Nat → Nat) (x qarr lt lw : Nat) (qs : List Nat) (S : MS) (cap : Nat) (e : Int32) (hm : MRep M g.2.2.2.1 own x qarr lt lw qs S cap) (hc : cap ≤ 1000) (hb : S.2.2.1.length ≤ 600) : ZC vcl tlx GT l g y_MQ_beginAgain b_MQ_beginAgain 5 (Option.some FieldType.int) (ZRm 9 2 1002) [.ref x, .int e] M (fun r M' => r = some (.int (agN S e 32).1) ∧ ∃ (own' : Nat → Nat) (cap' : Nat), MRep M' g.2.2.2.1 own' x qarr lt lw qs (agN S e 32).2 cap' ∧ cap' ≤ 1000) := by
  refine ZC.of (by decide) (Nat.le_of_ble_eq_true rfl) rfl (fun k hz0 => ?_)
  refine z_iconst (v := 0) d_MQ_beginAgain_0 (by decide) ?_
  refine z_istore_n (i := 2) d_MQ_beginAgain_1 rfl (by decide) rfl ?_
  exact lp_MQ_beginAgain g k _ M own x qarr lt lw qs S cap e hm hc hz0 hb (fun M1 o1 c1 h1 h2 => ⟨rfl, o1, c1, h1, h2⟩) 32 0 _ _ rfl rfl
