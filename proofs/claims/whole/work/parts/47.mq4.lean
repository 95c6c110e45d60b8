set_option maxHeartbeats 4000000 in
set_option maxRecDepth 100000 in
theorem t_MQ_put (g : ZG) (k0 : ZK) (M : ZM) (own : Nat → Nat) (x qarr lt lw : Nat) (qs : List Nat) (S : MS) (cap : Nat) (i qa : Nat) (k : Int32) (v : Int64) (u : Int32) (lo : Option Value) (hm : MRep M g.2.2.2.1 own x qarr lt lw qs S cap) (hc : cap ≤ 1000) (hz0 : M g.2.2.2.1 = some (.inl (0, []))) (hi : i < 32) (hqa : qs[i]? = some qa) (hlen : (S.2.1 i).2.1.length ≤ 600) (hbd : (lookN (putS S i k v u) 32).2.2.1.length ≤ 600) (b1 : ¬ putB k u) (b2 : adm (S.2.1 i) k) (b3 : ¬ putL (S.2.1 i) u) : ZW vcl tlx GT "MonitorQueues" b_MQ_put 8 (Option.some FieldType.int) "put" (ZRm 11 70 6000) g k0 (fun r M' => r = some (.int (putI S i k v u).1) ∧ ∃ (own' : Nat → Nat) (cap' : Nat), MRep M' g.2.2.2.1 own' x qarr lt lw qs (putI S i k v u).2 cap' ∧ cap' ≤ 1000) [some (.ref x), some (.int (nI i)), some (.int k), some (.long v), none, some (.int u), some (.ref qa), lo] 73 [] (M) 0 0 := by
  obtain ⟨⟨hx, hqr, hl, hX, hXq⟩, hQ, hT, hD, hzo⟩ := id hm
  obtain ⟨la, pa, arr, es, cp, tr, hqx⟩ := hQ i qa hqa
  obtain ⟨q1, ⟨⟨mc, q2⟩, q2r, q2c, q2z⟩, q2b, ⟨q3, q3e, q3n⟩, q4, q5, q6, q7, q8, q9, q10, q11⟩ := id hqx
  have hgood : ¬ (nI i < 0 ∨ 32 ≤ nI i) := fun h => h.elim (nI_pos (by omega)) (fun h => nI_ge hi (by decide) h)
  have hzq : g.2.2.2.1 ≠ qa := zne hz0 q1 (by intro h; cases h)
  have hcp := capA_ok (n := es.length) (cap := cp) (by omega) (by omega) q2c
  refine z_aload_n d_MQ_put_73 rfl ?_
  refine z_callV gt_good d_MQ_put_74 zv_MQ_53 (hx) rfl (fun l => c_MQ_allItems l g M own x qarr lt lw qs S cap hm) rfl rfl ⟨Nat.le_of_ble_eq_true rfl, Nat.le_of_ble_eq_true rfl⟩ (Nat.le_of_ble_eq_true rfl) (Nat.le_of_ble_eq_true rfl) (Nat.le_of_ble_eq_true rfl) ?_
  rintro _ _ ⟨rfl, rfl⟩
  refine z_aload_n d_MQ_put_77 rfl ?_
  refine z_get d_MQ_put_78 zf_MQ_18 (hx) rfl ?_
  refine z_icmp_lt (tgt := 86) d_MQ_put_81 (by decide) (fun h81 => ?_) (fun h81 => ?_)
  · skip
    refine z_aload d_MQ_put_86 rfl ?_
    refine z_aload_n d_MQ_put_88 rfl ?_
    refine z_get d_MQ_put_89 zf_MQ_57 (hx) rfl ?_
    refine z_callV gt_good d_MQ_put_92 zv_MQ_61 (q1) rfl (fun l => c_Qu_touch l g M qa la pa _ _ _ _ _ _ _ tr S.2.2.2.2.2.2 q1) rfl rfl ⟨Nat.le_of_ble_eq_true rfl, Nat.le_of_ble_eq_true rfl⟩ (Nat.le_of_ble_eq_true rfl) (Nat.le_of_ble_eq_true rfl) (Nat.le_of_ble_eq_true rfl) ?_
    rintro _ _ ⟨rfl, rfl⟩
    have w1 : Qx (zset M qa (.inr (1, fQ la pa (S.2.1 i).1 (nI (S.2.1 i).2.2.1) (S.2.1 i).2.2.2.1 S.2.2.2.2.2.2 (S.2.1 i).2.2.2.2.2.1 (S.2.1 i).2.2.2.2.2.2.1 (S.2.1 i).2.2.2.2.2.2.2.1 tr))) g.2.2.2.1 own i qa ((S.2.1 i).1, (S.2.1 i).2.1, (S.2.1 i).2.2.1, (S.2.1 i).2.2.2.1, S.2.2.2.2.2.2, (S.2.1 i).2.2.2.2.2) la pa arr es cp tr := hqx.own1 (s' := ((S.2.1 i).1, (S.2.1 i).2.1, (S.2.1 i).2.2.1, (S.2.1 i).2.2.2.1, S.2.2.2.2.2.2, (S.2.1 i).2.2.2.2.2)) rfl rfl q6 hzq
    obtain ⟨v1, v2, v2b, ⟨v3, v3e, v3n⟩, -⟩ := id w1
    refine z_aload d_MQ_put_95 rfl ?_
    refine z_iload_n d_MQ_put_97 rfl ?_
    refine z_lload_n d_MQ_put_98 rfl ?_
    refine z_iload d_MQ_put_99 rfl ?_
    refine z_callV gt_good d_MQ_put_101 zv_MQ_65 (v1) rfl (fun l => c_Qu_append l g _ qa la pa _ _ _ _ _ _ _ tr k v u arr es cp v1 v2 (by omega) (fun e he => by obtain ⟨j, hj⟩ := List.getElem?_of_mem he; obtain ⟨y, -, hy, -⟩ := v3e j e hj; exact ⟨y, hy⟩)) rfl rfl ⟨Nat.le_of_ble_eq_true rfl, Nat.le_of_ble_eq_true rfl⟩ (Nat.le_of_ble_eq_true rfl) (by dsimp only [ZRm]; (repeat' split) <;> omega) (by dsimp only [ZRm]; (repeat' split) <;> omega) ?_
    rintro _ M2 ⟨q, arr', a1, a2, a3, a4, rfl, a5, a6, a7, a8⟩
    have hr2 : QRep M2 g.2.2.2.1 (ow (zset M qa (.inr (1, fQ la pa (S.2.1 i).1 (nI (S.2.1 i).2.2.1) (S.2.1 i).2.2.2.1 S.2.2.2.2.2.2 (S.2.1 i).2.2.2.2.2.1 (S.2.1 i).2.2.2.2.2.2.1 (S.2.1 i).2.2.2.2.2.2.2.1 tr))) own i) i qa (putQ (S.2.1 i) S.2.2.2.2.2.2 k v u) := by
      refine Qx.app (s := ((S.2.1 i).1, (S.2.1 i).2.1, (S.2.1 i).2.2.1, (S.2.1 i).2.2.2.1, S.2.2.2.2.2.2, (S.2.1 i).2.2.2.2.2)) w1 hlen a1 a2 a4 ?_ a6 a7 a8
      rw [a5]
      unfold putQ fQs
      by_cases hh : kProt k ∧ ¬ u = 0 <;> simp [hh, nI_succ]
    have how : ow (zset M qa (.inr (1, fQ la pa (S.2.1 i).1 (nI (S.2.1 i).2.2.1) (S.2.1 i).2.2.2.1 S.2.2.2.2.2.2 (S.2.1 i).2.2.2.2.2.1 (S.2.1 i).2.2.2.2.2.2.1 (S.2.1 i).2.2.2.2.2.2.2.1 tr))) own i = ow M own i := by
      funext y
      unfold ow
      by_cases hy : y = qa
      · rw [hy, zset_self, q1]
      · rw [zset_ne hy]
    rw [how] at hr2
    have hm2 := hm.updQ hqa (by rw [hz0]; simp) (fun y y1 y2 => by
      have hyq : y ≠ qa := fun e => y2 (by rw [e]; exact q8)
      have hyl : y ≠ la := fun e => y2 (by rw [e]; exact q9)
      have hyr : y ≠ arr' := fun e => by
        rcases a2 with w | w
        · exact y2 (by rw [e, w]; exact q11 (by rw [← w]; exact a4))
        · rw [e] at y1; exact y1 (zset_none w)
      rw [a8 y hyq hyl hyr (fun e => y1 (by rw [e]; exact zset_none a1)), zset_ne hyq]) hr2
    refine z_istore d_MQ_put_104 (by decide) rfl ?_
    refine z_aload_n d_MQ_put_106 rfl ?_
    refine z_callV gt_good d_MQ_put_107 zv_MQ_69 (hm2.1.1) rfl (fun l => c_MQ_lookAtTriggers l g M2 _ x qarr lt lw qs (putS S i k v u) cap hm2 hc hbd) rfl rfl ⟨Nat.le_of_ble_eq_true rfl, Nat.le_of_ble_eq_true rfl⟩ (Nat.le_of_ble_eq_true rfl) (by dsimp only [ZRm]; (repeat' split) <;> omega) (by dsimp only [ZRm]; (repeat' split) <;> omega) ?_
    rintro _ M3 ⟨rfl, own3, cap3, hm3, hc3⟩
    refine z_iload d_MQ_put_110 rfl ?_
    refine z_ireturn d_MQ_put_112 rfl ?_ (by dsimp only [ZRm]; (repeat' split) <;> omega) (by dsimp only [ZRm]; (repeat' split) <;> omega)
    rw [putI_0 b1 b2 b3 h81, q3]
    exact ⟨rfl, own3, cap3, hm3, hc3⟩
  · skip
    refine z_iconst (v := (-1)) d_MQ_put_84 (by decide) ?_
    refine z_ireturn d_MQ_put_85 rfl ?_ (by dsimp only [ZRm]; (repeat' split) <;> omega) (by dsimp only [ZRm]; (repeat' split) <;> omega)
    rw [putI_1 b1 b2 b3 h81]
    exact ⟨rfl, own, cap, hm, hc⟩
set_option maxHeartbeats 4000000 in
set_option maxRecDepth 100000 in
theorem c_MQ_put (l : Launch) (g : ZG) (M : ZM) (own : Nat → Nat) (x qarr lt lw : Nat) (qs : List Nat) (S : MS) (cap : Nat) (i : Nat) (k : Int32) (v : Int64) (u : Int32) (hm : MRep M g.2.2.2.1 own x qarr lt lw qs S cap) (hc : cap ≤ 1000) (hi : i < 32) (hlen : (S.2.1 i).2.1.length ≤ 600) (hbd : (lookN (putS S i k v u) 32).2.2.1.length ≤ 600) : ZC vcl tlx GT l g y_MQ_put b_MQ_put 8 (Option.some FieldType.int) (ZRm 11 70 6000) [.ref x, .int (nI i), .int k, .long v, .int u] M (fun r M' => r = some (.int (putI S i k v u).1) ∧ ∃ (own' : Nat → Nat) (cap' : Nat), MRep M' g.2.2.2.1 own' x qarr lt lw qs (putI S i k v u).2 cap' ∧ cap' ≤ 1000) := by
  refine ZC.of (by decide) (Nat.le_of_ble_eq_true rfl) rfl (fun k0 hz0 => ?_)
  obtain ⟨⟨hx, hqr, hl, hX, hXq⟩, hQ, hT, hD, hzo⟩ := id hm
  obtain ⟨qa, hqa⟩ : ∃ qa, qs[i]? = some qa := ⟨qs[i], List.getElem?_eq_getElem (by omega)⟩
  have hv : (qs.map Value.ref)[i]? = some (.ref qa) := by rw [List.getElem?_map, hqa]; rfl
  obtain ⟨la, pa, arr, es, cp, tr, hqx⟩ := hQ i qa hqa
  obtain ⟨q1, ⟨⟨mc, q2⟩, q2r, q2c, q2z⟩, q2b, ⟨q3, q3e, q3n⟩, q4, q5, q6, q7, q8, q9, q10, q11⟩ := id hqx
  have hgood : ¬ (nI i < 0 ∨ 32 ≤ nI i) := fun h => h.elim (nI_pos (by omega)) (fun h => nI_ge hi (by decide) h)
  have hzq : g.2.2.2.1 ≠ qa := zne hz0 q1 (by intro h; cases h)
  have ht := TrR.cases q7
  refine z_aload_n d_MQ_put_0 rfl ?_
  refine z_iload_n d_MQ_put_1 rfl ?_
  refine z_callV gt_good d_MQ_put_2 zv_MQ_39 (hx) rfl (fun l => c_MQ_isQueue l g M x qarr lt lw S qs _ hx hqr hl) rfl rfl ⟨Nat.le_of_ble_eq_true rfl, Nat.le_of_ble_eq_true rfl⟩ (Nat.le_of_ble_eq_true rfl) (Nat.le_of_ble_eq_true rfl) (Nat.le_of_ble_eq_true rfl) ?_
  rintro _ _ ⟨rfl, rfl⟩
  rw [if_neg hgood]
  refine z_if_eq (tgt := 29) d_MQ_put_5 (by decide) (fun h5 => False.elim (absurd h5 (by decide))) (fun h5 => ?_)
  refine z_iload_n d_MQ_put_8 rfl ?_
  refine z_if_lt (tgt := 29) d_MQ_put_9 (by decide) (fun h9 => ?_) (fun h9 => ?_)
  · skip
    have hb : putB k u := Or.inl h9
    refine z_bipush (v := (-2)) d_MQ_put_29 (by decide) ?_
    refine z_ireturn d_MQ_put_31 rfl ?_ (by decide) (by decide)
    rw [putI_2 hb]
    exact ⟨rfl, own, cap, hm, hc⟩
  · skip
    refine z_iload_n d_MQ_put_12 rfl ?_
    refine z_iconst (v := 4) d_MQ_put_13 (by decide) ?_
    refine z_icmp_ge (tgt := 29) d_MQ_put_14 (by decide) (fun h14 => ?_) (fun h14 => ?_)
    · skip
      have hb : putB k u := Or.inr (Or.inl h14)
      refine z_bipush (v := (-2)) d_MQ_put_29 (by decide) ?_
      refine z_ireturn d_MQ_put_31 rfl ?_ (by decide) (by decide)
      rw [putI_2 hb]
      exact ⟨rfl, own, cap, hm, hc⟩
    · skip
      refine z_iload d_MQ_put_17 rfl ?_
      refine z_if_lt (tgt := 29) d_MQ_put_19 (by decide) (fun h19 => ?_) (fun h19 => ?_)
      · skip
        have hb : putB k u := Or.inr (Or.inr (Or.inl h19))
        refine z_bipush (v := (-2)) d_MQ_put_29 (by decide) ?_
        refine z_ireturn d_MQ_put_31 rfl ?_ (by decide) (by decide)
        rw [putI_2 hb]
        exact ⟨rfl, own, cap, hm, hc⟩
      · skip
        refine z_iload d_MQ_put_22 rfl ?_
        refine z_bipush (v := 9) d_MQ_put_24 (by decide) ?_
        refine z_icmp_le (tgt := 32) d_MQ_put_26 (by decide) (fun h26 => ?_) (fun h26 => ?_)
        · skip
          have hb : ¬ putB k u := fun h => h.elim h9 (fun h => h.elim h14 (fun h => h.elim h19 (fun h => k2_nlt h26 h)))
          refine z_aload_n d_MQ_put_32 rfl ?_
          refine z_get d_MQ_put_33 zf_MQ_24 (hx) rfl ?_
          refine z_iload_n d_MQ_put_36 rfl ?_
          refine z_aald d_MQ_put_37 hqr rfl rfl (by omega) hv ?_
          refine z_astore d_MQ_put_38 (by decide) rfl ?_
          refine z_aload d_MQ_put_40 rfl ?_
          refine z_iload_n d_MQ_put_42 rfl ?_
          refine z_callV gt_good d_MQ_put_43 zv_MQ_43 (q1) rfl (fun l => c_Qu_admits l g M qa la pa _ _ _ _ _ _ _ tr k q1 ht.1) rfl rfl ⟨Nat.le_of_ble_eq_true rfl, Nat.le_of_ble_eq_true rfl⟩ (Nat.le_of_ble_eq_true rfl) (Nat.le_of_ble_eq_true rfl) (Nat.le_of_ble_eq_true rfl) ?_
          rintro _ _ ⟨rfl, rfl⟩
          refine z_if_ne (tgt := 52) d_MQ_put_46 (by decide) (fun h46 => ?_) (fun h46 => ?_)
          · skip
            have hadm : adm (S.2.1 i) k := by have h := zif1 h46; rw [ht.2] at h; exact h
            refine z_aload d_MQ_put_52 rfl ?_
            refine z_callV gt_good d_MQ_put_54 zv_MQ_46 (q1) rfl (fun l => c_Qu_isLocked l g M qa la pa _ _ _ _ _ _ _ tr q1) rfl rfl ⟨Nat.le_of_ble_eq_true rfl, Nat.le_of_ble_eq_true rfl⟩ (Nat.le_of_ble_eq_true rfl) (Nat.le_of_ble_eq_true rfl) (Nat.le_of_ble_eq_true rfl) ?_
            rintro _ _ ⟨rfl, rfl⟩
            refine z_if_eq (tgt := 73) d_MQ_put_57 (by decide) (fun h57 => ?_) (fun h57 => ?_)
            · skip
              have hlk : ¬ putL (S.2.1 i) u := fun h => h.1 ((nI_le0 (by omega)).mp (zift h57))
              exact t_MQ_put g k0 M own x qarr lt lw qs S cap i qa k v u _ hm hc hz0 hi hqa hlen hbd hb hadm hlk
            · skip
              refine z_aload d_MQ_put_60 rfl ?_
              refine z_get d_MQ_put_62 zf_MQ_50 (q1) rfl ?_
              refine z_iload d_MQ_put_65 rfl ?_
              refine z_icmp_eq (tgt := 73) d_MQ_put_67 (by decide) (fun h67 => ?_) (fun h67 => ?_)
              · skip
                have hlk : ¬ putL (S.2.1 i) u := fun h => h.2 h67
                exact t_MQ_put g k0 M own x qarr lt lw qs S cap i qa k v u _ hm hc hz0 hi hqa hlen hbd hb hadm hlk
              · skip
                have hlk : putL (S.2.1 i) u := ⟨fun e => zifn h57 ((nI_le0 (by omega)).mpr e), h67⟩
                refine z_bipush (v := (-5)) d_MQ_put_70 (by decide) ?_
                refine z_ireturn d_MQ_put_72 rfl ?_ (by decide) (by decide)
                rw [putI_5 hb hadm hlk]
                exact ⟨rfl, own, cap, hm, hc⟩
          · skip
            have hadm : ¬ adm (S.2.1 i) k := by
              have h := zif0 h46
              rw [ht.2] at h
              exact h
            refine z_bipush (v := (-3)) d_MQ_put_49 (by decide) ?_
            refine z_ireturn d_MQ_put_51 rfl ?_ (by decide) (by decide)
            rw [putI_3 hb hadm]
            exact ⟨rfl, own, cap, hm, hc⟩
        · skip
          have hb : putB k u := Or.inr (Or.inr (Or.inr (k2_lt h26)))
          refine z_bipush (v := (-2)) d_MQ_put_29 (by decide) ?_
          refine z_ireturn d_MQ_put_31 rfl ?_ (by decide) (by decide)
          rw [putI_2 hb]
          exact ⟨rfl, own, cap, hm, hc⟩
set_option maxHeartbeats 4000000 in
set_option maxRecDepth 100000 in
theorem c_MQ_putB (l : Launch) (g : ZG) (M : ZM) (own : Nat → Nat) (x qarr lt lw : Nat) (qs : List Nat) (S : MS) (cap : Nat) (q k : Int32) (v : Int64) (u : Int32) (hm : MRep M g.2.2.2.1 own x qarr lt lw qs S cap) (hc : cap ≤ 1000) (hq : q < 0 ∨ 32 ≤ q) : ZC vcl tlx GT l g y_MQ_put b_MQ_put 8 (Option.some FieldType.int) (ZRm 11 70 6000) [.ref x, .int q, .int k, .long v, .int u] M (fun r M' => M = M' ∧ r = some (.int (-2))) := by
  refine ZC.of (by decide) (Nat.le_of_ble_eq_true rfl) rfl (fun k hz0 => ?_)
  obtain ⟨⟨hx, hqr, hl, hX, hXq⟩, hQ, hT, hD, hzo⟩ := id hm
  refine z_aload_n d_MQ_put_0 rfl ?_
  refine z_iload_n d_MQ_put_1 rfl ?_
  refine z_callV gt_good d_MQ_put_2 zv_MQ_39 (hx) rfl (fun l => c_MQ_isQueue l g M x qarr lt lw S qs _ hx hqr hl) rfl rfl ⟨Nat.le_of_ble_eq_true rfl, Nat.le_of_ble_eq_true rfl⟩ (Nat.le_of_ble_eq_true rfl) (Nat.le_of_ble_eq_true rfl) (Nat.le_of_ble_eq_true rfl) ?_
  rintro _ _ ⟨rfl, rfl⟩
  rw [if_pos hq]
  refine z_if_eq (tgt := 29) d_MQ_put_5 (by decide) (fun h5 => ?_) (fun h5 => False.elim (h5 rfl))
  refine z_bipush (v := (-2)) d_MQ_put_29 (by decide) ?_
  refine z_ireturn d_MQ_put_31 rfl ?_ (by decide) (by decide)
  exact ⟨rfl, rfl⟩
