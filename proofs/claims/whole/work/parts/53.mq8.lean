set_option maxHeartbeats 4000000 in
set_option maxRecDepth 100000 in
theorem t_MQ_count (g : ZG) (k : ZK) (M : ZM) (own : Nat → Nat) (x qarr lt lw : Nat) (qs : List Nat) (S : MS) (cap : Nat) (w : Int32) (hm : MRep M g.2.2.2.1 own x qarr lt lw qs S cap) (hc : cap ≤ 1000) (hb : ¬ ¬ (w < 0 ∨ 32 ≤ w)) (hb2 : ¬ (¬ w < 32 ∧ ¬ (w - 32 < 0 ∨ 32 ≤ w - 32))) : ZW vcl tlx GT "MonitorQueues" b_MQ_count 2 (Option.some FieldType.int) "count" (ZRm 11 70 6000) g k (fun r M' => M = M' ∧ r = some (.int (cntF S w))) [some (.ref x), some (.int w)] 51 [] (M) 0 0 := by
  obtain ⟨⟨hx, hqr, hl, hX, hXq⟩, hQ, hT, hD, hzo⟩ := id hm
  obtain ⟨ar1, es1, ⟨⟨mc1, t1⟩, t1r, t1c, t1z⟩, t2, t3, -⟩ := id hT
  obtain ⟨ar2, es2, cp2, ⟨⟨mc2, u1⟩, u1r, u1c, u1z⟩, u2, u3, u4, -⟩ := id hD
  refine z_iload_n d_MQ_count_51 rfl ?_
  by_cases h64 : w = 64
  · rw [h64]
    refine z_tableIn (tgt := 84) d_MQ_count_52 (by decide) (by decide) (show _ = some (32 : Int) from rfl) (by decide) ?_
    refine z_aload_n d_MQ_count_84 rfl ?_
    refine z_callV gt_good d_MQ_count_85 zv_MQ_53 (hx) rfl (fun l => c_MQ_allItems l g M own x qarr lt lw qs S cap hm) rfl rfl ⟨Nat.le_of_ble_eq_true rfl, Nat.le_of_ble_eq_true rfl⟩ (Nat.le_of_ble_eq_true rfl) (Nat.le_of_ble_eq_true rfl) (Nat.le_of_ble_eq_true rfl) ?_
    rintro _ _ ⟨rfl, rfl⟩
    refine z_ireturn d_MQ_count_88 rfl ?_ (by decide) (by decide)
    refine ⟨rfl, ?_⟩
    unfold cntF
    rw [h64] at hb hb2
    rw [if_neg hb, if_neg hb2, if_pos rfl]
  by_cases h65 : w = 65
  · rw [h65]
    refine z_tableIn (tgt := 89) d_MQ_count_52 (by decide) (by decide) (show _ = some (37 : Int) from rfl) (by decide) ?_
    refine z_aload_n d_MQ_count_89 rfl ?_
    refine z_get d_MQ_count_90 zf_MQ_32 (hx) rfl ?_
    refine z_callV gt_good d_MQ_count_93 zv_MQ_151 (t1) rfl (fun l => c_AL_size l g M lt ar1 (nI es1.length) mc1 t1) rfl rfl ⟨Nat.le_of_ble_eq_true rfl, Nat.le_of_ble_eq_true rfl⟩ (Nat.le_of_ble_eq_true rfl) (Nat.le_of_ble_eq_true rfl) (Nat.le_of_ble_eq_true rfl) ?_
    rintro _ _ ⟨rfl, rfl⟩
    refine z_ireturn d_MQ_count_96 rfl ?_ (by decide) (by decide)
    refine ⟨rfl, ?_⟩
    unfold cntF
    rw [h65] at hb hb2
    rw [if_neg hb, if_neg hb2, if_neg (by decide), if_pos rfl, t2]
  by_cases h66 : w = 66
  · rw [h66]
    refine z_tableIn (tgt := 97) d_MQ_count_52 (by decide) (by decide) (show _ = some (45 : Int) from rfl) (by decide) ?_
    refine z_aload_n d_MQ_count_97 rfl ?_
    refine z_get d_MQ_count_98 zf_MQ_144 (hx) rfl ?_
    refine z_ireturn d_MQ_count_101 rfl ?_ (by decide) (by decide)
    refine ⟨rfl, ?_⟩
    unfold cntF
    rw [h66] at hb hb2
    rw [if_neg hb, if_neg hb2, if_neg (by decide), if_neg (by decide), if_pos rfl]
  by_cases h67 : w = 67
  · rw [h67]
    refine z_tableIn (tgt := 102) d_MQ_count_52 (by decide) (by decide) (show _ = some (50 : Int) from rfl) (by decide) ?_
    refine z_aload_n d_MQ_count_102 rfl ?_
    refine z_get d_MQ_count_103 zf_MQ_36 (hx) rfl ?_
    refine z_callV gt_good d_MQ_count_106 zv_MQ_151 (u1) rfl (fun l => c_AL_size l g M lw ar2 (nI es2.length) mc2 u1) rfl rfl ⟨Nat.le_of_ble_eq_true rfl, Nat.le_of_ble_eq_true rfl⟩ (Nat.le_of_ble_eq_true rfl) (Nat.le_of_ble_eq_true rfl) (Nat.le_of_ble_eq_true rfl) ?_
    rintro _ _ ⟨rfl, rfl⟩
    refine z_ireturn d_MQ_count_109 rfl ?_ (by decide) (by decide)
    refine ⟨rfl, ?_⟩
    unfold cntF
    rw [h67] at hb hb2
    rw [if_neg hb, if_neg hb2, if_neg (by decide), if_neg (by decide), if_neg (by decide), if_pos rfl, u3]
  refine z_tableOut (tgt := 110) d_MQ_count_52 ?_ (by decide) ?_
  · rcases Int.lt_or_le w.toInt 64 with q | q
    · exact Or.inl q
    · rcases Int.lt_or_le 67 w.toInt with q2 | q2
      · exact Or.inr q2
      · exfalso
        have e4 : ∀ v : Int32, ¬ w = v → w.toInt ≠ v.toInt := fun v h e => h (Int32.toInt_inj.mp e)
        have g4 := e4 64 h64
        have g5 := e4 65 h65
        have g6 := e4 66 h66
        have g7 := e4 67 h67
        have : (64 : Int32).toInt = 64 := rfl
        have : (65 : Int32).toInt = 65 := rfl
        have : (66 : Int32).toInt = 66 := rfl
        have : (67 : Int32).toInt = 67 := rfl
        omega
  · skip
    refine z_bipush (v := (-2)) d_MQ_count_110 (by decide) ?_
    refine z_ireturn d_MQ_count_112 rfl ?_ (by decide) (by decide)
    refine ⟨rfl, ?_⟩
    unfold cntF
    rw [if_neg hb, if_neg hb2, if_neg h64, if_neg h65, if_neg h66, if_neg h67]
set_option maxHeartbeats 4000000 in
set_option maxRecDepth 100000 in
theorem c_MQ_count (l : Launch) (g : ZG) (M : ZM) (own : Nat → Nat) (x qarr lt lw : Nat) (qs : List Nat) (S : MS) (cap : Nat) (w : Int32) (hm : MRep M g.2.2.2.1 own x qarr lt lw qs S cap) (hc : cap ≤ 1000) : ZC vcl tlx GT l g y_MQ_count b_MQ_count 2 (Option.some FieldType.int) (ZRm 11 70 6000) [.ref x, .int w] M (fun r M' => M = M' ∧ r = some (.int (cntF S w))) := by
  refine ZC.of (by decide) (Nat.le_of_ble_eq_true rfl) rfl (fun k hz0 => ?_)
  obtain ⟨⟨hx, hqr, hl, hX, hXq⟩, hQ, hT, hD, hzo⟩ := id hm
  refine z_aload_n d_MQ_count_0 rfl ?_
  refine z_iload_n d_MQ_count_1 rfl ?_
  refine z_callV gt_good d_MQ_count_2 zv_MQ_39 (hx) rfl (fun l => c_MQ_isQueue l g M x qarr lt lw S qs _ hx hqr hl) rfl rfl ⟨Nat.le_of_ble_eq_true rfl, Nat.le_of_ble_eq_true rfl⟩ (Nat.le_of_ble_eq_true rfl) (Nat.le_of_ble_eq_true rfl) (Nat.le_of_ble_eq_true rfl) ?_
  rintro _ _ ⟨rfl, rfl⟩
  refine z_if_eq (tgt := 21) d_MQ_count_5 (by decide) (fun h5 => ?_) (fun h5 => ?_)
  · skip
    have hb := not_not_intro (zift h5)
    refine z_iload_n d_MQ_count_21 rfl ?_
    refine z_bipush (v := 32) d_MQ_count_22 (by decide) ?_
    refine z_icmp_lt (tgt := 51) d_MQ_count_24 (by decide) (fun h24 => ?_) (fun h24 => ?_)
    · skip
      have hb2 : ¬ (¬ w < 32 ∧ ¬ (w - 32 < 0 ∨ 32 ≤ w - 32)) := fun h => h.1 h24
      exact t_MQ_count g k M own x qarr lt lw qs S cap w hm hc hb hb2
    · skip
      refine z_aload_n d_MQ_count_27 rfl ?_
      refine z_iload_n d_MQ_count_28 rfl ?_
      refine z_bipush (v := 32) d_MQ_count_29 (by decide) ?_
      refine z_isub d_MQ_count_31 ?_
      refine z_callV gt_good d_MQ_count_32 zv_MQ_39 (hx) rfl (fun l => c_MQ_isQueue l g M x qarr lt lw S qs _ hx hqr hl) rfl rfl ⟨Nat.le_of_ble_eq_true rfl, Nat.le_of_ble_eq_true rfl⟩ (Nat.le_of_ble_eq_true rfl) (Nat.le_of_ble_eq_true rfl) (Nat.le_of_ble_eq_true rfl) ?_
      rintro _ _ ⟨rfl, rfl⟩
      refine z_if_eq (tgt := 51) d_MQ_count_35 (by decide) (fun h35 => ?_) (fun h35 => ?_)
      · skip
        have hb2 : ¬ (¬ w < 32 ∧ ¬ (w - 32 < 0 ∨ 32 ≤ w - 32)) := fun h => h.2 (zift h35)
        exact t_MQ_count g k M own x qarr lt lw qs S cap w hm hc hb hb2
      · skip
        have hb2 : ¬ w < 32 ∧ ¬ (w - 32 < 0 ∨ 32 ≤ w - 32) := ⟨h24, zifn h35⟩
        obtain ⟨i, hi, hiw⟩ := zidx hb2.2
        obtain ⟨qa, hqa⟩ : ∃ qa, qs[i]? = some qa := ⟨qs[i], List.getElem?_eq_getElem (by omega)⟩
        have hv : (qs.map Value.ref)[i]? = some (.ref qa) := by rw [List.getElem?_map, hqa]; rfl
        obtain ⟨la, pa, arr, es, cp, tr, hqx⟩ := hQ i qa hqa
        obtain ⟨q1, ⟨⟨mc, q2⟩, q2r, q2c, q2z⟩, q2b, ⟨q3, q3e, q3n⟩, q4, q5, q6, q7, q8, q9, q10, q11⟩ := id hqx
        refine z_aload_n d_MQ_count_38 rfl ?_
        refine z_get d_MQ_count_39 zf_MQ_24 (hx) rfl ?_
        refine z_iload_n d_MQ_count_42 rfl ?_
        refine z_bipush (v := 32) d_MQ_count_43 (by decide) ?_
        refine z_isub d_MQ_count_45 ?_
        rw [hiw]
        refine z_aald d_MQ_count_46 hqr rfl rfl (by omega) hv ?_
        refine z_get d_MQ_count_47 zf_MQ_185 (q1) rfl ?_
        refine z_ireturn d_MQ_count_50 rfl ?_ (by decide) (by decide)
        refine ⟨rfl, ?_⟩
        unfold cntF
        rw [if_neg hb, if_pos hb2, hiw, nI_clamp (by omega)]
  · skip
    have hb := zifn h5
    obtain ⟨i, hi, hiw⟩ := zidx hb
    subst hiw
    obtain ⟨qa, hqa⟩ : ∃ qa, qs[i]? = some qa := ⟨qs[i], List.getElem?_eq_getElem (by omega)⟩
    have hv : (qs.map Value.ref)[i]? = some (.ref qa) := by rw [List.getElem?_map, hqa]; rfl
    obtain ⟨la, pa, arr, es, cp, tr, hqx⟩ := hQ i qa hqa
    obtain ⟨q1, ⟨⟨mc, q2⟩, q2r, q2c, q2z⟩, q2b, ⟨q3, q3e, q3n⟩, q4, q5, q6, q7, q8, q9, q10, q11⟩ := id hqx
    refine z_aload_n d_MQ_count_8 rfl ?_
    refine z_get d_MQ_count_9 zf_MQ_24 (hx) rfl ?_
    refine z_iload_n d_MQ_count_12 rfl ?_
    refine z_aald d_MQ_count_13 hqr rfl rfl (by omega) hv ?_
    refine z_get d_MQ_count_14 zf_MQ_87 (q1) rfl ?_
    refine z_callV gt_good d_MQ_count_17 zv_MQ_151 (q2) rfl (fun l => c_AL_size l g M la arr (nI es.length) mc q2) rfl rfl ⟨Nat.le_of_ble_eq_true rfl, Nat.le_of_ble_eq_true rfl⟩ (Nat.le_of_ble_eq_true rfl) (Nat.le_of_ble_eq_true rfl) (Nat.le_of_ble_eq_true rfl) ?_
    rintro _ _ ⟨rfl, rfl⟩
    refine z_ireturn d_MQ_count_20 rfl ?_ (by decide) (by decide)
    refine ⟨rfl, ?_⟩
    unfold cntF
    rw [if_pos hb, nI_clamp (by omega), q3]
