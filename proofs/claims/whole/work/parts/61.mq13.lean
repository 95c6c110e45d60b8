set_option maxHeartbeats 4000000 in
set_option maxRecDepth 100000 in
theorem lp_MQ_unit (g : ZG) (k : ZK) (x qarr lt lw : Nat) (qs : List Nat) (S : MS) (cap : Nat) (u c : Int32) (hc : cap ≤ 1000) (hbd : (lookN (uniN S u c 32).2 32).2.2.1.length ≤ 600) (hgo : ¬ (u ≤ 0 ∨ 9 < u)) : ∀ (d i : Nat) (M : ZM) (own : Nat → Nat) (lo : Option Value), i + d = 32 → MRep M g.2.2.2.1 own x qarr lt lw qs (uniN S u c i).2 cap → M g.2.2.2.1 = some (.inl (0, [])) → ZW vcl tlx GT "MonitorQueues" b_MQ_unit 6 (Option.some FieldType.int) "unit" (ZRm 11 70 6000) g k (fun r M' => r = some (.int (uniI S u c).1) ∧ ∃ (own' : Nat → Nat) (cap' : Nat), MRep M' g.2.2.2.1 own' x qarr lt lw qs (uniI S u c).2 cap' ∧ cap' ≤ 1000) [some (.ref x), some (.int u), some (.int c), some (.int (nI ((uniN S u c i).1))), some (.int (nI i)), lo] 18 [] (M) 0 0 := by
  intro d
  induction d with
  | zero =>
    intro i M own lo hi hm hz0
    obtain rfl : i = 32 := by omega
    obtain ⟨⟨hx, hqr, hl, hX, hXq⟩, hQ, hT, hD, hzo⟩ := id hm
    refine z_iload d_MQ_unit_18 rfl ?_
    refine z_aload_n d_MQ_unit_20 rfl ?_
    refine z_get d_MQ_unit_21 zf_MQ_24 (hx) rfl ?_
    refine z_alen d_MQ_unit_24 (hqr) rfl ?_
    rw [show nI (List.map Value.ref qs).length = nI 32 by rw [List.length_map, hl]]
    refine z_icmp_ge (tgt := 69) d_MQ_unit_25 (by decide) (fun h25 => ?_) (fun h25 => False.elim (h25 (nI_le (Nat.le_refl _) (by decide))))
    refine z_aload_n d_MQ_unit_69 rfl ?_
    refine z_callV gt_good d_MQ_unit_70 zv_MQ_69 (hm.1.1) rfl (fun l => c_MQ_lookAtTriggers l g M own x qarr lt lw qs _ cap hm hc hbd) rfl rfl ⟨Nat.le_of_ble_eq_true rfl, Nat.le_of_ble_eq_true rfl⟩ (Nat.le_of_ble_eq_true rfl) (by first | (dsimp only [ZRm]; omega) | (dsimp only [ZRm, List.length]; omega) | (simp [ZRm]; done)) (by first | (dsimp only [ZRm]; omega) | (dsimp only [ZRm, List.length]; omega) | (simp [ZRm]; done)) ?_
    rintro _ M3 ⟨rfl, own3, cap3, hm3, hc3⟩
    refine z_iload_n d_MQ_unit_73 rfl ?_
    refine z_ireturn d_MQ_unit_74 rfl ?_ (by first | (dsimp only [ZRm]; omega) | (dsimp only [ZRm, List.length]; omega) | (simp [ZRm]; done)) (by first | (dsimp only [ZRm]; omega) | (dsimp only [ZRm, List.length]; omega) | (simp [ZRm]; done))
    rw [show uniI S u c = _ from by unfold uniI; rw [if_neg hgo]]
    exact ⟨rfl, own3, cap3, hm3, hc3⟩
  | succ d ih =>
    intro i M own lo hi hm hz0
    obtain ⟨⟨hx, hqr, hl, hX, hXq⟩, hQ, hT, hD, hzo⟩ := id hm
    obtain ⟨qa, hqa⟩ : ∃ qa, qs[i]? = some qa := ⟨qs[i], List.getElem?_eq_getElem (by omega)⟩
    have hv : (qs.map Value.ref)[i]? = some (.ref qa) := by rw [List.getElem?_map, hqa]; rfl
    obtain ⟨la, pa, arr, es, cp, tr, hqx⟩ := hQ i qa hqa
    obtain ⟨q1, ⟨⟨mc, q2⟩, q2r, q2c, q2z⟩, q2b, ⟨q3, q3e, q3n⟩, q4, q5, q6, q7, q8, q9, q10, q11⟩ := id hqx
    have ht := TrR.cases q7
    have n1 : pa ≠ qa := zne q4 q1 (by intro h; cases h)
    have n2 : la ≠ qa := zne q2 q1 (by simp)
    have n3 : arr ≠ qa := zne q2r q1 (by intro h; cases h)
    have n4 : pa ≠ la := zne q4 q2 (by intro h; cases h)
    have n5 : pa ≠ arr := zne q4 q2r (by simp)
    refine z_iload d_MQ_unit_18 rfl ?_
    refine z_aload_n d_MQ_unit_20 rfl ?_
    refine z_get d_MQ_unit_21 zf_MQ_24 (hx) rfl ?_
    refine z_alen d_MQ_unit_24 (hqr) rfl ?_
    rw [show nI (List.map Value.ref qs).length = nI 32 by rw [List.length_map, hl]]
    refine z_icmp_ge (tgt := 69) d_MQ_unit_25 (by decide) (fun h25 => False.elim (nI_ge (show i < 32 by omega) (by decide) h25)) (fun h25 => ?_)
    refine z_aload_n d_MQ_unit_28 rfl ?_
    refine z_get d_MQ_unit_29 zf_MQ_24 (hx) rfl ?_
    refine z_iload d_MQ_unit_32 rfl ?_
    refine z_aald d_MQ_unit_34 hqr rfl rfl (by omega) hv ?_
    refine z_astore d_MQ_unit_35 (by decide) rfl ?_
    refine z_aload d_MQ_unit_37 rfl ?_
    refine z_callV gt_good d_MQ_unit_39 zv_MQ_46 (q1) rfl (fun l => c_Qu_isLocked l g M qa la pa _ _ _ _ _ _ _ tr q1) rfl rfl ⟨Nat.le_of_ble_eq_true rfl, Nat.le_of_ble_eq_true rfl⟩ (Nat.le_of_ble_eq_true rfl) (Nat.le_of_ble_eq_true rfl) (Nat.le_of_ble_eq_true rfl) ?_
    rintro _ _ ⟨rfl, rfl⟩
    refine z_if_eq (tgt := 63) d_MQ_unit_42 (by decide) (fun h42 => ?_) (fun h42 => ?_)
    · skip
      have hno : ¬ uniC ((uniN S u c i).2.2.1 i) u := fun h => h.1 ((nI_le0 (by omega)).mp (zift h42))
      refine z_iinc (v := nI (i + 1)) d_MQ_unit_63 rfl (nI_1 i) (by decide) rfl ?_
      have hs : uniN S u c (i + 1) = ((uniN S u c i).1 + 0, (uniN S u c i).2) := by
        rw [uniN_succ]
        unfold uniP
        rw [if_neg hno]
      refine z_goto (tgt := 18) d_MQ_unit_66 (by decide) ?_
      have hh := ih (i + 1) M own (some (.ref qa)) (by omega) (by rw [hs]; exact hm) hz0
      rw [hs] at hh
      exact hh
    · skip
      refine z_aload d_MQ_unit_45 rfl ?_
      refine z_get d_MQ_unit_47 zf_MQ_50 (q1) rfl ?_
      refine z_iload_n d_MQ_unit_50 rfl ?_
      refine z_icmp_ne (tgt := 63) d_MQ_unit_51 (by decide) (fun h51 => ?_) (fun h51 => ?_)
      · skip
        have hno : ¬ uniC ((uniN S u c i).2.2.1 i) u := fun h => h51 h.2
        refine z_iinc (v := nI (i + 1)) d_MQ_unit_63 rfl (nI_1 i) (by decide) rfl ?_
        have hs : uniN S u c (i + 1) = ((uniN S u c i).1 + 0, (uniN S u c i).2) := by
          rw [uniN_succ]
          unfold uniP
          rw [if_neg hno]
        refine z_goto (tgt := 18) d_MQ_unit_66 (by decide) ?_
        have hh := ih (i + 1) M own (some (.ref qa)) (by omega) (by rw [hs]; exact hm) hz0
        rw [hs] at hh
        exact hh
      · skip
        have hyes : uniC ((uniN S u c i).2.2.1 i) u := ⟨fun e => zifn h42 ((nI_le0 (by omega)).mpr e), h51⟩
        refine z_iload_n d_MQ_unit_54 rfl ?_
        refine z_aload d_MQ_unit_55 rfl ?_
        refine z_iload_n d_MQ_unit_57 rfl ?_
        have harz : arr ≠ g.2.2.2.1 := zne q2r hz0 (by intro w; have := q6; have := hyes.1; cases es with | nil => rw [List.length_nil] at q3; omega | cons a b => simp at w)
        refine z_callV gt_good d_MQ_unit_58 zv_MQ_175 (q1) rfl (fun l => c_Qu_endPending l g M qa la pa _ _ _ _ _ _ tr arr es cp _ _ c q1 ⟨⟨mc, q2⟩, q2r, q2c, q2z⟩ q4 (by omega) (by rw [List.length_map, q5]; decide) (fun e he => by obtain ⟨j, hj⟩ := List.getElem?_of_mem he; obtain ⟨y, -, hy, -⟩ := q3e j e hj; exact ⟨y, hy⟩) (by rw [q3]; exact q6)) rfl rfl ⟨Nat.le_of_ble_eq_true rfl, Nat.le_of_ble_eq_true rfl⟩ (Nat.le_of_ble_eq_true rfl) (Nat.le_of_ble_eq_true rfl) (Nat.le_of_ble_eq_true rfl) ?_
        rintro _ M1 ⟨rfl, e1, e2, e3, e5⟩
        refine z_iadd d_MQ_unit_61 ?_
        rw [nI_add]
        refine z_istore_n (i := 3) d_MQ_unit_62 rfl (by decide) rfl ?_
        refine z_iinc (v := nI (i + 1)) d_MQ_unit_63 rfl (nI_1 i) (by decide) rfl ?_
        have hs : uniN S u c (i + 1) = ((uniN S u c i).1 + ((uniN S u c i).2.2.1 i).2.2.1, ((uniN S u c i).2.1, va_up (uniN S u c i).2.2.1 i (uniQ ((uniN S u c i).2.2.1 i) c), (uniN S u c i).2.2.2)) := by
          rw [uniN_succ]
          unfold uniP
          rw [if_pos hyes]
        have hr2 : QRep M1 g.2.2.2.1 (ow M own i) i qa (uniQ ((uniN S u c i).2.2.1 i) c) := by
          refine hqx.gen 0 (if c = 0 then es.length - ((uniN S u c i).2.2.1 i).2.2.1 else es.length) (tr' := tr) ?_ ?_ ?_ ?_ ?_ ?_ (q7.keep (fun ta fs h => ?_)) (fun e y h => ?_)
          · rw [e1]
            unfold uniQ fQs
            rw [q3]
            rfl
          · by_cases h0 : c = 0
            · rw [if_pos h0] at e2 ⊢
              rw [List.drop_zero]
              exact e2
            · rw [if_neg h0] at e2 ⊢
              rw [dt_all]; exact e2
          · show (if c = 0 then _ else _) = _
            by_cases h0 : c = 0
            · rw [if_pos h0, if_pos h0, q3, List.drop_zero]
            · rw [if_neg h0, if_neg h0, q3, dt_all]
          · rw [e3]
            show some (Sum.inl (1, if c = 0 ∧ es.length = _ then _ else _)) = some (Sum.inl (1, List.map Value.int (if c = 0 ∧ _ then _ else _)))
            rw [q3, List.length_map, q5]
            split <;> rfl
          · show (if c = 0 ∧ _ then _ else _ : List Int32).length = 8
            split
            · rfl
            · exact q5
          · exact Nat.zero_le _
          · exact e5 ta (zne h q1 (by simp)) (zne h q2 (by simp)) (zne h q2r (by intro h; cases h)) (zne h q4 (by intro h; cases h))
          · exact e5 e (zne h q1 (by simp)) (zne h q2 (by simp)) (zne h q2r (by intro h; cases h)) (zne h q4 (by intro h; cases h))
        have fr2 : ∀ y, M y ≠ none → own y ≠ i → M1 y = M y := fun y y1 y2 => e5 y (fun w => y2 (by rw [w]; exact q8)) (fun w => y2 (by rw [w]; exact q9)) (fun w => y2 (by rw [w]; exact q11 harz)) (fun w => y2 (by rw [w]; exact q10))
        have hm2 := hm.updQ hqa (by rw [hz0]; simp) fr2 hr2
        have hz2 : M1 g.2.2.2.1 = some (.inl (0, [])) := by rw [fr2 _ (by rw [hz0]; simp) (by omega)]; exact hz0
        refine z_goto (tgt := 18) d_MQ_unit_66 (by decide) ?_
        have hh := ih (i + 1) M1 _ (some (.ref qa)) (by omega) (by rw [hs]; exact hm2) hz2
        rw [hs] at hh
        exact hh
set_option maxHeartbeats 4000000 in
set_option maxRecDepth 100000 in
theorem c_MQ_unit (l : Launch) (g : ZG) (M : ZM) (own : Nat → Nat) (x qarr lt lw : Nat) (qs : List Nat) (S : MS) (cap : Nat) (u c : Int32) (hm : MRep M g.2.2.2.1 own x qarr lt lw qs S cap) (hc : cap ≤ 1000) (hbd : (lookN (uniN S u c 32).2 32).2.2.1.length ≤ 600) : ZC vcl tlx GT l g y_MQ_unit b_MQ_unit 6 (Option.some FieldType.int) (ZRm 11 70 6000) [.ref x, .int u, .int c] M (fun r M' => r = some (.int (uniI S u c).1) ∧ ∃ (own' : Nat → Nat) (cap' : Nat), MRep M' g.2.2.2.1 own' x qarr lt lw qs (uniI S u c).2 cap' ∧ cap' ≤ 1000) := by
  refine ZC.of (by decide) (Nat.le_of_ble_eq_true rfl) rfl (fun k hz0 => ?_)
  have hgo0 : True := trivial
  refine z_iload_n d_MQ_unit_0 rfl ?_
  refine z_if_le (tgt := 10) d_MQ_unit_1 (by decide) (fun h1 => ?_) (fun h1 => ?_)
  · skip
    have hgo : u ≤ 0 ∨ 9 < u := Or.inl h1
    refine z_bipush (v := (-2)) d_MQ_unit_10 (by decide) ?_
    refine z_ireturn d_MQ_unit_12 rfl ?_ (by decide) (by decide)
    rw [show uniI S u c = _ from by unfold uniI; rw [if_pos hgo]]
    exact ⟨rfl, own, cap, hm, hc⟩
  · skip
    refine z_iload_n d_MQ_unit_4 rfl ?_
    refine z_bipush (v := 9) d_MQ_unit_5 (by decide) ?_
    refine z_icmp_le (tgt := 13) d_MQ_unit_7 (by decide) (fun h7 => ?_) (fun h7 => ?_)
    · skip
      have hgo : ¬ (u ≤ 0 ∨ 9 < u) := fun h => h.elim h1 (fun h => k2_nlt h7 h)
      refine z_iconst (v := 0) d_MQ_unit_13 (by decide) ?_
      refine z_istore_n (i := 3) d_MQ_unit_14 rfl (by decide) rfl ?_
      refine z_iconst (v := 0) d_MQ_unit_15 (by decide) ?_
      refine z_istore d_MQ_unit_16 (by decide) rfl ?_
      have hh := lp_MQ_unit g k x qarr lt lw qs S cap u c hc hbd hgo 32 0 M own none rfl (by rw [uniN_zero]; exact hm) hz0
      rw [uniN_zero] at hh
      exact hh
    · skip
      have hgo : u ≤ 0 ∨ 9 < u := Or.inr (k2_lt h7)
      refine z_bipush (v := (-2)) d_MQ_unit_10 (by decide) ?_
      refine z_ireturn d_MQ_unit_12 rfl ?_ (by decide) (by decide)
      rw [show uniI S u c = _ from by unfold uniI; rw [if_pos hgo]]
      exact ⟨rfl, own, cap, hm, hc⟩
set_option maxHeartbeats 4000000 in
set_option maxRecDepth 100000 in
theorem lp_MQ_age (g : ZG) (k : ZK) (x qarr lt lw : Nat) (qs : List Nat) (S : MS) (cap : Nat) (b : Int64) (hc : cap ≤ 1000) : ∀ (d i : Nat) (M : ZM) (own : Nat → Nat) (lo : Option Value), i + d = 32 → MRep M g.2.2.2.1 own x qarr lt lw qs (ageN S b i).2 cap → M g.2.2.2.1 = some (.inl (0, [])) → ZW vcl tlx GT "MonitorQueues" b_MQ_age 6 (Option.some FieldType.int) "age" (ZRm 11 70 6000) g k (fun r M' => r = some (.int (ageI S b).1) ∧ ∃ (own' : Nat → Nat) (cap' : Nat), MRep M' g.2.2.2.1 own' x qarr lt lw qs (ageI S b).2 cap' ∧ cap' ≤ 1000) [some (.ref x), some (.long b), none, some (.int (nI ((ageN S b i).1))), some (.int (nI i)), lo] 5 [] (M) 0 0 := by
  intro d
  induction d with
  | zero =>
    intro i M own lo hi hm hz0
    obtain rfl : i = 32 := by omega
    obtain ⟨⟨hx, hqr, hl, hX, hXq⟩, hQ, hT, hD, hzo⟩ := id hm
    refine z_iload d_MQ_age_5 rfl ?_
    refine z_aload_n d_MQ_age_7 rfl ?_
    refine z_get d_MQ_age_8 zf_MQ_24 (hx) rfl ?_
    refine z_alen d_MQ_age_11 (hqr) rfl ?_
    rw [show nI (List.map Value.ref qs).length = nI 32 by rw [List.length_map, hl]]
    refine z_icmp_ge (tgt := 64) d_MQ_age_12 (by decide) (fun h12 => ?_) (fun h12 => False.elim (h12 (nI_le (Nat.le_refl _) (by decide))))
    refine z_iload_n d_MQ_age_64 rfl ?_
    refine z_ireturn d_MQ_age_65 rfl ?_ (by first | (dsimp only [ZRm]; omega) | (dsimp only [ZRm, List.length]; omega) | (simp [ZRm]; done)) (by first | (dsimp only [ZRm]; omega) | (dsimp only [ZRm, List.length]; omega) | (simp [ZRm]; done))
    exact ⟨rfl, own, cap, hm, hc⟩
  | succ d ih =>
    intro i M own lo hi hm hz0
    obtain ⟨⟨hx, hqr, hl, hX, hXq⟩, hQ, hT, hD, hzo⟩ := id hm
    obtain ⟨qa, hqa⟩ : ∃ qa, qs[i]? = some qa := ⟨qs[i], List.getElem?_eq_getElem (by omega)⟩
    have hv : (qs.map Value.ref)[i]? = some (.ref qa) := by rw [List.getElem?_map, hqa]; rfl
    obtain ⟨la, pa, arr, es, cp, tr, hqx⟩ := hQ i qa hqa
    obtain ⟨q1, ⟨⟨mc, q2⟩, q2r, q2c, q2z⟩, q2b, ⟨q3, q3e, q3n⟩, q4, q5, q6, q7, q8, q9, q10, q11⟩ := id hqx
    have ht := TrR.cases q7
    have n1 : pa ≠ qa := zne q4 q1 (by intro h; cases h)
    have n2 : la ≠ qa := zne q2 q1 (by simp)
    have n3 : arr ≠ qa := zne q2r q1 (by intro h; cases h)
    have n4 : pa ≠ la := zne q4 q2 (by intro h; cases h)
    have n5 : pa ≠ arr := zne q4 q2r (by simp)
    refine z_iload d_MQ_age_5 rfl ?_
    refine z_aload_n d_MQ_age_7 rfl ?_
    refine z_get d_MQ_age_8 zf_MQ_24 (hx) rfl ?_
    refine z_alen d_MQ_age_11 (hqr) rfl ?_
    rw [show nI (List.map Value.ref qs).length = nI 32 by rw [List.length_map, hl]]
    refine z_icmp_ge (tgt := 64) d_MQ_age_12 (by decide) (fun h12 => False.elim (nI_ge (show i < 32 by omega) (by decide) h12)) (fun h12 => ?_)
    refine z_aload_n d_MQ_age_15 rfl ?_
    refine z_get d_MQ_age_16 zf_MQ_24 (hx) rfl ?_
    refine z_iload d_MQ_age_19 rfl ?_
    refine z_aald d_MQ_age_21 hqr rfl rfl (by omega) hv ?_
    refine z_astore d_MQ_age_22 (by decide) rfl ?_
    refine z_aload d_MQ_age_24 rfl ?_
    refine z_callV gt_good d_MQ_age_26 zv_MQ_79 (q1) rfl (fun l => c_Qu_isTemporary l g M qa la pa _ _ _ _ _ _ _ tr q1) rfl rfl ⟨Nat.le_of_ble_eq_true rfl, Nat.le_of_ble_eq_true rfl⟩ (Nat.le_of_ble_eq_true rfl) (Nat.le_of_ble_eq_true rfl) (Nat.le_of_ble_eq_true rfl) ?_
    rintro _ _ ⟨rfl, rfl⟩
    refine z_if_eq (tgt := 58) d_MQ_age_29 (by decide) (fun h29 => ?_) (fun h29 => ?_)
    · skip
      have hno : ¬ ageC ((ageN S b i).2.2.1 i) b := fun h => zif0 h29 h.1
      refine z_iinc (v := nI (i + 1)) d_MQ_age_58 rfl (nI_1 i) (by decide) rfl ?_
      have hs : ageN S b (i + 1) = ((ageN S b i).1 + 0, (ageN S b i).2) := by
        rw [ageN_succ]
        unfold ageP
        rw [if_neg hno]
      refine z_goto (tgt := 5) d_MQ_age_61 (by decide) ?_
      have hh := ih (i + 1) M own (some (.ref qa)) (by omega) (by rw [hs]; exact hm) hz0
      rw [hs] at hh
      exact hh
    · skip
      refine z_aload d_MQ_age_32 rfl ?_
      refine z_callV gt_good d_MQ_age_34 zv_MQ_46 (q1) rfl (fun l => c_Qu_isLocked l g M qa la pa _ _ _ _ _ _ _ tr q1) rfl rfl ⟨Nat.le_of_ble_eq_true rfl, Nat.le_of_ble_eq_true rfl⟩ (Nat.le_of_ble_eq_true rfl) (Nat.le_of_ble_eq_true rfl) (Nat.le_of_ble_eq_true rfl) ?_
      rintro _ _ ⟨rfl, rfl⟩
      refine z_if_ne (tgt := 58) d_MQ_age_37 (by decide) (fun h37 => ?_) (fun h37 => ?_)
      · skip
        have hno : ¬ ageC ((ageN S b i).2.2.1 i) b := fun h => zifn h37 ((nI_le0 (by omega)).mpr h.2.1)
        refine z_iinc (v := nI (i + 1)) d_MQ_age_58 rfl (nI_1 i) (by decide) rfl ?_
        have hs : ageN S b (i + 1) = ((ageN S b i).1 + 0, (ageN S b i).2) := by
          rw [ageN_succ]
          unfold ageP
          rw [if_neg hno]
        refine z_goto (tgt := 5) d_MQ_age_61 (by decide) ?_
        have hh := ih (i + 1) M own (some (.ref qa)) (by omega) (by rw [hs]; exact hm) hz0
        rw [hs] at hh
        exact hh
      · skip
        refine z_aload d_MQ_age_40 rfl ?_
        refine z_get d_MQ_age_42 zf_MQ_179 (q1) rfl ?_
        refine z_lload_n d_MQ_age_45 rfl ?_
        refine z_lcmp d_MQ_age_46 ?_
        refine z_if_ge (tgt := 58) d_MQ_age_47 (by decide) (fun h47 => ?_) (fun h47 => ?_)
        · skip
          have hno : ¬ ageC ((ageN S b i).2.2.1 i) b := fun h => i64_nle.mpr h.2.2 ((lg_cmp_ge _ _).mp h47)
          refine z_iinc (v := nI (i + 1)) d_MQ_age_58 rfl (nI_1 i) (by decide) rfl ?_
          have hs : ageN S b (i + 1) = ((ageN S b i).1 + 0, (ageN S b i).2) := by
            rw [ageN_succ]
            unfold ageP
            rw [if_neg hno]
          refine z_goto (tgt := 5) d_MQ_age_61 (by decide) ?_
          have hh := ih (i + 1) M own (some (.ref qa)) (by omega) (by rw [hs]; exact hm) hz0
          rw [hs] at hh
          exact hh
        · skip
          have hyes : ageC ((ageN S b i).2.2.1 i) b := ⟨zif1 h29, (nI_le0 (by omega)).mp (zift h37), i64_nle.mp (fun q => h47 ((lg_cmp_ge _ _).mpr q))⟩
          refine z_aload d_MQ_age_50 rfl ?_
          refine z_callV gt_good d_MQ_age_52 zv_MQ_182 (q1) rfl (fun l => c_Qu_becomeEmpty l g M qa la pa _ _ _ _ _ _ _ tr arr es cp _ q1 ⟨⟨mc, q2⟩, q2r, q2c, q2z⟩ q4 (by omega) (by rw [List.length_map, q5]; decide)) rfl rfl ⟨Nat.le_of_ble_eq_true rfl, Nat.le_of_ble_eq_true rfl⟩ (Nat.le_of_ble_eq_true rfl) (Nat.le_of_ble_eq_true rfl) (Nat.le_of_ble_eq_true rfl) ?_
          rintro _ M1 ⟨rfl, e1, e2, e3, e5⟩
          refine z_iinc (v := nI ((ageN S b i).1 + 1)) d_MQ_age_55 rfl (nI_1 _) (by decide) rfl ?_
          refine z_iinc (v := nI (i + 1)) d_MQ_age_58 rfl (nI_1 i) (by decide) rfl ?_
          have hs : ageN S b (i + 1) = ((ageN S b i).1 + 1, ((ageN S b i).2.1, va_up (ageN S b i).2.2.1 i (ageQ ((ageN S b i).2.2.1 i)), (ageN S b i).2.2.2)) := by
            rw [ageN_succ]
            unfold ageP
            rw [if_pos hyes]
          have hr2 : QRep M1 g.2.2.2.1 (ow M own i) i qa (ageQ ((ageN S b i).2.2.1 i)) := by
            refine hqx.gen 0 0 (tr' := tr) e1 (by rw [List.take_zero]; exact e2) (by rw [List.take_zero]; rfl) ?_ rfl ?_ (q7.keep (fun ta fs h => ?_)) (fun e y h => ?_)
            · rw [e3, List.length_map, q5]
              rfl
            · show ((ageN S b i).2.2.1 i).2.2.1 ≤ 0
              rw [hyes.2.1]; exact Nat.le_refl _
            · exact e5 ta (zne h q1 (by simp)) (zne h q2 (by simp)) (zne h q2r (by intro h; cases h)) (zne h q4 (by intro h; cases h))
            · exact e5 e (zne h q1 (by simp)) (zne h q2 (by simp)) (zne h q2r (by intro h; cases h)) (zne h q4 (by intro h; cases h))
          have fr2 : ∀ y, M y ≠ none → own y ≠ i → M1 y = M y := fun y y1 y2 => by
            by_cases w : y = arr
            · by_cases wz : arr = g.2.2.2.1
              · rw [w]; exact ALr.zk2 ⟨⟨mc, q2⟩, q2r, q2c, q2z⟩ e2 hz0 wz
              · exact absurd (by rw [w]; exact q11 wz) y2
            · exact e5 y (fun w => y2 (by rw [w]; exact q8)) (fun w => y2 (by rw [w]; exact q9)) w (fun w => y2 (by rw [w]; exact q10))
          have hm2 := hm.updQ hqa (by rw [hz0]; simp) fr2 hr2
          have hz2 : M1 g.2.2.2.1 = some (.inl (0, [])) := by rw [fr2 _ (by rw [hz0]; simp) (by omega)]; exact hz0
          refine z_goto (tgt := 5) d_MQ_age_61 (by decide) ?_
          have hh := ih (i + 1) M1 _ (some (.ref qa)) (by omega) (by rw [hs]; exact hm2) hz2
          rw [hs] at hh
          exact hh
set_option maxHeartbeats 4000000 in
set_option maxRecDepth 100000 in
theorem c_MQ_age (l : Launch) (g : ZG) (M : ZM) (own : Nat → Nat) (x qarr lt lw : Nat) (qs : List Nat) (S : MS) (cap : Nat) (b : Int64) (hm : MRep M g.2.2.2.1 own x qarr lt lw qs S cap) (hc : cap ≤ 1000) : ZC vcl tlx GT l g y_MQ_age b_MQ_age 6 (Option.some FieldType.int) (ZRm 11 70 6000) [.ref x, .long b] M (fun r M' => r = some (.int (ageI S b).1) ∧ ∃ (own' : Nat → Nat) (cap' : Nat), MRep M' g.2.2.2.1 own' x qarr lt lw qs (ageI S b).2 cap' ∧ cap' ≤ 1000) := by
  refine ZC.of (by decide) (Nat.le_of_ble_eq_true rfl) rfl (fun k hz0 => ?_)
  refine z_iconst (v := 0) d_MQ_age_0 (by decide) ?_
  refine z_istore_n (i := 3) d_MQ_age_1 rfl (by decide) rfl ?_
  refine z_iconst (v := 0) d_MQ_age_2 (by decide) ?_
  refine z_istore d_MQ_age_3 (by decide) rfl ?_
  have hh := lp_MQ_age g k x qarr lt lw qs S cap b hc 32 0 M own none rfl (by rw [ageN_zero]; exact hm) hz0
  rw [ageN_zero] at hh
  exact hh
