/-- get -/
def tchQ (s : QS) (now : Int64) : QS := (s.1, s.2.1, s.2.2.1, s.2.2.2.1, now, s.2.2.2.2.2)
abbrev gtE (S : MS) (i : Nat) (n : Int32) : Prop := (kTemp (S.2.1 i).1 ∧ nxN (S.2.1 i) n) ∨ (¬ kTemp (S.2.1 i).1 ∧ ((S.2.1 i).2.2.2.2.2.2.1 = 0 ∨ ¬ n = (S.2.1 i).2.2.2.2.2.2.1))
def gtI (S : MS) (i : Nat) (n : Int32) : Int64 × MS :=
  if kTemp (S.2.1 i).1 then (((S.2.1 i).2.1[(n - 1).toNatClampNeg]?).getD 0, (S.1, va_up S.2.1 i (tchQ (S.2.1 i) S.2.2.2.2.2.2), S.2.2)) else ((S.2.1 i).2.2.2.2.2.2.2.1, S)
theorem zset_dom2 {M : ZM} {a y : Nat} {e e' : ZE} (ha : M a = some e') (h : M y = none) : zset M a e y = none := by
  rw [zset_ne (fun w => by rw [w, ha] at h; cases h)]
  exact h
set_option maxHeartbeats 4000000 in
set_option maxRecDepth 100000 in
theorem c_MQ_get (l : Launch) (g : ZG) (M : ZM) (own : Nat → Nat) (x qarr lt lw : Nat) (qs : List Nat) (S : MS) (cap : Nat) (i : Nat) (n : Int32) (hm : MRep M g.2.2.2.1 own x qarr lt lw qs S cap) (hc : cap ≤ 1000) (hi : i < 32) (hlen : (S.2.1 i).2.1.length ≤ 600) (hno : ¬ gtE S i n) : ZC vcl tlx GT l g y_MQ_get b_MQ_get 4 (Option.some FieldType.long) (ZRm 11 70 6000) [.ref x, .int (nI i), .int n] M (fun r M' => r = some (.long (gtI S i n).1) ∧ ∃ (own' : Nat → Nat) (cap' : Nat), MRep M' g.2.2.2.1 own' x qarr lt lw qs (gtI S i n).2 cap' ∧ cap' ≤ 1000) := by
  refine ZC.of (by decide) (Nat.le_of_ble_eq_true rfl) rfl (fun k hz0 => ?_)
  obtain ⟨⟨hx, hqr, hl, hX, hXq⟩, hQ, hT, hD, hzo⟩ := id hm
  obtain ⟨qa, hqa⟩ : ∃ qa, qs[i]? = some qa := ⟨qs[i], List.getElem?_eq_getElem (by omega)⟩
  have hv : (qs.map Value.ref)[i]? = some (.ref qa) := by rw [List.getElem?_map, hqa]; rfl
  obtain ⟨la, pa, arr, es, cp, tr, hqx⟩ := hQ i qa hqa
  obtain ⟨q1, ⟨⟨mc, q2⟩, q2r, q2c, q2z⟩, q2b, ⟨q3, q3e, q3n⟩, q4, q5, q6, q7, q8, q9, q10, q11⟩ := id hqx
  have hgood : ¬ (nI i < 0 ∨ 32 ≤ nI i) := fun h => h.elim (nI_pos (by omega)) (fun h => nI_ge hi (by decide) h)
  have hzq : g.2.2.2.1 ≠ qa := zne hz0 q1 (by intro h; cases h)
  have hzq0 := hzq
  refine z_aload_n d_MQ_get_0 rfl ?_
  refine z_iload_n d_MQ_get_1 rfl ?_
  refine z_callV gt_good d_MQ_get_2 zv_MQ_39 (hx) rfl (fun l => c_MQ_isQueue l g M x qarr lt lw S qs _ hx hqr hl) rfl rfl ⟨Nat.le_of_ble_eq_true rfl, Nat.le_of_ble_eq_true rfl⟩ (Nat.le_of_ble_eq_true rfl) (Nat.le_of_ble_eq_true rfl) (Nat.le_of_ble_eq_true rfl) ?_
  rintro _ _ ⟨rfl, rfl⟩
  rw [if_neg hgood]
  refine z_if_ne (tgt := 18) d_MQ_get_5 (by decide) (fun h5 => ?_) (fun h5 => False.elim (absurd h5 (by decide)))
  refine z_aload_n d_MQ_get_18 rfl ?_
  refine z_get d_MQ_get_19 zf_MQ_24 (hx) rfl ?_
  refine z_iload_n d_MQ_get_22 rfl ?_
  refine z_aald d_MQ_get_23 hqr rfl rfl (by omega) hv ?_
  refine z_astore_n (i := 3) d_MQ_get_24 rfl (by decide) rfl ?_
  refine z_aload_n d_MQ_get_25 rfl ?_
  refine z_callV gt_good d_MQ_get_26 zv_MQ_79 (q1) rfl (fun l => c_Qu_isTemporary l g M qa la pa _ _ _ _ _ _ _ tr q1) rfl rfl ⟨Nat.le_of_ble_eq_true rfl, Nat.le_of_ble_eq_true rfl⟩ (Nat.le_of_ble_eq_true rfl) (Nat.le_of_ble_eq_true rfl) (Nat.le_of_ble_eq_true rfl) ?_
  rintro _ _ ⟨rfl, rfl⟩
  refine z_if_eq (tgt := 75) d_MQ_get_29 (by decide) (fun h29 => ?_) (fun h29 => ?_)
  · skip
    have hkt := zif0 h29
    refine z_aload_n d_MQ_get_75 rfl ?_
    refine z_get d_MQ_get_76 zf_MQ_99 (q1) rfl ?_
    refine z_if_eq (tgt := 90) d_MQ_get_79 (by decide) (fun h79 => ?_) (fun h79 => ?_)
    · skip
      exact absurd (Or.inr ⟨hkt, Or.inl h79⟩) hno
    · skip
      refine z_iload_n d_MQ_get_82 rfl ?_
      refine z_aload_n d_MQ_get_83 rfl ?_
      refine z_get d_MQ_get_84 zf_MQ_99 (q1) rfl ?_
      refine z_icmp_eq (tgt := 100) d_MQ_get_87 (by decide) (fun h87 => ?_) (fun h87 => ?_)
      · skip
        refine z_aload_n d_MQ_get_100 rfl ?_
        refine z_get d_MQ_get_101 zf_MQ_104 (q1) rfl ?_
        refine z_lreturn d_MQ_get_104 rfl ?_ (by decide) (by decide)
        rw [show gtI S i n = _ from by unfold gtI; rw [if_neg hkt]]
        exact ⟨rfl, own, cap, hm, hc⟩
      · skip
        exact absurd (Or.inr ⟨hkt, Or.inr h87⟩) hno
  · skip
    have hkt := zif1 h29
    refine z_aload_n d_MQ_get_32 rfl ?_
    refine z_iload_n d_MQ_get_33 rfl ?_
    refine z_callV gt_good d_MQ_get_34 zv_MQ_82 (q1) rfl (fun l => c_Qu_holds l g M qa la pa _ _ _ _ _ _ _ tr arr (nI es.length) mc _ q1 q2) rfl rfl ⟨Nat.le_of_ble_eq_true rfl, Nat.le_of_ble_eq_true rfl⟩ (Nat.le_of_ble_eq_true rfl) (Nat.le_of_ble_eq_true rfl) (Nat.le_of_ble_eq_true rfl) ?_
    rintro _ _ ⟨rfl, rfl⟩
    refine z_if_ne (tgt := 50) d_MQ_get_37 (by decide) (fun h37 => ?_) (fun h37 => ?_)
    · skip
      have hnx : ¬ nxN (S.2.1 i) n := by have h := zifn h37; rw [q3] at h; exact h
      obtain ⟨j, hj1, hj2, hj3, hj4⟩ := zpos (by omega) hnx
      obtain ⟨e, he⟩ : ∃ e, es[j]? = some e := ⟨es[j]'(by omega), List.getElem?_eq_getElem (by omega)⟩
      obtain ⟨y, k1, k2, k3⟩ := q3e j e he
      refine z_aload_n d_MQ_get_50 rfl ?_
      refine z_aload_n d_MQ_get_51 rfl ?_
      refine z_get d_MQ_get_52 zf_MQ_57 (hx) rfl ?_
      refine z_callV gt_good d_MQ_get_55 zv_MQ_61 (q1) rfl (fun l => c_Qu_touch l g M qa la pa _ _ _ _ _ _ _ tr S.2.2.2.2.2.2 q1) rfl rfl ⟨Nat.le_of_ble_eq_true rfl, Nat.le_of_ble_eq_true rfl⟩ (Nat.le_of_ble_eq_true rfl) (Nat.le_of_ble_eq_true rfl) (Nat.le_of_ble_eq_true rfl) ?_
      rintro _ _ ⟨rfl, rfl⟩
      have w1 : Qx (zset M qa (.inr (1, fQs la pa (tchQ (S.2.1 i) S.2.2.2.2.2.2) tr))) g.2.2.2.1 own i qa (tchQ (S.2.1 i) S.2.2.2.2.2.2) la pa arr es cp tr := hqx.own1 (s' := tchQ (S.2.1 i) S.2.2.2.2.2.2) rfl rfl q6 hzq
      obtain ⟨v1, ⟨⟨mc1, v2⟩, v2r, -⟩, -⟩ := id w1
      refine z_aload_n d_MQ_get_58 rfl ?_
      refine z_get d_MQ_get_59 zf_MQ_87 (w1.1) rfl ?_
      refine z_iload_n d_MQ_get_62 rfl ?_
      refine z_iconst (v := 1) d_MQ_get_63 (by decide) ?_
      refine z_isub d_MQ_get_64 ?_
      rw [hj3]
      refine z_callV gt_good d_MQ_get_65 zv_MQ_90 (v2) rfl (fun l => c_AL_get l g _ la arr es.length mc1 _ j e v2 v2r (by omega) (by omega) (al_get he)) rfl rfl ⟨Nat.le_of_ble_eq_true rfl, Nat.le_of_ble_eq_true rfl⟩ (Nat.le_of_ble_eq_true rfl) (Nat.le_of_ble_eq_true rfl) (Nat.le_of_ble_eq_true rfl) ?_
      rintro _ _ ⟨rfl, rfl⟩
      refine z_cast (ci := 2) d_MQ_get_68 gw_421 (by rw [zset_ne (zne k2 q1 (by simp))]; exact k2) rfl rfl ?_
      refine z_get d_MQ_get_71 zf_MQ_96 (by rw [zset_ne (zne k2 q1 (by simp))]; exact k2) rfl ?_
      refine z_lreturn d_MQ_get_74 rfl ?_ (by decide) (by decide)
      rw [show gtI S i n = _ from by unfold gtI; rw [if_pos hkt, hj4, k1]]
      have hr2 : QRep (zset M qa (.inr (1, fQs la pa (tchQ (S.2.1 i) S.2.2.2.2.2.2) tr))) g.2.2.2.1 (ow M own i) i qa (tchQ (S.2.1 i) S.2.2.2.2.2.2) := ⟨la, pa, arr, es, cp, tr, by
          have h := w1
          obtain ⟨h1, h2, h3, ⟨h4, h5, h6⟩, h7, h8, h9, h10, o1, o2, o3, o4⟩ := h
          refine ⟨h1, h2, h3, ⟨h4, fun j e hj => ?_, h6⟩, h7, h8, h9, ?_, ?_, ?_, ?_, ?_⟩
          · obtain ⟨x, a1, a2, a3⟩ := h5 j e hj
            refine ⟨x, a1, a2, ?_⟩
            rw [ow_old (fun w => by rw [zset_dom2 q1 w] at a2; cases a2)]; exact a3
          · cases hh : (tchQ (S.2.1 i) S.2.2.2.2.2.2).2.2.2.2.2.2.2.2.1 with
            | none => rw [hh] at h10; exact h10
            | some t =>
              rw [hh] at h10
              obtain ⟨ta, a1, a2, a3⟩ := h10
              exact ⟨ta, a1, by rw [ow_old (fun w => by rw [zset_dom2 q1 w] at a3; cases a3)]; exact a2, a3⟩
          · rw [ow_old (by rw [q1]; simp)]; exact o1
          · rw [ow_old (by rw [q2]; simp)]; exact o2
          · rw [ow_old (by rw [q4]; simp)]; exact o3
          · intro hh; rw [ow_old (by rw [q2r]; simp)]; exact o4 hh⟩
      have hm2 := hm.updQ hqa (by rw [hz0]; simp) (fun y y1 y2 => zset_ne (fun w => y2 (by rw [w]; exact q8))) hr2
      exact ⟨rfl, _, cap, hm2, hc⟩
    · skip
      have hnx : nxN (S.2.1 i) n := by have h := zift h37; rw [q3] at h; exact h
      exact absurd (Or.inl ⟨hkt, hnx⟩) hno
set_option maxHeartbeats 4000000 in
set_option maxRecDepth 100000 in
theorem c_MQ_getTB (l : Launch) (hlt : l.stackTraces = false) (g : ZG) (M : ZM) (own : Nat → Nat) (x qarr lt lw : Nat) (qs : List Nat) (S : MS) (cap : Nat) (q n : Int32) (hm : MRep M g.2.2.2.1 own x qarr lt lw qs S cap) (hc : cap ≤ 1000) (hq : q < 0 ∨ 32 ≤ q) : ZCT vcl tlx GT l g y_MQ_get b_MQ_get 4 (Option.some FieldType.long) (ZRm 11 70 6000) [.ref x, .int q, .int n] M (fun M' => M = M') := by
  refine ZCT.of (by decide) (Nat.le_of_ble_eq_true rfl) rfl (fun k hkl hxt hz0 => ?_)
  obtain ⟨⟨hx, hqr, hl, hX, hXq⟩, hQ, hT, hD, hzo⟩ := id hm
  refine z_aload_n d_MQ_get_0 rfl ?_
  refine z_iload_n d_MQ_get_1 rfl ?_
  refine z_callV gt_good d_MQ_get_2 zv_MQ_39 (hx) rfl (fun l => c_MQ_isQueue l g M x qarr lt lw S qs _ hx hqr hl) rfl rfl ⟨Nat.le_of_ble_eq_true rfl, Nat.le_of_ble_eq_true rfl⟩ (Nat.le_of_ble_eq_true rfl) (Nat.le_of_ble_eq_true rfl) (Nat.le_of_ble_eq_true rfl) ?_
  rintro _ _ ⟨rfl, rfl⟩
  rw [if_pos hq]
  refine z_if_ne (tgt := 18) d_MQ_get_5 (by decide) (fun h5 => False.elim (h5 rfl)) (fun h5 => ?_)
  exact z_throw d_MQ_get_8 d_MQ_get_11 d_MQ_get_12 d_MQ_get_14 d_MQ_get_17 (show (74, "no such queue") ∈ zSr by decide) (by rw [hkl]; exact hlt) hxt (by decide) (by decide) (by decide) (by decide) rfl
set_option maxHeartbeats 4000000 in
set_option maxRecDepth 100000 in
theorem c_MQ_getT (l : Launch) (hlt : l.stackTraces = false) (g : ZG) (M : ZM) (own : Nat → Nat) (x qarr lt lw : Nat) (qs : List Nat) (S : MS) (cap : Nat) (i : Nat) (n : Int32) (hm : MRep M g.2.2.2.1 own x qarr lt lw qs S cap) (hc : cap ≤ 1000) (hi : i < 32) (hlen : (S.2.1 i).2.1.length ≤ 600) (hno : gtE S i n) : ZCT vcl tlx GT l g y_MQ_get b_MQ_get 4 (Option.some FieldType.long) (ZRm 11 70 6000) [.ref x, .int (nI i), .int n] M (fun M' => M = M') := by
  refine ZCT.of (by decide) (Nat.le_of_ble_eq_true rfl) rfl (fun k hkl hxt hz0 => ?_)
  obtain ⟨⟨hx, hqr, hl, hX, hXq⟩, hQ, hT, hD, hzo⟩ := id hm
  obtain ⟨qa, hqa⟩ : ∃ qa, qs[i]? = some qa := ⟨qs[i], List.getElem?_eq_getElem (by omega)⟩
  have hv : (qs.map Value.ref)[i]? = some (.ref qa) := by rw [List.getElem?_map, hqa]; rfl
  obtain ⟨la, pa, arr, es, cp, tr, hqx⟩ := hQ i qa hqa
  obtain ⟨q1, ⟨⟨mc, q2⟩, q2r, q2c, q2z⟩, q2b, ⟨q3, q3e, q3n⟩, q4, q5, q6, q7, q8, q9, q10, q11⟩ := id hqx
  have hgood : ¬ (nI i < 0 ∨ 32 ≤ nI i) := fun h => h.elim (nI_pos (by omega)) (fun h => nI_ge hi (by decide) h)
  have hzq : g.2.2.2.1 ≠ qa := zne hz0 q1 (by intro h; cases h)
  refine z_aload_n d_MQ_get_0 rfl ?_
  refine z_iload_n d_MQ_get_1 rfl ?_
  refine z_callV gt_good d_MQ_get_2 zv_MQ_39 (hx) rfl (fun l => c_MQ_isQueue l g M x qarr lt lw S qs _ hx hqr hl) rfl rfl ⟨Nat.le_of_ble_eq_true rfl, Nat.le_of_ble_eq_true rfl⟩ (Nat.le_of_ble_eq_true rfl) (Nat.le_of_ble_eq_true rfl) (Nat.le_of_ble_eq_true rfl) ?_
  rintro _ _ ⟨rfl, rfl⟩
  rw [if_neg hgood]
  refine z_if_ne (tgt := 18) d_MQ_get_5 (by decide) (fun h5 => ?_) (fun h5 => False.elim (absurd h5 (by decide)))
  refine z_aload_n d_MQ_get_18 rfl ?_
  refine z_get d_MQ_get_19 zf_MQ_24 (hx) rfl ?_
  refine z_iload_n d_MQ_get_22 rfl ?_
  refine z_aald d_MQ_get_23 hqr rfl rfl (by omega) hv ?_
  refine z_astore_n (i := 3) d_MQ_get_24 rfl (by decide) rfl ?_
  refine z_aload_n d_MQ_get_25 rfl ?_
  refine z_callV gt_good d_MQ_get_26 zv_MQ_79 (q1) rfl (fun l => c_Qu_isTemporary l g M qa la pa _ _ _ _ _ _ _ tr q1) rfl rfl ⟨Nat.le_of_ble_eq_true rfl, Nat.le_of_ble_eq_true rfl⟩ (Nat.le_of_ble_eq_true rfl) (Nat.le_of_ble_eq_true rfl) (Nat.le_of_ble_eq_true rfl) ?_
  rintro _ _ ⟨rfl, rfl⟩
  refine z_if_eq (tgt := 75) d_MQ_get_29 (by decide) (fun h29 => ?_) (fun h29 => ?_)
  · skip
    have hkt := zif0 h29
    refine z_aload_n d_MQ_get_75 rfl ?_
    refine z_get d_MQ_get_76 zf_MQ_99 (q1) rfl ?_
    refine z_if_eq (tgt := 90) d_MQ_get_79 (by decide) (fun h79 => ?_) (fun h79 => ?_)
    · skip
      exact z_throw d_MQ_get_90 d_MQ_get_93 d_MQ_get_94 d_MQ_get_96 d_MQ_get_99 (show (102, "not the item taken latest") ∈ zSr by decide) (by rw [hkl]; exact hlt) hxt (by decide) (by decide) (by decide) (by decide) rfl
    · skip
      refine z_iload_n d_MQ_get_82 rfl ?_
      refine z_aload_n d_MQ_get_83 rfl ?_
      refine z_get d_MQ_get_84 zf_MQ_99 (q1) rfl ?_
      refine z_icmp_eq (tgt := 100) d_MQ_get_87 (by decide) (fun h87 => ?_) (fun h87 => ?_)
      · skip
        exact absurd hno (fun h => h.elim (fun h => hkt h.1) (fun h => h.2.elim h79 (fun h => h h87)))
      · skip
        exact z_throw d_MQ_get_90 d_MQ_get_93 d_MQ_get_94 d_MQ_get_96 d_MQ_get_99 (show (102, "not the item taken latest") ∈ zSr by decide) (by rw [hkl]; exact hlt) hxt (by decide) (by decide) (by decide) (by decide) rfl
  · skip
    have hkt := zif1 h29
    refine z_aload_n d_MQ_get_32 rfl ?_
    refine z_iload_n d_MQ_get_33 rfl ?_
    refine z_callV gt_good d_MQ_get_34 zv_MQ_82 (q1) rfl (fun l => c_Qu_holds l g M qa la pa _ _ _ _ _ _ _ tr arr (nI es.length) mc _ q1 q2) rfl rfl ⟨Nat.le_of_ble_eq_true rfl, Nat.le_of_ble_eq_true rfl⟩ (Nat.le_of_ble_eq_true rfl) (Nat.le_of_ble_eq_true rfl) (Nat.le_of_ble_eq_true rfl) ?_
    rintro _ _ ⟨rfl, rfl⟩
    refine z_if_ne (tgt := 50) d_MQ_get_37 (by decide) (fun h37 => ?_) (fun h37 => ?_)
    · skip
      have hnx : ¬ nxN (S.2.1 i) n := by have h := zifn h37; rw [q3] at h; exact h
      exact absurd hno (fun h => h.elim (fun h => hnx h.2) (fun h => h.1 hkt))
    · skip
      exact z_throw d_MQ_get_40 d_MQ_get_43 d_MQ_get_44 d_MQ_get_46 d_MQ_get_49 (show (85, "no such item") ∈ zSr by decide) (by rw [hkl]; exact hlt) hxt (by decide) (by decide) (by decide) (by decide) rfl
