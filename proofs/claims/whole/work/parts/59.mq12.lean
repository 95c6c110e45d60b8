set_option maxHeartbeats 4000000 in
set_option maxRecDepth 100000 in
theorem c_MQ_tick (l : Launch) (g : ZG) (M : ZM) (own : Nat → Nat) (x qarr lt lw : Nat) (qs : List Nat) (S : MS) (cap : Nat) (t : Int64) (hm : MRep M g.2.2.2.1 own x qarr lt lw qs S cap) (hc : cap ≤ 1000) (hbd : (pdN (ticS S t) 200).2.2.2.1.length ≤ 600) : ZC vcl tlx GT l g y_MQ_tick b_MQ_tick 3 (Option.some FieldType.int) (ZRm 11 420 6000) [.ref x, .long t] M (fun r M' => r = some (.int (ticI S t).1) ∧ ∃ (own' : Nat → Nat) (cap' : Nat), MRep M' g.2.2.2.1 own' x qarr lt lw qs (ticI S t).2 cap' ∧ cap' ≤ 1000) := by
  refine ZC.of (by decide) (Nat.le_of_ble_eq_true rfl) rfl (fun k hz0 => ?_)
  obtain ⟨⟨hx, hqr, hl, hX, hXq⟩, hQ, hT, hD, hzo⟩ := id hm
  refine z_lload_n d_MQ_tick_0 rfl ?_
  refine z_aload_n d_MQ_tick_1 rfl ?_
  refine z_get d_MQ_tick_2 zf_MQ_57 (hx) rfl ?_
  refine z_lcmp d_MQ_tick_5 ?_
  refine z_if_ge (tgt := 11) d_MQ_tick_6 (by decide) (fun h6 => ?_) (fun h6 => ?_)
  · skip
    have hlt : ¬ t < S.2.2.2.2.2.2 := i64_nlt.mpr ((lg_cmp_ge _ _).mp h6)
    refine z_aload_n d_MQ_tick_11 rfl ?_
    refine z_lload_n d_MQ_tick_12 rfl ?_
    refine z_put d_MQ_tick_13 zp_MQ_57 (hx) rfl rfl ?_
    refine z_aload_n d_MQ_tick_16 rfl ?_
    have hm1 : MRep (zset M x (.inr (0, fM qarr lt lw (ticS S t)))) g.2.2.2.1 own x qarr lt lw qs (ticS S t) cap := hm.updTD (fun _ _ => rfl) (by rw [hz0]; simp) (zset_self _ _ _) rfl (hT.fr (fun w w1 w2 => ⟨zset_ne (fun q => by rw [q, hX] at w2; omega), w2⟩) (zset_ne (zne hz0 hx (by intro h; cases h)))) (hD.fr (fun w w1 w2 => ⟨zset_ne (fun q => by rw [q, hX] at w2; omega), w2⟩) (zset_ne (zne hz0 hx (by intro h; cases h)))) (fun w w1 w2 w3 w4 => zset_ne w2)
    refine z_callV gt_good d_MQ_tick_17 zv_MQ_166 (hm1.1.1) rfl (fun l => c_MQ_postDue l g (zset M x (.inr (0, fM qarr lt lw (ticS S t)))) own x qarr lt lw qs (ticS S t) cap hm1 hc hbd) rfl rfl ⟨Nat.le_of_ble_eq_true rfl, Nat.le_of_ble_eq_true rfl⟩ (Nat.le_of_ble_eq_true rfl) (by first | (dsimp only [ZRm]; omega) | (dsimp only [ZRm, List.length]; omega) | (simp [ZRm]; done)) (by first | (dsimp only [ZRm]; omega) | (dsimp only [ZRm, List.length]; omega) | (simp [ZRm]; done)) ?_
    rintro _ M3 ⟨rfl, own3, cap3, hm3, hc3⟩
    refine z_ireturn d_MQ_tick_20 rfl ?_ (by first | (dsimp only [ZRm]; omega) | (dsimp only [ZRm, List.length]; omega) | (simp [ZRm]; done)) (by first | (dsimp only [ZRm]; omega) | (dsimp only [ZRm, List.length]; omega) | (simp [ZRm]; done))
    rw [show ticI S t = _ from by unfold ticI; rw [if_neg hlt]]
    exact ⟨rfl, own3, cap3, hm3, hc3⟩
  · skip
    have hlt : t < S.2.2.2.2.2.2 := i64_nle.mp (fun q => h6 ((lg_cmp_ge _ _).mpr q))
    refine z_iconst (v := (-1)) d_MQ_tick_9 (by decide) ?_
    refine z_ireturn d_MQ_tick_10 rfl ?_ (by first | (dsimp only [ZRm]; omega) | (dsimp only [ZRm, List.length]; omega) | (simp [ZRm]; done)) (by first | (dsimp only [ZRm]; omega) | (dsimp only [ZRm, List.length]; omega) | (simp [ZRm]; done))
    rw [show ticI S t = _ from by unfold ticI; rw [if_pos hlt]]
    exact ⟨rfl, own, cap, hm, hc⟩
theorem ins_rel {α β : Type} {P : α → β → Prop} {es : List α} {ds : List β} (hl : es.length = ds.length) (n : Nat) (h : ∀ (j : Nat) (e : α), es[j]? = some e → ∃ x : β, ds[j]? = some x ∧ P e x) {a : α} {y : β} (ha : P a y) : ∀ (j : Nat) (e : α), (es.take n ++ a :: es.drop n)[j]? = some e → ∃ x : β, (ds.take n ++ y :: ds.drop n)[j]? = some x ∧ P e x := by
  intro j e hj
  have hl2 : (es.take n).length = (ds.take n).length := by simp [hl]
  by_cases hj1 : j < (es.take n).length
  · rw [List.getElem?_append_left hj1] at hj
    rw [List.getElem?_append_left (by omega)]
    have hjn : j < n := by rw [List.length_take] at hj1; omega
    rw [List.getElem?_take, if_pos hjn] at hj
    rw [List.getElem?_take, if_pos hjn]
    exact h j e hj
  · rw [List.getElem?_append_right (by omega)] at hj
    rw [List.getElem?_append_right (by omega), ← hl2]
    cases hd : j - (es.take n).length with
    | zero =>
      rw [hd] at hj
      cases hj
      exact ⟨y, rfl, ha⟩
    | succ m =>
      rw [hd] at hj
      simp only [List.getElem?_cons_succ, List.getElem?_drop] at hj ⊢
      exact h _ e hj
theorem pdN_last (f : Nat) : ∀ S : MS, (pdN S f).2.2.2.2.2.2.1 = S.2.2.2.2.2.1 := by
  induction f with
  | zero => intro S; rfl
  | succ f ih =>
    intro S
    cases hd : S.2.2.2.2.1 with
    | nil => rw [pdN_nil f hd]
    | cons d ds =>
      by_cases h2 : S.2.2.2.2.2.2 < d.2.2
      · rw [pdN_no f hd h2]
      · rw [pdN_yes f hd h2]
        exact ih (pdS S d ds)
set_option maxHeartbeats 4000000 in
set_option maxRecDepth 100000 in
theorem c_MQ_delay (l : Launch) (g : ZG) (M : ZM) (own : Nat → Nat) (x qarr lt lw : Nat) (qs : List Nat) (S : MS) (cap : Nat) (c : Int32) (u : Int64) (hm : MRep M g.2.2.2.1 own x qarr lt lw qs S cap) (hc : cap ≤ 1000) (hbd : (pdN (delS S c u) 200).2.2.2.1.length ≤ 600) : ZC vcl tlx GT l g y_MQ_delay b_MQ_delay 4 (Option.some FieldType.int) (ZRm 11 420 6000) [.ref x, .int c, .long u] M (fun r M' => r = some (.int (delI S c u).1) ∧ ∃ (own' : Nat → Nat) (cap' : Nat), MRep M' g.2.2.2.1 own' x qarr lt lw qs (delI S c u).2 cap' ∧ cap' ≤ 1000) := by
  refine ZC.of (by decide) (Nat.le_of_ble_eq_true rfl) rfl (fun k hz0 => ?_)
  obtain ⟨⟨hx, hqr, hl, hX, hXq⟩, hQ, hT, hD, hzo⟩ := id hm
  obtain ⟨arr, es, cp, d1, d2, d3, d4, d5, d6⟩ := id hD
  obtain ⟨⟨mc, u2⟩, u2r, u2c, u2z⟩ := id d1
  refine z_aload_n d_MQ_delay_0 rfl ?_
  refine z_get d_MQ_delay_1 zf_MQ_36 (hx) rfl ?_
  refine z_callV gt_good d_MQ_delay_4 zv_MQ_151 (u2) rfl (fun l => c_AL_size l g M lw arr (nI es.length) mc u2) rfl rfl ⟨Nat.le_of_ble_eq_true rfl, Nat.le_of_ble_eq_true rfl⟩ (Nat.le_of_ble_eq_true rfl) (Nat.le_of_ble_eq_true rfl) (Nat.le_of_ble_eq_true rfl) ?_
  rintro _ _ ⟨rfl, rfl⟩
  rw [d3]
  refine z_sipush (v := 200) d_MQ_delay_7 (by decide) ?_
  refine z_icmp_lt (tgt := 15) d_MQ_delay_10 (by decide) (fun h10 => ?_) (fun h10 => ?_)
  · skip
    have hln : S.2.2.2.2.1.length < 200 := Nat.not_le.mp fun q => nI_nlt q (by omega) h10
    have hok := capA_ok (n := es.length) (cap := cp) (by omega) d2 u2c
    refine z_aload_n d_MQ_delay_15 rfl ?_
    refine z_dup d_MQ_delay_16 rfl ?_
    refine z_get d_MQ_delay_17 zf_MQ_154 (hx) rfl ?_
    refine z_iconst (v := 1) d_MQ_delay_20 (by decide) ?_
    refine z_iadd d_MQ_delay_21 ?_
    refine z_put d_MQ_delay_22 zp_MQ_154 (hx) rfl rfl ?_
    refine z_aload_n d_MQ_delay_25 rfl ?_
    refine z_new (ci := 5) (fs := [.int 0, .int 0, .long 0]) d_MQ_delay_26 ⟨_, T_De, 3, ty_De, rfl, in_De, zl_De, gw_426, gw_427, gw_55, rfl, by decide⟩ (by simp) (by simp) (fun da hda1 => ?_)
    have hda := zset_none hda1
    have nxd : x ≠ da := zfresh_ne hx hda
    have nld : lw ≠ da := zfresh_ne u2 hda
    have nad : arr ≠ da := zfresh_ne u2r hda
    have nlx : lw ≠ x := zne u2 hx (by simp)
    have nax : arr ≠ x := zne u2r hx (by intro h; cases h)
    refine z_dup d_MQ_delay_29 rfl ?_
    refine z_aload_n d_MQ_delay_30 rfl ?_
    refine z_get d_MQ_delay_31 zf_MQ_154 (by rw [zset_ne nxd, zset_self]) rfl ?_
    refine z_iload_n d_MQ_delay_34 rfl ?_
    refine z_lload_n d_MQ_delay_35 rfl ?_
    refine z_callI gt_good d_MQ_delay_36 zi_MQ_159 (fun l => c_De_init l g _ da _ _ _ _ c u (zset_self _ _ _)) rfl rfl ⟨Nat.le_of_ble_eq_true rfl, Nat.le_of_ble_eq_true rfl⟩ (Nat.le_of_ble_eq_true rfl) (by first | (dsimp only [ZRm]; omega) | (dsimp only [ZRm, List.length]; omega) | (simp [ZRm]; done)) (by first | (dsimp only [ZRm]; omega) | (dsimp only [ZRm, List.length]; omega) | (simp [ZRm]; done)) ?_
    rintro _ _ ⟨rfl, rfl⟩
    rw [zset_zset]
    refine z_callV gt_good d_MQ_delay_39 zv_MQ_162 (by rw [zset_ne nxd, zset_self]) rfl (fun l => c_MQ_keepWaiting l g (zset (zset M x (.inr (0, fM qarr lt lw (S.1, S.2.1, S.2.2.1, S.2.2.2.1, S.2.2.2.2.1, S.2.2.2.2.2.1 + 1, S.2.2.2.2.2.2)))) da (.inr (5, [.int (S.2.2.2.2.2.1 + 1), .int c, .long u]))) x qarr lt lw (S.1, S.2.1, S.2.2.1, S.2.2.2.1, S.2.2.2.2.1, S.2.2.2.2.2.1 + 1, S.2.2.2.2.2.2) own da arr es cp (S.2.2.2.2.2.1 + 1, c, u) (by rw [zset_ne nxd, zset_self]) (zset_self _ _ _) (d1.kept (by rw [zset_ne nld, zset_ne nlx]) (by rw [zset_ne nad, zset_ne nax])) d2 (by omega) d3 (fun j e hj => by obtain ⟨y, y1, y2, y3⟩ := d4 j e hj; exact ⟨y, y1, by rw [zset_ne (zfresh_ne y2 hda), zset_ne (zne y2 hx (by simp))]; exact y2, y3⟩)) rfl rfl ⟨Nat.le_of_ble_eq_true rfl, Nat.le_of_ble_eq_true rfl⟩ (Nat.le_of_ble_eq_true rfl) (by first | (dsimp only [ZRm]; omega) | (dsimp only [ZRm, List.length]; omega) | (simp [ZRm]; done)) (by first | (dsimp only [ZRm]; omega) | (dsimp only [ZRm, List.length]; omega) | (simp [ZRm]; done)) ?_
    rintro _ M3 ⟨q, rfl, e1, e2, e3, e4⟩
    have hq0 : q = arr ∨ M q = none := e1.imp id (fun w => zset_none (zset_none w))
    have f3 : ∀ y, M y ≠ none → y ≠ x → own y ≠ 33 → M3 y = M y := fun y y1 y2 y3 => by
      have yl : y ≠ lw := fun w => y3 (by rw [w]; exact d5)
      have yq : y ≠ q := fun w => by
        rcases hq0 with v | v
        · exact y3 (by rw [w, v]; exact d6 (by rw [← v]; exact e2))
        · rw [w] at y1; exact y1 v
      rw [e4 y yl yq, zset_ne (fun w => y1 (by rw [w]; exact hda)), zset_ne y2]
    have fx : M3 x = some (.inr (0, fM qarr lt lw (delS S c u))) := by
      rw [e4 x (Ne.symm nlx) (fun w => hq0.elim (fun v => nax (v.symm.trans w.symm)) (fun v => zfresh_ne hx v w)), zset_ne nxd, zset_self]; rfl
    have fz : M3 g.2.2.2.1 = M g.2.2.2.1 := f3 _ (by rw [hz0]; simp) (fun w => by rw [w, hX] at hzo; omega) (by omega)
    have hm1 : MRep M3 g.2.2.2.1 (ow M own 33) x qarr lt lw qs (delS S c u) cap := by
      refine hm.updTD (fun y hy => ow_old hy) (by rw [hz0]; simp) fx rfl (hT.fr (fun w w1 w2 => ⟨f3 w w1 (fun v => by rw [v, hX] at w2; omega) (by omega), by rw [ow_old w1]; exact w2⟩) fz) ?_ (fun y y1 y2 y3 y4 => f3 y y1 y2 y4)
      refine ⟨q, _, _, e3, hok, ?_, ?_, by rw [ow_old (by rw [u2]; simp)]; exact d5, fun w => ?_⟩
      · show _ = (insD S.2.2.2.2.1 (S.2.2.2.2.2.1 + 1, c, u)).length
        unfold insD
        simp [d3]
      · show ∀ (j e : Nat), (es.take (kwN S.2.2.2.2.1 u S.2.2.2.2.1.length) ++ da :: es.drop (kwN S.2.2.2.2.1 u S.2.2.2.2.1.length))[j]? = some e → ∃ x : DS, (insD S.2.2.2.2.1 (S.2.2.2.2.2.1 + 1, c, u))[j]? = some x ∧ M3 e = some (.inr (5, [.int x.1, .int x.2.1, .long x.2.2])) ∧ ow M own 33 e = 33
        refine ins_rel (P := fun e (y : DS) => M3 e = some (.inr (5, [.int y.1, .int y.2.1, .long y.2.2])) ∧ ow M own 33 e = 33) d3 _ (fun j e hj => ?_) (y := (S.2.2.2.2.2.1 + 1, c, u)) ?_
        · obtain ⟨y, y1, y2, y3⟩ := d4 j e hj
          refine ⟨y, y1, ?_, by rw [ow_old (by rw [y2]; simp)]; exact y3⟩
          rw [e4 e (zne y2 u2 (by simp)) (fun w => hq0.elim (fun v => zne y2 u2r (by intro h; cases h) (w.trans v)) (fun v => zfresh_ne y2 v w)), zset_ne (zfresh_ne y2 hda), zset_ne (zne y2 hx (by simp))]
          exact y2
        · refine ⟨?_, ow_new hda⟩
          rw [e4 da (Ne.symm nld) (fun w => e1.elim (fun v => nad (v.symm.trans w.symm)) (fun v => zfresh_ne (zset_self _ _ _) v w)), zset_self]
      · rcases hq0 with v | v
        · rw [v, ow_old (by rw [u2r]; simp)]; exact d6 (by rw [← v]; exact w)
        · exact ow_new v
    refine z_aload_n d_MQ_delay_42 rfl ?_
    refine z_callV gt_good d_MQ_delay_43 zv_MQ_166 (hm1.1.1) rfl (fun l => c_MQ_postDue l g M3 _ x qarr lt lw qs (delS S c u) cap hm1 hc hbd) rfl rfl ⟨Nat.le_of_ble_eq_true rfl, Nat.le_of_ble_eq_true rfl⟩ (Nat.le_of_ble_eq_true rfl) (by first | (dsimp only [ZRm]; omega) | (dsimp only [ZRm, List.length]; omega) | (simp [ZRm]; done)) (by first | (dsimp only [ZRm]; omega) | (dsimp only [ZRm, List.length]; omega) | (simp [ZRm]; done)) ?_
    rintro _ M4 ⟨rfl, own4, cap4, hm4, hc4⟩
    have hx4 : M4 x = some (.inr (0, fM qarr lt lw (pdN (delS S c u) 200).2)) := hm4.1.1
    refine z_pop d_MQ_delay_46 rfl ?_
    refine z_aload_n d_MQ_delay_47 rfl ?_
    refine z_get d_MQ_delay_48 zf_MQ_154 (hx4) rfl ?_
    refine z_ireturn d_MQ_delay_51 rfl ?_ (by first | (dsimp only [ZRm]; omega) | (dsimp only [ZRm, List.length]; omega) | (simp [ZRm]; done)) (by first | (dsimp only [ZRm]; omega) | (dsimp only [ZRm, List.length]; omega) | (simp [ZRm]; done))
    rw [show delI S c u = _ from by unfold delI; rw [if_neg (not_not_intro h10)], pdN_last]
    exact ⟨rfl, own4, cap4, hm4, hc4⟩
  · skip
    refine z_iconst (v := (-1)) d_MQ_delay_13 (by decide) ?_
    refine z_ireturn d_MQ_delay_14 rfl ?_ (by first | (dsimp only [ZRm]; omega) | (dsimp only [ZRm, List.length]; omega) | (simp [ZRm]; done)) (by first | (dsimp only [ZRm]; omega) | (dsimp only [ZRm, List.length]; omega) | (simp [ZRm]; done))
    rw [show delI S c u = _ from by unfold delI; rw [if_pos h10]]
    exact ⟨rfl, own, cap, hm, hc⟩
set_option maxHeartbeats 4000000 in
set_option maxRecDepth 100000 in
theorem lp_MQ_cancel (g : ZG) (k : ZK) (M : ZM) (own : Nat → Nat) (x qarr lt lw : Nat) (qs : List Nat) (S : MS) (cap : Nat) (n : Int32) (hm : MRep M g.2.2.2.1 own x qarr lt lw qs S cap) (hc : cap ≤ 1000) (hz0 : M g.2.2.2.1 = some (.inl (0, []))) : ∀ (d i : Nat), i + d = S.2.2.2.2.1.length → canI S n = canN S n d i → ZW vcl tlx GT "MonitorQueues" b_MQ_cancel 3 (Option.some FieldType.int) "cancel" (ZRm 11 420 6000) g k (fun r M' => r = some (.int (canI S n).1) ∧ ∃ (own' : Nat → Nat) (cap' : Nat), MRep M' g.2.2.2.1 own' x qarr lt lw qs (canI S n).2 cap' ∧ cap' ≤ 1000) [some (.ref x), some (.int n), some (.int (nI i))] 2 [] (M) 0 0 := by
  obtain ⟨⟨hx, hqr, hl, hX, hXq⟩, hQ, hT, hD, hzo⟩ := id hm
  obtain ⟨arr, es, cp, d1, d2, d3, d4, d5, d6⟩ := id hD
  obtain ⟨⟨mc, u2⟩, u2r, u2c, u2z⟩ := id d1
  intro d
  induction d with
  | zero =>
    intro i hi hcn
    obtain rfl : i = S.2.2.2.2.1.length := by omega
    refine z_iload_n d_MQ_cancel_2 rfl ?_
    refine z_aload_n d_MQ_cancel_3 rfl ?_
    refine z_get d_MQ_cancel_4 zf_MQ_36 (hx) rfl ?_
    refine z_callV gt_good d_MQ_cancel_7 zv_MQ_151 (u2) rfl (fun l => c_AL_size l g M lw arr (nI es.length) mc u2) rfl rfl ⟨Nat.le_of_ble_eq_true rfl, Nat.le_of_ble_eq_true rfl⟩ (Nat.le_of_ble_eq_true rfl) (Nat.le_of_ble_eq_true rfl) (Nat.le_of_ble_eq_true rfl) ?_
    rintro _ _ ⟨rfl, rfl⟩
    rw [d3]
    refine z_icmp_ge (tgt := 48) d_MQ_cancel_10 (by decide) (fun h10 => ?_) (fun h10 => False.elim (h10 (nI_le (Nat.le_refl _) (by omega))))
    refine z_iconst (v := 0) d_MQ_cancel_48 (by decide) ?_
    refine z_ireturn d_MQ_cancel_49 rfl ?_ (by decide) (by decide)
    rw [hcn]
    exact ⟨rfl, own, cap, hm, hc⟩
  | succ d ih =>
    intro i hi hcn
    obtain ⟨e, he⟩ : ∃ e, es[i]? = some e := ⟨es[i]'(by omega), List.getElem?_eq_getElem (by omega)⟩
    obtain ⟨y, k1, k2, k3⟩ := d4 i e he
    have harz : arr ≠ g.2.2.2.1 := zne u2r hz0 (by intro w; cases es with | nil => simp at he | cons a b => simp at w)
    refine z_iload_n d_MQ_cancel_2 rfl ?_
    refine z_aload_n d_MQ_cancel_3 rfl ?_
    refine z_get d_MQ_cancel_4 zf_MQ_36 (hx) rfl ?_
    refine z_callV gt_good d_MQ_cancel_7 zv_MQ_151 (u2) rfl (fun l => c_AL_size l g M lw arr (nI es.length) mc u2) rfl rfl ⟨Nat.le_of_ble_eq_true rfl, Nat.le_of_ble_eq_true rfl⟩ (Nat.le_of_ble_eq_true rfl) (Nat.le_of_ble_eq_true rfl) (Nat.le_of_ble_eq_true rfl) ?_
    rintro _ _ ⟨rfl, rfl⟩
    rw [d3]
    refine z_icmp_ge (tgt := 48) d_MQ_cancel_10 (by decide) (fun h10 => False.elim (nI_ge (show i < S.2.2.2.2.1.length by omega) (by omega) h10)) (fun h10 => ?_)
    refine z_aload_n d_MQ_cancel_13 rfl ?_
    refine z_get d_MQ_cancel_14 zf_MQ_36 (hx) rfl ?_
    refine z_iload_n d_MQ_cancel_17 rfl ?_
    refine z_callV gt_good d_MQ_cancel_18 zv_MQ_90 (u2) rfl (fun l => c_AL_get l g M lw arr es.length mc _ i e u2 u2r (by omega) (by omega) (al_get he)) rfl rfl ⟨Nat.le_of_ble_eq_true rfl, Nat.le_of_ble_eq_true rfl⟩ (Nat.le_of_ble_eq_true rfl) (Nat.le_of_ble_eq_true rfl) (Nat.le_of_ble_eq_true rfl) ?_
    rintro _ _ ⟨rfl, rfl⟩
    refine z_cast (ci := 5) d_MQ_cancel_21 gw_426 k2 rfl rfl ?_
    refine z_get d_MQ_cancel_24 zf_MQ_169 (k2) rfl ?_
    refine z_iload_n d_MQ_cancel_27 rfl ?_
    refine z_icmp_ne (tgt := 42) d_MQ_cancel_28 (by decide) (fun h28 => ?_) (fun h28 => ?_)
    · skip
      have hsm : canI S n = canN S n d (i + 1) := by
        rw [hcn]
        show (if ((S.2.2.2.2.1[i]?).getD (0, 0, 0)).1 = n then _ else _) = _
        rw [k1]
        exact if_neg h28
      refine z_iinc (v := nI (i + 1)) d_MQ_cancel_42 rfl (nI_1 i) (by decide) rfl ?_
      refine z_goto (tgt := 2) d_MQ_cancel_45 (by decide) ?_
      exact ih (i + 1) (by omega) hsm
    · skip
      have h28 : y.1 = n := h28
      refine z_aload_n d_MQ_cancel_31 rfl ?_
      refine z_get d_MQ_cancel_32 zf_MQ_36 (hx) rfl ?_
      refine z_iload_n d_MQ_cancel_35 rfl ?_
      refine z_callV gt_good d_MQ_cancel_36 zv_MQ_172 (u2) rfl (fun l => c_AL_remove l g M lw arr i es cp d1 (by omega) (fun e he => by obtain ⟨j, hj⟩ := List.getElem?_of_mem he; obtain ⟨y, -, hy, -⟩ := d4 j e hj; exact zObj.de hy) (by omega)) rfl rfl ⟨Nat.le_of_ble_eq_true rfl, Nat.le_of_ble_eq_true rfl⟩ (Nat.le_of_ble_eq_true rfl) (Nat.le_of_ble_eq_true rfl) (Nat.le_of_ble_eq_true rfl) ?_
      rintro _ M1 ⟨rfl, a1, a2⟩
      refine z_pop d_MQ_cancel_39 rfl ?_
      refine z_iconst (v := 1) d_MQ_cancel_40 (by decide) ?_
      refine z_ireturn d_MQ_cancel_41 rfl ?_ (by decide) (by decide)
      have hcn2 : canI S n = (1, (S.1, S.2.1, S.2.2.1, S.2.2.2.1, S.2.2.2.2.1.eraseIdx i, S.2.2.2.2.2)) := by
        rw [hcn]
        show (if ((S.2.2.2.2.1[i]?).getD (0, 0, 0)).1 = n then _ else _) = _
        rw [k1]
        exact if_pos h28
      have f1 : ∀ y, M y ≠ none → own y ≠ 33 → M1 y = M y := fun y y1 y2 => a2 y (fun w => y2 (by rw [w]; exact d5)) (fun w => y2 (by rw [w]; exact d6 harz))
      rw [hcn2]
      refine ⟨rfl, own, cap, hm.updTD (fun _ _ => rfl) (by rw [hz0]; simp) (by rw [f1 x (by rw [hx]; simp) (by omega)]; exact hx) rfl (hT.fr (fun w w1 w2 => ⟨f1 w w1 (by omega), w2⟩) (f1 _ (by rw [hz0]; simp) (by omega))) ⟨arr, es.eraseIdx i, cp, a1, d2, ?_, fun j e hj => ?_, d5, d6⟩ (fun y y1 y2 y3 y4 => f1 y y1 y4), hc⟩
      · simp [List.length_eraseIdx, d3]
      · rw [List.getElem?_eraseIdx] at hj
        have key : ∀ j', es[j']? = some e → ∃ x : DS, S.2.2.2.2.1[j']? = some x ∧ M1 e = some (.inr (5, [.int x.1, .int x.2.1, .long x.2.2])) ∧ own e = 33 := fun j' hj' => by
          obtain ⟨w, w1, w2, w3⟩ := d4 j' e hj'
          exact ⟨w, w1, by rw [a2 e (zne w2 u2 (by simp)) (zne w2 u2r (by intro h; cases h))]; exact w2, w3⟩
        show ∃ x : DS, (S.2.2.2.2.1.eraseIdx i)[j]? = some x ∧ _
        rw [List.getElem?_eraseIdx]
        split at hj
        · rename_i hji
          rw [if_pos hji]
          exact key j hj
        · rename_i hji
          rw [if_neg hji]
          exact key (j + 1) hj
set_option maxHeartbeats 4000000 in
set_option maxRecDepth 100000 in
theorem c_MQ_cancel (l : Launch) (g : ZG) (M : ZM) (own : Nat → Nat) (x qarr lt lw : Nat) (qs : List Nat) (S : MS) (cap : Nat) (n : Int32) (hm : MRep M g.2.2.2.1 own x qarr lt lw qs S cap) (hc : cap ≤ 1000) : ZC vcl tlx GT l g y_MQ_cancel b_MQ_cancel 3 (Option.some FieldType.int) (ZRm 11 420 6000) [.ref x, .int n] M (fun r M' => r = some (.int (canI S n).1) ∧ ∃ (own' : Nat → Nat) (cap' : Nat), MRep M' g.2.2.2.1 own' x qarr lt lw qs (canI S n).2 cap' ∧ cap' ≤ 1000) := by
  refine ZC.of (by decide) (Nat.le_of_ble_eq_true rfl) rfl (fun k hz0 => ?_)
  refine z_iconst (v := 0) d_MQ_cancel_0 (by decide) ?_
  refine z_istore_n (i := 2) d_MQ_cancel_1 rfl (by decide) rfl ?_
  exact lp_MQ_cancel g k M own x qarr lt lw qs S cap n hm hc hz0 _ 0 (by simp) rfl
