set_option maxHeartbeats 4000000 in
set_option maxRecDepth 100000 in
theorem c_MQ_beginFor (l : Launch) (g : ZG) (M : ZM) (own : Nat → Nat) (x qarr lt lw : Nat) (S : MS) (cap : Nat) (ta : Nat) (t : TS) (hx : M x = some (.inr (0, fM qarr lt lw S))) (hX : own x = 34) (ht : TaR M g.2.2.2.1 own lt S.2.2.1 cap) (hc : cap ≤ 1000000) (hta : M ta = some (.inr (4, fT t))) (ho : own ta ≠ 32) : ZC vcl tlx GT l g y_MQ_beginFor b_MQ_beginFor 2 (Option.some FieldType.int) (ZRm 8 (if S.2.2.1.length < cap then 1 else 2) (if S.2.2.1.length < cap then 2 else 2 + capA S.2.2.1.length cap)) [.ref x, .ref ta] M (fun r M' => r = some (.int (nI (S.2.2.1.length + 1))) ∧ M' ta = some (.inr (4, fT (t.1, t.2.1, t.2.2.1, nI (S.2.2.1.length + 1), 0))) ∧ M' x = some (.inr (0, fM qarr lt lw (addT S S.2.1 (some t.2.1)))) ∧ TaR M' g.2.2.2.1 (ow M own 32) lt (S.2.2.1 ++ [(t.2.1, 1)]) (capA S.2.2.1.length cap) ∧ ∀ y, M y ≠ none → y ≠ x → y ≠ ta → own y ≠ 32 → M' y = M y) := by
  refine ZC.of (by decide) (Nat.le_of_ble_eq_true rfl) rfl (fun k hz0 => ?_)
  have hxta : ta ≠ x := zne hta hx (by simp)
  refine z_aload_n d_MQ_beginFor_0 rfl ?_
  refine z_aload_n d_MQ_beginFor_1 rfl ?_
  refine z_aload_n d_MQ_beginFor_2 rfl ?_
  refine z_get d_MQ_beginFor_3 zf_MQ_195 (hta) rfl ?_
  refine z_callV gt_good d_MQ_beginFor_6 zv_MQ_196 (hx) rfl (fun l => c_MQ_begin l g M own x qarr lt lw S cap t.2.1 hx hX ht hc) rfl rfl ⟨Nat.le_of_ble_eq_true rfl, Nat.le_of_ble_eq_true rfl⟩ (Nat.le_of_ble_eq_true rfl) (by simp) (by simp) ?_
  rintro _ M1 ⟨rfl, e1, e2, e3⟩
  have h1t : M1 ta = some (.inr (4, fT t)) := by rw [e3 ta (by rw [hta]; simp) hxta ho]; exact hta
  refine z_put d_MQ_beginFor_9 zp_MQ_199 (h1t) rfl rfl ?_
  refine z_aload_n d_MQ_beginFor_12 rfl ?_
  refine z_iconst (v := 0) d_MQ_beginFor_13 (by decide) ?_
  refine z_put d_MQ_beginFor_14 zp_MQ_202 (zset_self _ _ _) rfl rfl ?_
  refine z_aload_n d_MQ_beginFor_17 rfl ?_
  refine z_get d_MQ_beginFor_18 zf_MQ_199 (zset_self _ _ _) rfl ?_
  refine z_ireturn d_MQ_beginFor_21 rfl ?_ (by simp) (by simp)
  rw [zset_zset]
  refine ⟨rfl, zset_self _ _ _, by rw [zset_ne (Ne.symm hxta)]; exact e1, e2.fr (fun y hy hyo => ⟨zset_ne (fun e => ?_), hyo⟩) (zset_ne (fun e => ?_)), fun y y1 y2 y3 y4 => by rw [zset_ne y3, e3 y y1 y2 y4]⟩
  · rw [e, ow_old (by rw [hta]; simp)] at hyo
    exact ho hyo
  · rw [← e, hz0] at hta
    cases hta
set_option maxHeartbeats 4000000 in
set_option maxRecDepth 100000 in
theorem c_MQ_look (l : Launch) (g : ZG) (M : ZM) (own : Nat → Nat) (x qarr lt lw : Nat) (S : MS) (cap : Nat) (ta : Nat) (t : TS) (n : Int32) (hx : M x = some (.inr (0, fM qarr lt lw S))) (hX : own x = 34) (ht : TaR M g.2.2.2.1 own lt S.2.2.1 cap) (hc : cap ≤ 1000000) (hta : M ta = some (.inr (4, fT t))) (ho : own ta ≠ 32) : ZC vcl tlx GT l g y_MQ_look b_MQ_look 3 none (ZRm 9 (if (lookT t n S.2.2.1.length).2 = none then 0 else if S.2.2.1.length < cap then 1 else 2) (if (lookT t n S.2.2.1.length).2 = none then 0 else if S.2.2.1.length < cap then 2 else 2 + capA S.2.2.1.length cap)) [.ref x, .ref ta, .int n] M (fun r M' => r = none ∧ M' ta = some (.inr (4, fT (lookT t n S.2.2.1.length).1)) ∧ M' x = some (.inr (0, fM qarr lt lw (addT S S.2.1 (lookT t n S.2.2.1.length).2))) ∧ TaR M' g.2.2.2.1 (ow M own 32) lt (S.2.2.1 ++ (lookT t n S.2.2.1.length).2.toList.map (fun c => (c, 1))) (if (lookT t n S.2.2.1.length).2 = none then cap else capA S.2.2.1.length cap) ∧ ∀ y, M y ≠ none → y ≠ x → y ≠ ta → own y ≠ 32 → M' y = M y) := by
  refine ZC.of (by decide) (Nat.le_of_ble_eq_true rfl) rfl (fun k hz0 => ?_)
  have hxta : ta ≠ x := zne hta hx (by simp)
  have hzt : g.2.2.2.1 ≠ ta := zne hz0 hta (by intro h; cases h)
  refine z_iload_n d_MQ_look_0 rfl ?_
  refine z_aload_n d_MQ_look_1 rfl ?_
  refine z_get d_MQ_look_2 zf_MQ_209 (hta) rfl ?_
  refine z_icmp_ge (tgt := 16) d_MQ_look_5 (by decide) (fun h5 => ?_) (fun h5 => ?_)
  · skip
    have hnl : ¬ n < t.1 := k2_nlt h5
    refine z_aload_n d_MQ_look_16 rfl ?_
    refine z_get d_MQ_look_17 zf_MQ_212 (hta) rfl ?_
    refine z_if_eq (tgt := 41) d_MQ_look_20 (by decide) (fun h20 => ?_) (fun h20 => ?_)
    · skip
      have hsm : t.2.2.1 = 0 ∨ ¬ t.2.2.2.1 = 0 := Or.inl h20
      refine z_return d_MQ_look_41 rfl ?_ (by first | simp [lookT_none hlt] | simp [lookT_same hnl hsm] | simp [lookT_some hnl h20 h27]) (by first | simp [lookT_none hlt] | simp [lookT_same hnl hsm] | simp [lookT_some hnl h20 h27])
      first
        | (rw [lookT_none hlt]; exact ⟨rfl, zset_self _ _ _, by rw [zset_ne (Ne.symm hxta)]; simpa [addT] using hx, by simpa using ht.fr (fun y hy hyo => ⟨zset_ne (fun e => by rw [e] at hyo; exact ho hyo), by rw [ow_old hy]; exact hyo⟩) (zset_ne hzt), fun y _ _ y3 _ => zset_ne y3⟩)
        | (rw [lookT_same hnl hsm]; exact ⟨rfl, hta, by simpa [addT] using hx, by simpa using ht.fr (fun y hy hyo => ⟨rfl, by rw [ow_old hy]; exact hyo⟩) rfl, fun y _ _ _ _ => rfl⟩)
        | (rw [lookT_some hnl h20 h27]; exact ⟨rfl, zset_self _ _ _, by rw [zset_ne (Ne.symm hxta)]; exact e2, by simpa using e3.fr (fun y hy hyo => ⟨zset_ne (fun e => by rw [e, ow_old (by rw [hta]; simp)] at hyo; exact ho hyo), hyo⟩) (zset_ne hzt), fun y y1 y2 y3 y4 => by rw [zset_ne y3, e4 y y1 y2 y3 y4]⟩)
    · skip
      refine z_aload_n d_MQ_look_23 rfl ?_
      refine z_get d_MQ_look_24 zf_MQ_199 (hta) rfl ?_
      refine z_if_ne (tgt := 41) d_MQ_look_27 (by decide) (fun h27 => ?_) (fun h27 => ?_)
      · skip
        have hsm : t.2.2.1 = 0 ∨ ¬ t.2.2.2.1 = 0 := Or.inr h27
        refine z_return d_MQ_look_41 rfl ?_ (by first | simp [lookT_none hlt] | simp [lookT_same hnl hsm] | simp [lookT_some hnl h20 h27]) (by first | simp [lookT_none hlt] | simp [lookT_same hnl hsm] | simp [lookT_some hnl h20 h27])
        first
          | (rw [lookT_none hlt]; exact ⟨rfl, zset_self _ _ _, by rw [zset_ne (Ne.symm hxta)]; simpa [addT] using hx, by simpa using ht.fr (fun y hy hyo => ⟨zset_ne (fun e => by rw [e] at hyo; exact ho hyo), by rw [ow_old hy]; exact hyo⟩) (zset_ne hzt), fun y _ _ y3 _ => zset_ne y3⟩)
          | (rw [lookT_same hnl hsm]; exact ⟨rfl, hta, by simpa [addT] using hx, by simpa using ht.fr (fun y hy hyo => ⟨rfl, by rw [ow_old hy]; exact hyo⟩) rfl, fun y _ _ _ _ => rfl⟩)
          | (rw [lookT_some hnl h20 h27]; exact ⟨rfl, zset_self _ _ _, by rw [zset_ne (Ne.symm hxta)]; exact e2, by simpa using e3.fr (fun y hy hyo => ⟨zset_ne (fun e => by rw [e, ow_old (by rw [hta]; simp)] at hyo; exact ho hyo), hyo⟩) (zset_ne hzt), fun y y1 y2 y3 y4 => by rw [zset_ne y3, e4 y y1 y2 y3 y4]⟩)
      · skip
        refine z_aload_n d_MQ_look_30 rfl ?_
        refine z_aload_n d_MQ_look_31 rfl ?_
        refine z_callV gt_good d_MQ_look_32 zv_MQ_215 (hx) rfl (fun l => c_MQ_beginFor l g M own x qarr lt lw S cap ta t hx hX ht hc hta ho) rfl rfl ⟨Nat.le_of_ble_eq_true rfl, Nat.le_of_ble_eq_true rfl⟩ (Nat.le_of_ble_eq_true rfl) (by simp [lookT_some hnl h20 h27]) (by simp [lookT_some hnl h20 h27]) ?_
        rintro _ M1 ⟨rfl, e1, e2, e3, e4⟩
        refine z_pop d_MQ_look_35 rfl ?_
        refine z_aload_n d_MQ_look_36 rfl ?_
        refine z_iconst (v := 0) d_MQ_look_37 (by decide) ?_
        refine z_put d_MQ_look_38 zp_MQ_212 (e1) rfl rfl ?_
        refine z_return d_MQ_look_41 rfl ?_ (by first | simp [lookT_none hlt] | simp [lookT_same hnl hsm] | simp [lookT_some hnl h20 h27]) (by first | simp [lookT_none hlt] | simp [lookT_same hnl hsm] | simp [lookT_some hnl h20 h27])
        first
          | (rw [lookT_none hlt]; exact ⟨rfl, zset_self _ _ _, by rw [zset_ne (Ne.symm hxta)]; simpa [addT] using hx, by simpa using ht.fr (fun y hy hyo => ⟨zset_ne (fun e => by rw [e] at hyo; exact ho hyo), by rw [ow_old hy]; exact hyo⟩) (zset_ne hzt), fun y _ _ y3 _ => zset_ne y3⟩)
          | (rw [lookT_same hnl hsm]; exact ⟨rfl, hta, by simpa [addT] using hx, by simpa using ht.fr (fun y hy hyo => ⟨rfl, by rw [ow_old hy]; exact hyo⟩) rfl, fun y _ _ _ _ => rfl⟩)
          | (rw [lookT_some hnl h20 h27]; exact ⟨rfl, zset_self _ _ _, by rw [zset_ne (Ne.symm hxta)]; exact e2, by simpa using e3.fr (fun y hy hyo => ⟨zset_ne (fun e => by rw [e, ow_old (by rw [hta]; simp)] at hyo; exact ho hyo), hyo⟩) (zset_ne hzt), fun y y1 y2 y3 y4 => by rw [zset_ne y3, e4 y y1 y2 y3 y4]⟩)
  · skip
    have hlt : n < t.1 := k2_lt h5
    refine z_aload_n d_MQ_look_8 rfl ?_
    refine z_iconst (v := 1) d_MQ_look_9 (by decide) ?_
    refine z_put d_MQ_look_10 zp_MQ_212 (hta) rfl rfl ?_
    refine z_goto (tgt := 41) d_MQ_look_13 (by decide) ?_
    refine z_return d_MQ_look_41 rfl ?_ (by first | simp [lookT_none hlt] | simp [lookT_same hnl hsm] | simp [lookT_some hnl h20 h27]) (by first | simp [lookT_none hlt] | simp [lookT_same hnl hsm] | simp [lookT_some hnl h20 h27])
    first
      | (rw [lookT_none hlt]; exact ⟨rfl, zset_self _ _ _, by rw [zset_ne (Ne.symm hxta)]; simpa [addT] using hx, by simpa using ht.fr (fun y hy hyo => ⟨zset_ne (fun e => by rw [e] at hyo; exact ho hyo), by rw [ow_old hy]; exact hyo⟩) (zset_ne hzt), fun y _ _ y3 _ => zset_ne y3⟩)
      | (rw [lookT_same hnl hsm]; exact ⟨rfl, hta, by simpa [addT] using hx, by simpa using ht.fr (fun y hy hyo => ⟨rfl, by rw [ow_old hy]; exact hyo⟩) rfl, fun y _ _ _ _ => rfl⟩)
      | (rw [lookT_some hnl h20 h27]; exact ⟨rfl, zset_self _ _ _, by rw [zset_ne (Ne.symm hxta)]; exact e2, by simpa using e3.fr (fun y hy hyo => ⟨zset_ne (fun e => by rw [e, ow_old (by rw [hta]; simp)] at hyo; exact ho hyo), hyo⟩) (zset_ne hzt), fun y y1 y2 y3 y4 => by rw [zset_ne y3, e4 y y1 y2 y3 y4]⟩)
