set_option maxHeartbeats 4000000 in
set_option maxRecDepth 100000 in
theorem c_AL_add2 (l : Launch) (g : ZG) (M : ZM) (a arr b n : Nat) (mc : Int32) (vs : List Value) (ha : M a = some (.inr (6, fAL arr (nI n) mc))) (hr : M arr = some (.inl (0, vs))) (hel : zElems vcl M vs) (hz : vs = [] → arr = g.2.2.2.1) (hc : vs.length ≤ 1000000) (hn : n ≤ vs.length) (hb : zObj M b) : ZC vcl tlx GT l g y_AL_add2 b_AL_add2 4 none (ZRm 5 (if n < vs.length then 0 else 1) (if n < vs.length then 0 else capA n vs.length)) [.ref a, .ref b, .ref arr, .int (nI n)] M (fun v M' => ∃ q : Nat, v = none ∧ (q = arr ∧ n < vs.length ∨ M q = none) ∧ M' a = some (.inr (6, fAL q (nI (n + 1)) mc)) ∧ M' q = some (.inl (0, (vs ++ List.replicate (capA n vs.length - vs.length) Value.null).set n (Value.ref b))) ∧ ∀ x, x ≠ a → x ≠ q → M' x = M x) := by
  refine ZC.of (by decide) (Nat.le_of_ble_eq_true rfl) rfl (fun k hz0 => ?_)
  obtain ⟨ci, bs, r, hb1, hb2, hb3⟩ := hb
  have hne := al_ne ha hr
  refine z_iload_n d_AL_add2_0 rfl ?_
  refine z_aload_n d_AL_add2_1 rfl ?_
  refine z_alen d_AL_add2_2 (hr) rfl ?_
  refine z_icmp_ne (tgt := 11) d_AL_add2_3 (by decide) (fun h3 => ?_) (fun h3 => ?_)
  · skip
    have hlt : n < vs.length := Nat.lt_of_le_of_ne hn (fun e => h3 (by rw [e]))
    have hcur : M arr = some (.inl (0, vs)) := hr
    have hca := ha
    have hbc := hb1
    have hin : n < vs.length := hlt
    have hcapn : vs ++ List.replicate (capA n vs.length - vs.length) .null = vs := by rw [capA_lt hlt]; simp
    refine z_aload_n d_AL_add2_11 rfl ?_
    refine z_iload_n d_AL_add2_12 rfl ?_
    refine z_aload_n d_AL_add2_13 rfl ?_
    refine z_aast d_AL_add2_14 hcur rfl (by omega) hin hbc hb2 (Or.inr hb3) ?_
    refine z_aload_n d_AL_add2_15 rfl ?_
    refine z_iload_n d_AL_add2_16 rfl ?_
    refine z_iconst (v := 1) d_AL_add2_17 (by decide) ?_
    refine z_iadd d_AL_add2_18 ?_
    rw [nI_1]
    refine z_put d_AL_add2_19 zp_AL_48 (by rw [zset_ne hne]; exact hca) rfl rfl ?_
    refine z_return d_AL_add2_22 rfl ?_ (by simp [hlt]) (by simp [hlt])
    first
      | exact ⟨arr, rfl, Or.inl ⟨rfl, hlt⟩, zset_self _ _ _, by rw [zset_ne (Ne.symm hne), zset_self, hcapn], fun x hx hy => by rw [zset_ne hx, zset_ne hy]⟩
      | exact ⟨q, rfl, Or.inr hq, zset_self _ _ _, by rw [zset_ne (Ne.symm hne), zset_self], fun x hx hy => by rw [zset_ne hx, zset_ne hy, zset_ne hx, zset_ne hy]⟩
  · skip
    obtain rfl : n = vs.length := (nI_eq (by omega) (by omega)).mp h3
    have hlt : ¬ vs.length < vs.length := Nat.lt_irrefl _
    refine z_aload_n d_AL_add2_6 rfl ?_
    refine z_callV gt_good d_AL_add2_7 zv_AL_129 (by assumption) rfl (fun l => c_AL_grow l g M a arr mc vs ha hr hel hz hc) rfl rfl ⟨Nat.le_of_ble_eq_true rfl, Nat.le_of_ble_eq_true rfl⟩ (Nat.le_of_ble_eq_true rfl) (by simp [hlt]) (by simp [hlt]) ?_
    rintro _ _ ⟨q, rfl, hq, rfl⟩
    have hne : a ≠ q := zfresh_ne ha hq
    have hcur : zset (zset M q (.inl (0, vs ++ List.replicate (capA vs.length vs.length - vs.length) .null))) a (.inr (6, fAL q (nI vs.length) mc)) q = some (.inl (0, vs ++ List.replicate (capA vs.length vs.length - vs.length) .null)) := by rw [zset_ne (Ne.symm hne), zset_self]
    have hca : zset (zset M q (.inl (0, vs ++ List.replicate (capA vs.length vs.length - vs.length) .null))) a (.inr (6, fAL q (nI vs.length) mc)) a = some (.inr (6, fAL q (nI vs.length) mc)) := zset_self _ _ _
    have hbq : b ≠ q := zfresh_ne hb1 hq
    have hbc : zObj (zset (zset M q (.inl (0, vs ++ List.replicate (capA vs.length vs.length - vs.length) .null))) a (.inr (6, fAL q (nI vs.length) mc))) b := zObj.set (ci := 6) (fs := fAL arr (nI vs.length) mc) ⟨ci, bs, r, by rw [zset_ne hbq]; exact hb1, hb2, hb3⟩ (by rw [zset_ne hne]; exact ha)
    obtain ⟨ci, bs, r, hbc, hb2, hb3⟩ := hbc
    have hin : vs.length < (vs ++ List.replicate (capA vs.length vs.length - vs.length) Value.null).length := by have := capA_gt (Nat.le_refl vs.length); simp; omega
    refine z_astore_n (i := 2) d_AL_add2_10 rfl (by decide) rfl ?_
    refine z_aload_n d_AL_add2_11 rfl ?_
    refine z_iload_n d_AL_add2_12 rfl ?_
    refine z_aload_n d_AL_add2_13 rfl ?_
    refine z_aast d_AL_add2_14 hcur rfl (by omega) hin hbc hb2 (Or.inr hb3) ?_
    refine z_aload_n d_AL_add2_15 rfl ?_
    refine z_iload_n d_AL_add2_16 rfl ?_
    refine z_iconst (v := 1) d_AL_add2_17 (by decide) ?_
    refine z_iadd d_AL_add2_18 ?_
    rw [nI_1]
    refine z_put d_AL_add2_19 zp_AL_48 (by rw [zset_ne hne]; exact hca) rfl rfl ?_
    refine z_return d_AL_add2_22 rfl ?_ (by simp [hlt]) (by simp [hlt])
    first
      | exact ⟨arr, rfl, Or.inl ⟨rfl, hlt⟩, zset_self _ _ _, by rw [zset_ne (Ne.symm hne), zset_self, hcapn], fun x hx hy => by rw [zset_ne hx, zset_ne hy]⟩
      | exact ⟨q, rfl, Or.inr hq, zset_self _ _ _, by rw [zset_ne (Ne.symm hne), zset_self], fun x hx hy => by rw [zset_ne hx, zset_ne hy, zset_ne hx, zset_ne hy]⟩
set_option maxHeartbeats 4000000 in
set_option maxRecDepth 100000 in
theorem c_AL_add (l : Launch) (g : ZG) (M : ZM) (a arr b : Nat) (es : List Nat) (cap : Nat) (hl : ALr M g.2.2.2.1 a arr es cap) (hc : cap ≤ 1000000) (hes : ∀ e ∈ es, zObj M e) (hb : zObj M b) : ZC vcl tlx GT l g y_AL_add b_AL_add 2 (Option.some FieldType.boolean) (ZRm 6 (if es.length < cap then 0 else 1) (if es.length < cap then 0 else capA es.length cap)) [.ref a, .ref b] M (fun v M' => ∃ q : Nat, v = some (.int 1) ∧ (q = arr ∨ M q = none) ∧ q ≠ g.2.2.2.1 ∧ ALr M' g.2.2.2.1 a q (es ++ [b]) (capA es.length cap) ∧ ∀ x, x ≠ a → x ≠ q → M' x = M x) := by
  refine ZC.of (by decide) (Nat.le_of_ble_eq_true rfl) rfl (fun k hz0 => ?_)
  obtain ⟨⟨mc, ha⟩, hr, hle, hz⟩ := hl
  have hne := al_ne ha hr
  generalize hvs : es.map Value.ref ++ List.replicate (cap - es.length) Value.null = vs at hr
  have hvl : vs.length = cap := by rw [← hvs]; simp; omega
  have ha1 : zset M a (.inr (6, fAL arr (nI es.length) (mc + 1))) a = some (.inr (6, fAL arr (nI es.length) (mc + 1))) := zset_self _ _ _
  have hr1 : zset M a (.inr (6, fAL arr (nI es.length) (mc + 1))) arr = some (.inl (0, vs)) := by rw [zset_ne (Ne.symm hne)]; exact hr
  refine z_aload_n d_AL_add_0 rfl ?_
  refine z_dup d_AL_add_1 rfl ?_
  refine z_get d_AL_add_2 zf_AL_63 (by assumption) rfl ?_
  refine z_iconst (v := 1) d_AL_add_5 (by decide) ?_
  refine z_iadd d_AL_add_6 ?_
  refine z_put d_AL_add_7 zp_AL_63 (ha) rfl rfl ?_
  refine z_aload_n d_AL_add_10 rfl ?_
  refine z_aload_n d_AL_add_11 rfl ?_
  refine z_aload_n d_AL_add_12 rfl ?_
  refine z_get d_AL_add_13 zf_AL_9 (ha1) rfl ?_
  refine z_aload_n d_AL_add_16 rfl ?_
  refine z_get d_AL_add_17 zf_AL_48 (ha1) rfl ?_
  refine z_callV gt_good d_AL_add_20 zv_AL_131 (ha1) rfl (fun l => c_AL_add2 l g _ a arr b es.length (mc + 1) vs ha1 hr1 (by rw [← hvs]; exact al_elems _ (fun e he => (hes e he).set ha)) (fun e => hz (by rw [e] at hvl; simpa using hvl.symm)) (by omega) (by omega) (hb.set ha)) rfl rfl ⟨Nat.le_of_ble_eq_true rfl, Nat.le_of_ble_eq_true rfl⟩ (Nat.le_of_ble_eq_true rfl) (by simp [hvl]) (by simp [hvl]) ?_
  rintro _ M' ⟨q, rfl, hq, h1, h2, h3⟩
  refine z_iconst (v := 1) d_AL_add_23 (by decide) ?_
  refine z_zreturn d_AL_add_24 rfl (by decide) ?_ (by simp [hvl]) (by simp [hvl])
  have hq0 : q = arr ∨ M q = none := hq.imp And.left zset_none
  have hqz : q ≠ g.2.2.2.1 := by
    rcases hq with ⟨e, hlt⟩ | e
    · rw [e]; exact zne hr hz0 (fun w => by rw [hvl] at hlt; cases w; simp at hvl; omega)
    · exact Ne.symm (zfresh_ne hz0 (zset_none e))
  have hqa : q ≠ a := by
    rcases hq0 with e | e
    · rw [e]; exact Ne.symm hne
    · exact Ne.symm (zfresh_ne ha e)
  refine ⟨q, rfl, hq0, hqz, ⟨⟨mc + 1, by rw [h1]; simp⟩, ?_, ?_, ?_⟩, fun x hx hy => by rw [h3 x hx hy, zset_ne hx]⟩
  · rw [h2, hvl, ← hvs]
    have hge := capA_ge hle
    have hgt := capA_gt hle
    have := al_set es b (cap := cap) (k := capA es.length cap - cap) hle (by omega)
    rw [this, show cap + (capA es.length cap - cap) = capA es.length cap by omega]
  · have := capA_gt hle
    simp
    omega
  · intro h0
    have := capA_gt hle
    omega
