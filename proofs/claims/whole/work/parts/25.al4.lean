set_option maxHeartbeats 4000000 in
set_option maxRecDepth 100000 in
theorem c_AL_rangeCheckForAdd (l : Launch) (g : ZG) (M : ZM) (a arr n i : Nat) (mc : Int32) (ha : M a = some (.inr (6, fAL arr (nI n) mc))) (hi : i ≤ n) (hn : n < 2 ^ 31) : ZC vcl tlx GT l g y_AL_rangeCheckForAdd b_AL_rangeCheckForAdd 2 none (ZRm 0 0 0) [.ref a, .int (nI i)] M (fun v M' => M = M' ∧ v = none) := by
  refine ZC.of (by decide) (Nat.le_of_ble_eq_true rfl) rfl (fun k hz0 => ?_)
  refine z_iload_n d_AL_rangeCheckForAdd_0 rfl ?_
  refine z_aload_n d_AL_rangeCheckForAdd_1 rfl ?_
  refine z_get d_AL_rangeCheckForAdd_2 zf_AL_48 (by assumption) rfl ?_
  refine z_icmp_gt (tgt := 12) d_AL_rangeCheckForAdd_5 (by decide) (fun h5 => False.elim (nI_nlt hi hn h5)) (fun h5 => ?_)
  refine z_iload_n d_AL_rangeCheckForAdd_8 rfl ?_
  refine z_if_ge (tgt := 25) d_AL_rangeCheckForAdd_9 (by decide) (fun h9 => ?_) (fun h9 => False.elim (h9 (nI_pos' (by omega))))
  refine z_return d_AL_rangeCheckForAdd_25 rfl ?_ (by decide) (by decide)
  exact ⟨rfl, rfl⟩
set_option maxHeartbeats 4000000 in
set_option maxRecDepth 100000 in
theorem t_AL_add3 (g : ZG) (k : ZK) (R : Room) (post : Option Value → ZM → Prop) (M : ZM) (n1 n2 a q b i n : Nat) (mc : Int32) (ws : List Value) (ha : M a = some (.inr (6, fAL q (nI n) mc))) (hq : M q = some (.inl (0, ws))) (hel : zElems vcl M ws) (hb : zObj M b) (hi : i ≤ n) (hn : n < ws.length) (hw : ws.length < 2 ^ 31) (hf : 1 ≤ R.frames) (hlo : (nativeFrameWords "java/lang/System" "arraycopy" 5 + 11) ≤ R.locals) (h1 : n1 ≤ R.cells) (h2 : n2 ≤ R.slots) (hp : post none (zset (zset M q (.inl (0, (zcopy ws ws i (i + 1) (n - i)).set i (.ref b)))) a (.inr (6, fAL q (nI (n + 1)) mc)))) : ZW vcl tlx GT "java/util/ArrayList" b_AL_add3 5 none "add" R g k post [some (.ref a), some (.int (nI i)), some (.ref b), some (.int (nI n)), some (.ref q)] 38 [] (M) n1 n2 := by
  obtain ⟨ci, bs, r, hb1, hb2, hb3⟩ := hb
  have hne := al_ne ha hq
  have hbq := al_ne hb1 hq
  refine z_aload d_AL_add3_38 rfl ?_
  refine z_iload_n d_AL_add3_40 rfl ?_
  refine z_aload d_AL_add3_41 rfl ?_
  refine z_iload_n d_AL_add3_43 rfl ?_
  refine z_iconst (v := 1) d_AL_add3_44 (by decide) ?_
  refine z_iadd d_AL_add3_45 ?_
  rw [nI_1]
  refine z_iload_n d_AL_add3_46 rfl ?_
  refine z_iload_n d_AL_add3_47 rfl ?_
  refine z_isub d_AL_add3_48 ?_
  rw [pk_sub hi]
  refine z_copy (sp := i) (dp := i + 1) (n := n - i) d_AL_add3_49 gw_358 gw_263 gw_262 gw_46 rfl hq hq (by omega) (by omega) hw hw (by omega) hel hf (by simpa using hlo) ?_
  refine z_aload d_AL_add3_52 rfl ?_
  refine z_iload_n d_AL_add3_54 rfl ?_
  refine z_aload_n d_AL_add3_55 rfl ?_
  refine z_aast d_AL_add3_56 (zset_self _ _ _) rfl (by omega) (by rw [zcopy_len]; omega) (by rw [zset_ne hbq]; exact hb1) hb2 (Or.inr hb3) ?_
  rw [zset_zset]
  refine z_aload_n d_AL_add3_57 rfl ?_
  refine z_iload_n d_AL_add3_58 rfl ?_
  refine z_iconst (v := 1) d_AL_add3_59 (by decide) ?_
  refine z_iadd d_AL_add3_60 ?_
  rw [nI_1]
  refine z_put d_AL_add3_61 zp_AL_48 (by rw [zset_ne hne]; exact ha) rfl rfl ?_
  refine z_return d_AL_add3_64 rfl ?_ h1 h2
  exact hp
set_option maxHeartbeats 4000000 in
set_option maxRecDepth 100000 in
theorem c_AL_add3 (l : Launch) (g : ZG) (M : ZM) (a arr b i : Nat) (es : List Nat) (cap : Nat) (hl : ALr M g.2.2.2.1 a arr es cap) (hc : cap ≤ 1000000) (hes : ∀ e ∈ es, zObj M e) (hb : zObj M b) (hi : i ≤ es.length) : ZC vcl tlx GT l g y_AL_add3 b_AL_add3 5 none (ZRm 5 (if es.length < cap then 0 else 1) (if es.length < cap then 0 else capA es.length cap)) [.ref a, .int (nI i), .ref b] M (fun v M' => ∃ q : Nat, v = none ∧ (q = arr ∨ M q = none) ∧ q ≠ g.2.2.2.1 ∧ ALr M' g.2.2.2.1 a q (es.take i ++ b :: es.drop i) (capA es.length cap) ∧ ∀ x, x ≠ a → x ≠ q → M' x = M x) := by
  refine ZC.of (by decide) (Nat.le_of_ble_eq_true rfl) rfl (fun k hz0 => ?_)
  obtain ⟨⟨mc, ha⟩, hr, hle, hz⟩ := hl
  have hne := al_ne ha hr
  generalize hvs : es.map Value.ref ++ List.replicate (cap - es.length) Value.null = vs at hr
  have hvl : vs.length = cap := by rw [← hvs]; simp; omega
  have hge := capA_ge hle
  have hgt := capA_gt hle
  have hln : (es.take i ++ b :: es.drop i).length = es.length + 1 := by simp; omega
  have ha1 : zset M a (.inr (6, fAL arr (nI es.length) (mc + 1))) a = some (.inr (6, fAL arr (nI es.length) (mc + 1))) := zset_self _ _ _
  have hr1 : zset M a (.inr (6, fAL arr (nI es.length) (mc + 1))) arr = some (.inl (0, vs)) := by rw [zset_ne (Ne.symm hne)]; exact hr
  have hel1 : zElems vcl (zset M a (.inr (6, fAL arr (nI es.length) (mc + 1)))) vs := by rw [← hvs]; exact al_elems _ (fun e he => (hes e he).set ha)
  have hb1 := hb.set (fs' := fAL arr (nI es.length) (mc + 1)) ha
  refine z_aload_n d_AL_add3_0 rfl ?_
  refine z_iload_n d_AL_add3_1 rfl ?_
  refine z_callV gt_good d_AL_add3_2 zv_AL_135 (ha) rfl (fun l => c_AL_rangeCheckForAdd l g M a arr es.length i mc ha hi (by omega)) rfl rfl ⟨Nat.le_of_ble_eq_true rfl, Nat.le_of_ble_eq_true rfl⟩ (Nat.le_of_ble_eq_true rfl) (by simp) (by simp) ?_
  rintro _ _ ⟨rfl, rfl⟩
  refine z_aload_n d_AL_add3_5 rfl ?_
  refine z_dup d_AL_add3_6 rfl ?_
  refine z_get d_AL_add3_7 zf_AL_63 (ha) rfl ?_
  refine z_iconst (v := 1) d_AL_add3_10 (by decide) ?_
  refine z_iadd d_AL_add3_11 ?_
  refine z_put d_AL_add3_12 zp_AL_63 (ha) rfl rfl ?_
  refine z_aload_n d_AL_add3_15 rfl ?_
  refine z_get d_AL_add3_16 zf_AL_48 (ha1) rfl ?_
  refine z_dup d_AL_add3_19 rfl ?_
  refine z_istore_n (i := 3) d_AL_add3_20 rfl (by decide) rfl ?_
  refine z_aload_n d_AL_add3_21 rfl ?_
  refine z_get d_AL_add3_22 zf_AL_9 (ha1) rfl ?_
  refine z_dup d_AL_add3_25 rfl ?_
  refine z_astore d_AL_add3_26 (by decide) rfl ?_
  refine z_alen d_AL_add3_28 (hr1) rfl ?_
  refine z_icmp_ne (tgt := 38) d_AL_add3_29 (by decide) (fun h29 => ?_) (fun h29 => ?_)
  · skip
    have hlt : es.length < cap := Nat.lt_of_le_of_ne hle (fun e => h29 (by rw [e, hvl]))
    refine t_AL_add3 g k _ _ _ _ _ a arr b i es.length (mc + 1) vs ha1 hr1 hel1 hb1 hi (by omega) (by omega) (Nat.le_of_ble_eq_true rfl) (Nat.le_of_ble_eq_true rfl) (by simp) (by simp) ?_
    refine ⟨arr, rfl, Or.inl rfl, zne hr hz0 (fun w => by cases w; simp at hvl; omega), ⟨⟨mc + 1, by rw [zset_self, hln]⟩, ?_, by omega, by omega⟩, fun x hx hy => by rw [zset_ne hx, zset_ne hy, zset_ne hx]⟩
    rw [zset_ne (Ne.symm hne), zset_self, ← hvs, capA_lt hlt, hln, show cap - es.length = (cap - (es.length + 1)) + 1 by omega, al_ins es b i _ hi]
    skip
  · skip
    have hcap : es.length = cap := by rw [hvl] at h29; exact (nI_eq (by omega) (by omega)).mp h29
    refine z_aload_n d_AL_add3_32 rfl ?_
    refine z_callV gt_good d_AL_add3_33 zv_AL_129 (ha1) rfl (fun l => c_AL_grow l g _ a arr (mc + 1) vs (by rw [hvl, ← hcap]; exact ha1) hr1 hel1 (fun e => hz (by rw [e] at hvl; simpa using hvl.symm)) (by omega)) rfl rfl ⟨Nat.le_of_ble_eq_true rfl, Nat.le_of_ble_eq_true rfl⟩ (Nat.le_of_ble_eq_true rfl) (by simp [hcap]) (by simp [hcap, hvl]) ?_
    rintro _ _ ⟨q, rfl, hq, rfl⟩
    refine z_astore d_AL_add3_36 (by decide) rfl ?_
    have hqm := zset_none hq
    have hqa : a ≠ q := zfresh_ne ha hqm
    refine t_AL_add3 g k _ _ _ _ _ a q b i es.length (mc + 1) (vs ++ List.replicate (capA vs.length vs.length - vs.length) Value.null) (by rw [zset_self, hvl, hcap]) (by rw [zset_ne (Ne.symm hqa), zset_self]) ?_ ?_ hi ?_ ?_ (Nat.le_of_ble_eq_true rfl) (Nat.le_of_ble_eq_true rfl) (by simp [hcap]) (by simp [hcap, hvl]) ?_
    · rw [← hvs, List.append_assoc, List.replicate_append_replicate]
      exact al_elems _ (fun e he => zObj.set (ci := 6) (fs := fAL arr (nI es.length) (mc + 1)) (by obtain ⟨c, f, r, h1, h2, h3⟩ := hes e he; have heq := zfresh_ne h1 hqm; obtain ⟨c, f, r, h1, h2, h3⟩ := (hes e he).set (fs' := fAL arr (nI es.length) (mc + 1)) ha; exact ⟨c, f, r, by rw [zset_ne heq]; exact h1, h2, h3⟩) (by rw [zset_ne hqa]; exact ha1))
    · refine zObj.set (ci := 6) (fs := fAL arr (nI es.length) (mc + 1)) ?_ (by rw [zset_ne hqa]; exact ha1)
      obtain ⟨c, f, r, h1, h2, h3⟩ := hb
      have heq := zfresh_ne h1 hqm
      obtain ⟨c, f, r, h1, h2, h3⟩ := hb1
      exact ⟨c, f, r, by rw [zset_ne heq]; exact h1, h2, h3⟩
    · rw [List.length_append, List.length_replicate, hvl]
      rw [hcap] at hgt
      omega
    · rw [List.length_append, List.length_replicate, hvl]
      have : capA cap cap ≤ 2000000 := by unfold capA; rw [if_neg (by omega)]; split <;> omega
      omega
    · refine ⟨q, rfl, Or.inr hqm, Ne.symm (zfresh_ne hz0 hqm), ⟨⟨mc + 1, by rw [zset_self, hln]⟩, ?_, by omega, by omega⟩, fun x hx hy => by rw [zset_ne hx, zset_ne hy, zset_ne hx, zset_ne hy, zset_ne hx]⟩
      rw [zset_ne (Ne.symm hqa), zset_self, hvl, ← hvs, List.append_assoc, List.replicate_append_replicate, hln]
      rw [show cap - es.length + (capA cap cap - cap) = (capA es.length cap - (es.length + 1)) + 1 by rw [hcap] at hgt ⊢; omega, al_ins es b i _ hi]
