set_option maxHeartbeats 4000000 in
set_option maxRecDepth 100000 in
theorem lp_MQ_init (g : ZG) (k : ZK) (x qarr : Nat) (r : Int32) : ∀ (d i : Nat) (M : ZM) (own : Nat → Nat) (qs : List Nat), i + d = 32 → qs.length = i → M x = some (.inr (0, [.int (roomS r), .ref qarr, .null, .null, .int 0, .int 0, .long 0])) → M qarr = some (.inl (4, qs.map Value.ref ++ List.replicate (32 - i) .null)) → (∀ (j qa : Nat), qs[j]? = some qa → QRep M g.2.2.2.1 own j qa q0S) → own x = 34 → own qarr = 34 → own g.2.2.2.1 = 99 → M g.2.2.2.1 = some (.inl (0, [])) → ZW vcl tlx GT "MonitorQueues" b_MQ_init 3 none "<init>" (ZRm 6 110 800) g k (fun v M' => v = none ∧ ∃ (own : Nat → Nat) (qarr lt lw : Nat) (qs : List Nat), MRep M' g.2.2.2.1 own x qarr lt lw qs (iniS r) 0) [some (.ref x), some (.int r), some (.int (nI i))] 30 [] (M) (1 + 3 * i) (32 + 21 * i) := by
  intro d
  induction d with
  | zero =>
    intro i M own qs hi hql hx hqr hQ hX hXq hzo hz0
    obtain rfl : i = 32 := by omega
    have nqx : qarr ≠ x := zne hqr hx (by intro h; cases h)
    refine z_iload_n d_MQ_init_30 rfl ?_
    refine z_bipush (v := 32) d_MQ_init_31 (by decide) ?_
    refine z_icmp_ge (tgt := 55) d_MQ_init_33 (by decide) (fun h33 => ?_) (fun h33 => False.elim (h33 (by decide)))
    refine z_aload_n d_MQ_init_55 rfl ?_
    refine z_new (ci := 6) (fs := [.null, .int 0, .int 0]) d_MQ_init_56 ⟨_, T_AL, 3, ty_AL, rfl, in_AL, zl_AL, gw_143, gw_78, gw_41, rfl, by decide⟩ (by first | (dsimp only [ZRm]; omega) | (dsimp only [ZRm, List.length]; omega) | (simp [ZRm]; omega) | (simp [ZRm]; done)) (by first | (dsimp only [ZRm]; omega) | (dsimp only [ZRm, List.length]; omega) | (simp [ZRm]; omega) | (simp [ZRm]; done)) (fun l1 hl1 => ?_)
    have nx1 : x ≠ l1 := zfresh_ne hx hl1
    refine z_dup d_MQ_init_59 rfl ?_
    refine z_callI gt_good d_MQ_init_60 zi_MQ_31 (fun l => c_AL_init l g _ l1 (.int 0) (.int 0) (zset_self _ _ _)) rfl rfl ⟨Nat.le_of_ble_eq_true rfl, Nat.le_of_ble_eq_true rfl⟩ (Nat.le_of_ble_eq_true rfl) (by first | (dsimp only [ZRm]; omega) | (dsimp only [ZRm, List.length]; omega) | (simp [ZRm]; omega) | (simp [ZRm]; done)) (by first | (dsimp only [ZRm]; omega) | (dsimp only [ZRm, List.length]; omega) | (simp [ZRm]; omega) | (simp [ZRm]; done)) ?_
    rintro _ _ ⟨rfl, rfl⟩
    rw [zset_zset]
    refine z_putF d_MQ_init_63 zp_MQ_32 rfl (by rw [zset_ne nx1]; exact hx) rfl rfl ?_
    refine z_aload_n d_MQ_init_66 rfl ?_
    refine z_new (ci := 6) (fs := [.null, .int 0, .int 0]) d_MQ_init_67 ⟨_, T_AL, 3, ty_AL, rfl, in_AL, zl_AL, gw_143, gw_78, gw_41, rfl, by decide⟩ (by first | (dsimp only [ZRm]; omega) | (dsimp only [ZRm, List.length]; omega) | (simp [ZRm]; omega) | (simp [ZRm]; done)) (by first | (dsimp only [ZRm]; omega) | (dsimp only [ZRm, List.length]; omega) | (simp [ZRm]; omega) | (simp [ZRm]; done)) (fun l2 hl2 => ?_)
    have hl2a := zset_none hl2
    have hl2b := zset_none hl2a
    have nx2 : x ≠ l2 := zfresh_ne hx hl2b
    have n12 : l1 ≠ l2 := zfresh_ne (zset_self _ _ _) hl2a
    refine z_dup d_MQ_init_70 rfl ?_
    refine z_callI gt_good d_MQ_init_71 zi_MQ_31 (fun l => c_AL_init l g _ l2 (.int 0) (.int 0) (zset_self _ _ _)) rfl rfl ⟨Nat.le_of_ble_eq_true rfl, Nat.le_of_ble_eq_true rfl⟩ (Nat.le_of_ble_eq_true rfl) (by first | (dsimp only [ZRm]; omega) | (dsimp only [ZRm, List.length]; omega) | (simp [ZRm]; omega) | (simp [ZRm]; done)) (by first | (dsimp only [ZRm]; omega) | (dsimp only [ZRm, List.length]; omega) | (simp [ZRm]; omega) | (simp [ZRm]; done)) ?_
    rintro _ _ ⟨rfl, rfl⟩
    rw [zset_zset]
    refine z_putF d_MQ_init_74 zp_MQ_36 rfl (by rw [zset_ne nx2, zset_self]) rfl rfl ?_
    refine z_return d_MQ_init_77 rfl ?_ (by first | (dsimp only [ZRm]; omega) | (dsimp only [ZRm, List.length]; omega) | (simp [ZRm]; omega) | (simp [ZRm]; done)) (by first | (dsimp only [ZRm]; omega) | (dsimp only [ZRm, List.length]; omega) | (simp [ZRm]; omega) | (simp [ZRm]; done))
    refine ⟨rfl, ow (zset M l1 (.inr (6, fAL g.2.2.2.1 0 0))) (ow M own 32) 33, qarr, l1, l2, qs, ?_⟩
    have hd : ∀ y, M y ≠ none → ow (zset M l1 (.inr (6, fAL g.2.2.2.1 0 0))) (ow M own 32) 33 y = own y := fun y hy => by rw [ow_old (zset_dom hy), ow_old hy]
    have hf : ∀ y, M y ≠ none → y ≠ x → (zset (zset (zset (zset M l1 (.inr (6, fAL g.2.2.2.1 0 0))) x (.inr (0, [.int (roomS r), .ref qarr, .ref l1, .null, .int 0, .int 0, .long 0]))) l2 (.inr (6, fAL g.2.2.2.1 0 0))) x (.inr (0, [.int (roomS r), .ref qarr, .ref l1, .ref l2, .int 0, .int 0, .long 0]))) y = M y := fun y hy yx => by rw [zset_ne yx, zset_ne (fun w => hy (by rw [w]; exact hl2b)), zset_ne yx, zset_ne (fun w => hy (by rw [w]; exact hl1))]
    have hfz : (zset (zset (zset (zset M l1 (.inr (6, fAL g.2.2.2.1 0 0))) x (.inr (0, [.int (roomS r), .ref qarr, .ref l1, .null, .int 0, .int 0, .long 0]))) l2 (.inr (6, fAL g.2.2.2.1 0 0))) x (.inr (0, [.int (roomS r), .ref qarr, .ref l1, .ref l2, .int 0, .int 0, .long 0]))) g.2.2.2.1 = M g.2.2.2.1 := hf _ (by rw [hz0]; simp) (fun w => by rw [w, hX] at hzo; omega)
    refine ⟨⟨zset_self _ _ _, (hf qarr (by rw [hqr]; simp) nqx).trans (by rw [hqr, Nat.sub_self]; simp), hql, by rw [hd x (by rw [hx]; simp)]; exact hX, by rw [hd qarr (by rw [hqr]; simp)]; exact hXq⟩, fun j qa hj => ?_, ?_, ?_, by rw [hd _ (by rw [hz0]; simp)]; exact hzo⟩
    · have hj32 : j < 32 := by rw [← hql]; exact (List.getElem?_eq_some_iff.mp hj).1
      exact (hQ j qa hj).fr (fun y hy hyo => ⟨hf y hy (fun e => by rw [e, hX] at hyo; omega), by rw [hd y hy]; exact hyo⟩) hfz
    · refine ⟨g.2.2.2.1, [], ⟨⟨0, ?_⟩, hfz.trans hz0, Nat.le_refl _, fun _ => rfl⟩, rfl, fun j e h => by simp at h, List.nodup_nil, ?_, fun h => absurd rfl h⟩
      · rw [zset_ne (Ne.symm nx1), zset_ne n12, zset_ne (Ne.symm nx1), zset_self]; rfl
      · rw [ow_old (by rw [zset_self]; simp)]; exact ow_new hl1
    · refine ⟨g.2.2.2.1, [], 0, ⟨⟨0, ?_⟩, hfz.trans hz0, Nat.le_refl _, fun _ => rfl⟩, by decide, rfl, fun j e h => by simp at h, ?_, fun h => absurd rfl h⟩
      · rw [zset_ne (Ne.symm nx2), zset_self]; rfl
      · exact ow_new hl2a
  | succ d ih =>
    intro i M own qs hi hql hx hqr hQ hX hXq hzo hz0
    have nqx : qarr ≠ x := zne hqr hx (by intro h; cases h)
    refine z_iload_n d_MQ_init_30 rfl ?_
    refine z_bipush (v := 32) d_MQ_init_31 (by decide) ?_
    refine z_icmp_ge (tgt := 55) d_MQ_init_33 (by decide) (fun h33 => False.elim (nI_ge (show i < 32 by omega) (by decide) h33)) (fun h33 => ?_)
    refine z_aload_n d_MQ_init_36 rfl ?_
    refine z_get d_MQ_init_37 zf_MQ_24 (hx) rfl ?_
    refine z_iload_n d_MQ_init_40 rfl ?_
    refine z_new (ci := 1) (fs := [.null, .null, .int 0, .int 0, .int 0, .long 0, .int 0, .int 0, .long 0, .null]) d_MQ_init_41 ⟨_, T_Qu, 10, ty_Qu, rfl, in_Qu, zl_Qu, gw_70, gw_72, gw_38, rfl, by decide⟩ (by first | (dsimp only [ZRm]; omega) | (dsimp only [ZRm, List.length]; omega) | (simp [ZRm]; omega) | (simp [ZRm]; done)) (by first | (dsimp only [ZRm]; omega) | (dsimp only [ZRm, List.length]; omega) | (simp [ZRm]; omega) | (simp [ZRm]; done)) (fun q hq => ?_)
    refine z_dup d_MQ_init_44 rfl ?_
    refine z_callI gt_good d_MQ_init_45 zi_MQ_28 (fun l => c_Qu_init l g _ q (zset_self _ _ _)) rfl rfl ⟨Nat.le_of_ble_eq_true rfl, Nat.le_of_ble_eq_true rfl⟩ (Nat.le_of_ble_eq_true rfl) (by first | (dsimp only [ZRm]; omega) | (dsimp only [ZRm, List.length]; omega) | (simp [ZRm]; omega) | (simp [ZRm]; done)) (by first | (dsimp only [ZRm]; omega) | (dsimp only [ZRm, List.length]; omega) | (simp [ZRm]; omega) | (simp [ZRm]; done)) ?_
    rintro _ M2 ⟨q1, q2, rfl, hq1, hq2, n12, e1, e2, e3, e4⟩
    have h1a := zset_none hq1
    have h2a := zset_none hq2
    refine z_aast (ci := 1) d_MQ_init_48 (by rw [e4 qarr (zfresh_ne hqr hq) (zfresh_ne hqr h1a) (zfresh_ne hqr h2a), zset_ne (zfresh_ne hqr hq)]; exact hqr) rfl (by omega) (by simp [hql]; omega) e1 rfl (Or.inl rfl) ?_
    rw [ini_set qs q i hql (by omega)]
    refine z_iinc (v := nI (i + 1)) d_MQ_init_49 rfl (nI_1 i) (by decide) rfl ?_
    refine z_goto (tgt := 30) d_MQ_init_52 (by decide) ?_
    have hM3 : ∀ y, M y ≠ none → y ≠ qarr → (zset M2 qarr (.inl (4, (qs ++ [q]).map Value.ref ++ List.replicate (32 - (i + 1)) Value.null))) y = M y := fun y hy yq => by rw [zset_ne yq, e4 y (fun w => hy (by rw [w]; exact hq)) (fun w => hy (by rw [w]; exact h1a)) (fun w => hy (by rw [w]; exact h2a)), zset_ne (fun w => hy (by rw [w]; exact hq))]
    have hz3 := hM3 _ (by rw [hz0]; simp) (zne hz0 hqr (by simp [hql]))
    have nq1 : q ≠ q1 := zfresh_ne (zset_self _ _ _) hq1
    have nq2 : q ≠ q2 := zfresh_ne (zset_self _ _ _) hq2
    refine z_widen (k1 := 1 + 3 * (i + 1)) (k2 := 32 + 21 * (i + 1)) (by dsimp only [ZRm]; omega) (by dsimp only [ZRm, List.length]; omega) ?_
    refine ih (i + 1) _ (ow M own i) (qs ++ [q]) (by omega) (by simp [hql]) ?_ (zset_self _ _ _) (fun j qa hj => ?_) ?_ ?_ ?_ (by rw [hz3]; exact hz0)
    · rw [hM3 x (by rw [hx]; simp) (Ne.symm nqx)]; exact hx
    · by_cases hji : j < qs.length
      · rw [List.getElem?_append_left hji] at hj
        exact (hQ j qa hj).fr (fun y hy hyo => ⟨hM3 y hy (fun w => by rw [w, hXq] at hyo; omega), by rw [ow_old hy]; exact hyo⟩) hz3
      · have hjn : j = qs.length := by have := (List.getElem?_eq_some_iff.mp hj).1; simp at this; omega
        rw [hjn, List.getElem?_append_right (Nat.le_refl _), Nat.sub_self] at hj
        obtain rfl : q = qa := by simpa using hj
        have hji2 : j = i := by omega
        subst hji2
        refine q0_rep (mc := 0) (la := q1) (pa := q2) (by rw [zset_ne (Ne.symm (zfresh_ne hqr hq))]; exact e1) (by rw [zset_ne (Ne.symm (zfresh_ne hqr h1a))]; exact e2) (by rw [zset_ne (Ne.symm (zfresh_ne hqr h2a))]; exact e3) (by rw [hz3]; exact hz0) (ow_new hq) (ow_new h1a) (ow_new h2a)
    · rw [ow_old (by rw [hx]; simp)]; exact hX
    · rw [ow_old (by rw [hqr]; simp)]; exact hXq
    · rw [ow_old (by rw [hz0]; simp)]; exact hzo
set_option maxHeartbeats 4000000 in
set_option maxRecDepth 100000 in
theorem c_MQ_init (l : Launch) (g : ZG) (M : ZM) (x : Nat) (r : Int32) (hx : M x = some (.inr (0, [.int 0, .null, .null, .null, .int 0, .int 0, .long 0]))) : ZC vcl tlx GT l g y_MQ_init b_MQ_init 3 none (ZRm 6 110 800) [.ref x, .int r] M (fun v M' => v = none ∧ ∃ (own : Nat → Nat) (qarr lt lw : Nat) (qs : List Nat), MRep M' g.2.2.2.1 own x qarr lt lw qs (iniS r) 0) := by
  refine ZC.of (by decide) (Nat.le_of_ble_eq_true rfl) rfl (fun k hz0 => ?_)
  refine z_aload_n d_MQ_init_0 rfl ?_
  refine z_objInit d_MQ_init_1 gw_61 gw_62 gw_63 (Nat.le_of_ble_eq_true rfl) (Nat.le_of_ble_eq_true rfl) ?_
  refine z_aload_n d_MQ_init_4 rfl ?_
  refine z_iconst (v := 1) d_MQ_init_5 (by decide) ?_
  refine z_iload_n d_MQ_init_6 rfl ?_
  refine z_sipush (v := 4096) d_MQ_init_7 (by decide) ?_
  refine z_mmin d_MQ_init_10 gw_64 gw_65 gw_37 gw_66 (by decide) (Nat.le_of_ble_eq_true rfl) (by first | (dsimp only [ZRm]; omega) | (dsimp only [ZRm, List.length]; omega) | (simp [ZRm]; omega) | (simp [ZRm]; done)) (by first | (dsimp only [ZRm]; omega) | (dsimp only [ZRm, List.length]; omega) | (simp [ZRm]; omega) | (simp [ZRm]; done)) ?_
  refine z_mmax d_MQ_init_13 gw_67 gw_68 gw_37 gw_69 (by decide) (Nat.le_of_ble_eq_true rfl) (by first | (dsimp only [ZRm]; omega) | (dsimp only [ZRm, List.length]; omega) | (simp [ZRm]; omega) | (simp [ZRm]; done)) (by first | (dsimp only [ZRm]; omega) | (dsimp only [ZRm, List.length]; omega) | (simp [ZRm]; omega) | (simp [ZRm]; done)) ?_
  refine z_putF d_MQ_init_16 zp_MQ_18 rfl (hx) rfl rfl ?_
  refine z_aload_n d_MQ_init_19 rfl ?_
  refine z_bipush (v := 32) d_MQ_init_20 (by decide) ?_
  refine z_anew (t := 4) (N := 32) d_MQ_init_22 gw_70 (by decide) rfl (by decide) (by decide) (by first | (dsimp only [ZRm]; omega) | (dsimp only [ZRm, List.length]; omega) | (simp [ZRm]; omega) | (simp [ZRm]; done)) (by first | (dsimp only [ZRm]; omega) | (dsimp only [ZRm, List.length]; omega) | (simp [ZRm]; omega) | (simp [ZRm]; done)) (fun qarr hqa0 => ?_)
  have hqa := zset_none hqa0
  refine z_putF d_MQ_init_25 zp_MQ_24 rfl (by rw [zset_ne (zfresh_ne hx hqa), zset_self]) rfl rfl ?_
  refine z_iconst (v := 0) d_MQ_init_28 (by decide) ?_
  refine z_istore_n (i := 2) d_MQ_init_29 rfl (by decide) rfl ?_
  refine z_widen (k1 := 1 + 3 * 0) (k2 := 32 + 21 * 0) (by omega) (by omega) ?_
  refine lp_MQ_init g k x qarr r 32 0 _ (fun y => if y = g.2.2.2.1 then 99 else 34) [] rfl rfl (zset_self _ _ _) ?_ (fun j qa h => by simp at h) ?_ ?_ ?_ ?_
  · rw [zset_ne (Ne.symm (zfresh_ne hx hqa)), zset_self]; rfl
  · show (if x = g.2.2.2.1 then 99 else 34) = 34
    exact if_neg (zne hx hz0 (by intro h; cases h))
  · show (if qarr = g.2.2.2.1 then 99 else 34) = 34
    exact if_neg (fun w => by rw [w, hz0] at hqa; cases hqa)
  · exact if_pos rfl
  · rw [zset_ne (zne hz0 hx (by intro h; cases h)), zset_ne (zfresh_ne hz0 hqa), zset_ne (zne hz0 hx (by intro h; cases h))]; exact hz0
