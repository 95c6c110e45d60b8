set_option maxHeartbeats 4000000 in
set_option maxRecDepth 100000 in
theorem lp_MQ_keepWaiting (g : ZG) (k : ZK) (M : ZM) (x qarr lt lw : Nat) (S : MS) (own : Nat → Nat) (da arr : Nat) (es : List Nat) (cap : Nat) (d : DS) (hx : M x = some (.inr (0, fM qarr lt lw S))) (hd : M da = some (.inr (5, [.int d.1, .int d.2.1, .long d.2.2]))) (hl : ALr M g.2.2.2.1 lw arr es cap) (hc : cap ≤ 1000) (hln : es.length ≤ 600) (h4 : es.length = S.2.2.2.2.1.length) (h5 : ∀ (j e : Nat), es[j]? = some e → ∃ x : DS, S.2.2.2.2.1[j]? = some x ∧ M e = some (.inr (5, [.int x.1, .int x.2.1, .long x.2.2])) ∧ own e = 33) : ∀ n : Nat, n ≤ es.length → kwN S.2.2.2.2.1 d.2.2 S.2.2.2.2.1.length = kwN S.2.2.2.2.1 d.2.2 n → ZW vcl tlx GT "MonitorQueues" b_MQ_keepWaiting 3 none "keepWaiting" (ZRm 6 1 1000) g k (fun r M' => ∃ q : Nat, r = none ∧ (q = arr ∨ M q = none) ∧ q ≠ g.2.2.2.1 ∧ ALr M' g.2.2.2.1 lw q (es.take (kwN S.2.2.2.2.1 d.2.2 S.2.2.2.2.1.length) ++ da :: es.drop (kwN S.2.2.2.2.1 d.2.2 S.2.2.2.2.1.length)) (capA es.length cap) ∧ ∀ y, y ≠ lw → y ≠ q → M' y = M y) [some (.ref x), some (.ref da), some (.int (nI n))] 8 [] (M) 0 0 := by
  obtain ⟨⟨mc, hla⟩, hr, hle, hz⟩ := id hl
  have hok := capA_ok (n := es.length) (cap := cap) hln hc hle
  intro n
  induction n with
  | zero =>
    intro hn hk
    refine z_iload_n d_MQ_keepWaiting_8 rfl ?_
    refine z_if_le (tgt := 42) d_MQ_keepWaiting_9 (by decide) (fun h9 => ?_) (fun h9 => False.elim (h9 (by decide)))
    have hkk : kwN S.2.2.2.2.1 d.2.2 S.2.2.2.2.1.length = 0 := hk
    refine z_aload_n d_MQ_keepWaiting_42 rfl ?_
    refine z_get d_MQ_keepWaiting_43 zf_MQ_36 (hx) rfl ?_
    refine z_iload_n d_MQ_keepWaiting_46 rfl ?_
    refine z_aload_n d_MQ_keepWaiting_47 rfl ?_
    refine z_callV gt_good d_MQ_keepWaiting_48 zv_MQ_222 (hla) rfl (fun l => c_AL_add3 l g M lw arr da (0) es cap hl (by omega) (fun e he => by obtain ⟨j, hj⟩ := List.getElem?_of_mem he; obtain ⟨y, -, hy, -⟩ := h5 j e hj; exact zObj.de hy) (zObj.de hd) (by omega)) rfl rfl ⟨Nat.le_of_ble_eq_true rfl, Nat.le_of_ble_eq_true rfl⟩ (Nat.le_of_ble_eq_true rfl) (by dsimp only [ZRm]; (repeat' split) <;> omega) (by dsimp only [ZRm]; (repeat' split) <;> omega) ?_
    rintro _ M1 ⟨q, rfl, e1, e2, e3, e4⟩
    refine z_return d_MQ_keepWaiting_51 rfl ?_ (by dsimp only [ZRm]; (repeat' split) <;> omega) (by dsimp only [ZRm]; (repeat' split) <;> omega)
    rw [← hkk] at e3
    exact ⟨q, rfl, e1, e2, e3, e4⟩
  | succ n ih =>
    intro hn hk
    obtain ⟨e, he⟩ : ∃ e, es[n]? = some e := ⟨es[n]'(by omega), List.getElem?_eq_getElem (by omega)⟩
    obtain ⟨y, k1, k2, k3⟩ := h5 n e he
    refine z_iload_n d_MQ_keepWaiting_8 rfl ?_
    refine z_if_le (tgt := 42) d_MQ_keepWaiting_9 (by decide) (fun h9 => False.elim (nI_nle (show 0 < n + 1 by omega) (by omega) h9)) (fun h9 => ?_)
    refine z_aload_n d_MQ_keepWaiting_12 rfl ?_
    refine z_get d_MQ_keepWaiting_13 zf_MQ_36 (hx) rfl ?_
    refine z_iload_n d_MQ_keepWaiting_16 rfl ?_
    refine z_iconst (v := 1) d_MQ_keepWaiting_17 (by decide) ?_
    refine z_isub d_MQ_keepWaiting_18 ?_
    rw [nI_pred]
    refine z_callV gt_good d_MQ_keepWaiting_19 zv_MQ_90 (hla) rfl (fun l => c_AL_get l g M lw arr es.length mc _ n e hla hr (by omega) (by omega) (al_get he)) rfl rfl ⟨Nat.le_of_ble_eq_true rfl, Nat.le_of_ble_eq_true rfl⟩ (Nat.le_of_ble_eq_true rfl) (Nat.le_of_ble_eq_true rfl) (Nat.le_of_ble_eq_true rfl) ?_
    rintro _ _ ⟨rfl, rfl⟩
    refine z_cast (ci := 5) d_MQ_keepWaiting_22 gw_426 k2 rfl rfl ?_
    refine z_get d_MQ_keepWaiting_25 zf_MQ_219 (k2) rfl ?_
    refine z_aload_n d_MQ_keepWaiting_28 rfl ?_
    refine z_get d_MQ_keepWaiting_29 zf_MQ_219 (hd) rfl ?_
    refine z_lcmp d_MQ_keepWaiting_32 ?_
    refine z_if_le (tgt := 42) d_MQ_keepWaiting_33 (by decide) (fun h33 => ?_) (fun h33 => ?_)
    · skip
      have hkk : kwN S.2.2.2.2.1 d.2.2 S.2.2.2.2.1.length = n + 1 := by
        rw [hk]
        show (if ((S.2.2.2.2.1[n]?).getD (0, 0, 0)).2.2 ≤ d.2.2 then n + 1 else _) = _
        rw [k1]
        exact if_pos ((lg_cmp_le _ _).mp h33)
      refine z_aload_n d_MQ_keepWaiting_42 rfl ?_
      refine z_get d_MQ_keepWaiting_43 zf_MQ_36 (hx) rfl ?_
      refine z_iload_n d_MQ_keepWaiting_46 rfl ?_
      refine z_aload_n d_MQ_keepWaiting_47 rfl ?_
      refine z_callV gt_good d_MQ_keepWaiting_48 zv_MQ_222 (hla) rfl (fun l => c_AL_add3 l g M lw arr da (n + 1) es cap hl (by omega) (fun e he => by obtain ⟨j, hj⟩ := List.getElem?_of_mem he; obtain ⟨y, -, hy, -⟩ := h5 j e hj; exact zObj.de hy) (zObj.de hd) (by omega)) rfl rfl ⟨Nat.le_of_ble_eq_true rfl, Nat.le_of_ble_eq_true rfl⟩ (Nat.le_of_ble_eq_true rfl) (by dsimp only [ZRm]; (repeat' split) <;> omega) (by dsimp only [ZRm]; (repeat' split) <;> omega) ?_
      rintro _ M1 ⟨q, rfl, e1, e2, e3, e4⟩
      refine z_return d_MQ_keepWaiting_51 rfl ?_ (by dsimp only [ZRm]; (repeat' split) <;> omega) (by dsimp only [ZRm]; (repeat' split) <;> omega)
      rw [← hkk] at e3
      exact ⟨q, rfl, e1, e2, e3, e4⟩
    · skip
      have hkk : kwN S.2.2.2.2.1 d.2.2 S.2.2.2.2.1.length = kwN S.2.2.2.2.1 d.2.2 n := by
        rw [hk]
        show (if ((S.2.2.2.2.1[n]?).getD (0, 0, 0)).2.2 ≤ d.2.2 then n + 1 else _) = _
        rw [k1]
        exact if_neg (fun q => h33 ((lg_cmp_le _ _).mpr q))
      refine z_iinc (v := nI n) d_MQ_keepWaiting_36 rfl (by show nI (n + 1) + Int32.ofInt (-1) = nI n; rw [show nI (n + 1) + Int32.ofInt (-1) = nI (n + 1) - 1 from by rw [Int32.sub_eq_add_neg]; rfl, nI_pred]) (by decide) rfl ?_
      refine z_goto (tgt := 8) d_MQ_keepWaiting_39 (by decide) ?_
      exact ih (by omega) hkk
set_option maxHeartbeats 4000000 in
set_option maxRecDepth 100000 in
theorem c_MQ_keepWaiting (l : Launch) (g : ZG) (M : ZM) (x qarr lt lw : Nat) (S : MS) (own : Nat → Nat) (da arr : Nat) (es : List Nat) (cap : Nat) (d : DS) (hx : M x = some (.inr (0, fM qarr lt lw S))) (hd : M da = some (.inr (5, [.int d.1, .int d.2.1, .long d.2.2]))) (hl : ALr M g.2.2.2.1 lw arr es cap) (hc : cap ≤ 1000) (hln : es.length ≤ 600) (h4 : es.length = S.2.2.2.2.1.length) (h5 : ∀ (j e : Nat), es[j]? = some e → ∃ x : DS, S.2.2.2.2.1[j]? = some x ∧ M e = some (.inr (5, [.int x.1, .int x.2.1, .long x.2.2])) ∧ own e = 33) : ZC vcl tlx GT l g y_MQ_keepWaiting b_MQ_keepWaiting 3 none (ZRm 6 1 1000) [.ref x, .ref da] M (fun r M' => ∃ q : Nat, r = none ∧ (q = arr ∨ M q = none) ∧ q ≠ g.2.2.2.1 ∧ ALr M' g.2.2.2.1 lw q (es.take (kwN S.2.2.2.2.1 d.2.2 S.2.2.2.2.1.length) ++ da :: es.drop (kwN S.2.2.2.2.1 d.2.2 S.2.2.2.2.1.length)) (capA es.length cap) ∧ ∀ y, y ≠ lw → y ≠ q → M' y = M y) := by
  refine ZC.of (by decide) (Nat.le_of_ble_eq_true rfl) rfl (fun k hz0 => ?_)
  obtain ⟨⟨mc, hla⟩, hr, hle, hz⟩ := id hl
  refine z_aload_n d_MQ_keepWaiting_0 rfl ?_
  refine z_get d_MQ_keepWaiting_1 zf_MQ_36 (hx) rfl ?_
  refine z_callV gt_good d_MQ_keepWaiting_4 zv_MQ_151 (hla) rfl (fun l => c_AL_size l g M lw arr (nI es.length) mc hla) rfl rfl ⟨Nat.le_of_ble_eq_true rfl, Nat.le_of_ble_eq_true rfl⟩ (Nat.le_of_ble_eq_true rfl) (Nat.le_of_ble_eq_true rfl) (Nat.le_of_ble_eq_true rfl) ?_
  rintro _ _ ⟨rfl, rfl⟩
  refine z_istore_n (i := 2) d_MQ_keepWaiting_7 rfl (by decide) rfl ?_
  exact lp_MQ_keepWaiting g k M x qarr lt lw S own da arr es cap d hx hd hl hc hln h4 h5 es.length (Nat.le_refl _) (by rw [h4])
set_option maxHeartbeats 4000000 in
set_option maxRecDepth 100000 in
theorem lp_MQ_postDue (g : ZG) (k : ZK) (post : Option Value → ZM → Prop) (x qarr lt lw : Nat) (qs : List Nat) (S0 : MS) (hb : (pdN S0 200).2.2.2.1.length ≤ 600) (hp : ∀ (M : ZM) (own : Nat → Nat) (cap : Nat), MRep M g.2.2.2.1 own x qarr lt lw qs (pdN S0 200).2 cap → cap ≤ 1000 → post (some (.int (nI (pdN S0 200).1))) M) : ∀ (f p : Nat) (M : ZM) (own : Nat → Nat) (S : MS) (cap : Nat), p + f = 200 → pdN S0 200 = (p + (pdN S f).1, (pdN S f).2) → MRep M g.2.2.2.1 own x qarr lt lw qs S cap → cap ≤ 1000 → M g.2.2.2.1 = some (.inl (0, [])) → ZW vcl tlx GT "MonitorQueues" b_MQ_postDue 2 (Option.some FieldType.int) "postDue" (ZRm 9 402 4402) g k post [some (.ref x), some (.int (nI p))] 2 [] (M) (2 * p) (2 * p + 4 * cap) := by
  intro f
  induction f with
  | zero =>
    intro p M own S cap hf hpd hm hc hz0
    obtain rfl : p = 200 := by omega
    refine z_iload_n d_MQ_postDue_2 rfl ?_
    refine z_sipush (v := 200) d_MQ_postDue_3 (by decide) ?_
    refine z_icmp_ge (tgt := 66) d_MQ_postDue_6 (by decide) (fun h6 => ?_) (fun h6 => False.elim (h6 (by decide)))
    refine z_iload_n d_MQ_postDue_66 rfl ?_
    refine z_ireturn d_MQ_postDue_67 rfl ?_ (by first | (dsimp only [ZRm]; omega) | (dsimp only [ZRm, List.length]; omega) | (simp [ZRm]; done)) (by first | (dsimp only [ZRm]; omega) | (dsimp only [ZRm, List.length]; omega) | (simp [ZRm]; done))
    have hpp : pdN S0 200 = (200, S) := by rw [hpd]; rfl
    have hp0 := hp M own cap (by rw [hpp]; exact hm) hc
    rw [hpp] at hp0
    exact hp0
  | succ f ih =>
    intro p M own S cap hf hpd hm hc hz0
    obtain ⟨⟨hx, hqr, hl, hX, hXq⟩, hQ, hT, hD, hzo⟩ := id hm
    obtain ⟨arr, es, cp, d1, d2, d3, d4, d5, d6⟩ := id hD
    obtain ⟨⟨mc, u2⟩, u2r, u2c, u2z⟩ := id d1
    refine z_iload_n d_MQ_postDue_2 rfl ?_
    refine z_sipush (v := 200) d_MQ_postDue_3 (by decide) ?_
    refine z_icmp_ge (tgt := 66) d_MQ_postDue_6 (by decide) (fun h6 => False.elim (nI_ge (show p < 200 by omega) (by decide) h6)) (fun h6 => ?_)
    refine z_aload_n d_MQ_postDue_9 rfl ?_
    refine z_get d_MQ_postDue_10 zf_MQ_36 (hx) rfl ?_
    refine z_callV gt_good d_MQ_postDue_13 zv_MQ_114 (u2) rfl (fun l => c_AL_isEmpty l g M lw arr (nI es.length) mc u2) rfl rfl ⟨Nat.le_of_ble_eq_true rfl, Nat.le_of_ble_eq_true rfl⟩ (Nat.le_of_ble_eq_true rfl) (by first | (dsimp only [ZRm]; omega) | (dsimp only [ZRm, List.length]; omega) | (simp [ZRm]; done)) (by first | (dsimp only [ZRm]; omega) | (dsimp only [ZRm, List.length]; omega) | (simp [ZRm]; done)) ?_
    rintro _ _ ⟨rfl, rfl⟩
    refine z_if_ne (tgt := 66) d_MQ_postDue_16 (by decide) (fun h16 => ?_) (fun h16 => ?_)
    · skip
      have hem : S.2.2.2.2.1 = [] := List.length_eq_zero_iff.mp ((nI_eq (by omega) (by decide)).mp (by have h := zif1 h16; rw [d3] at h; exact h))
      have hpy := pdN_nil f hem
      refine z_iload_n d_MQ_postDue_66 rfl ?_
      refine z_ireturn d_MQ_postDue_67 rfl ?_ (by first | (dsimp only [ZRm]; omega) | (dsimp only [ZRm, List.length]; omega) | (simp [ZRm]; done)) (by first | (dsimp only [ZRm]; omega) | (dsimp only [ZRm, List.length]; omega) | (simp [ZRm]; done))
      have hpp : pdN S0 200 = (p, S) := by rw [hpd, hpy]; rfl
      have hp0 := hp M own cap (by rw [hpp]; exact hm) hc
      rw [hpp] at hp0
      exact hp0
    · skip
      obtain ⟨d, ds, hds⟩ : ∃ d ds, S.2.2.2.2.1 = d :: ds := by
        cases hh : S.2.2.2.2.1 with
        | nil => exact absurd (by rw [d3, hh]; rfl) (zif0 h16)
        | cons a b => exact ⟨a, b, rfl⟩
      obtain ⟨e0, es1, rfl⟩ : ∃ e0 es1, es = e0 :: es1 := by
        cases es with
        | nil => rw [hds] at d3; cases d3
        | cons a b => exact ⟨a, b, rfl⟩
      obtain ⟨y, k1, k2, k3⟩ := d4 0 e0 rfl
      have hyd : d = y := by rw [hds] at k1; exact Option.some.inj k1
      subst hyd
      refine z_aload_n d_MQ_postDue_19 rfl ?_
      refine z_get d_MQ_postDue_20 zf_MQ_36 (hx) rfl ?_
      refine z_iconst (v := 0) d_MQ_postDue_23 (by decide) ?_
      refine z_callV gt_good d_MQ_postDue_24 zv_MQ_90 (u2) rfl (fun l => c_AL_get l g M lw arr (e0 :: es1).length mc _ 0 e0 u2 u2r (by simp) (by omega) (al_get rfl)) rfl rfl ⟨Nat.le_of_ble_eq_true rfl, Nat.le_of_ble_eq_true rfl⟩ (Nat.le_of_ble_eq_true rfl) (by first | (dsimp only [ZRm]; omega) | (dsimp only [ZRm, List.length]; omega) | (simp [ZRm]; done)) (by first | (dsimp only [ZRm]; omega) | (dsimp only [ZRm, List.length]; omega) | (simp [ZRm]; done)) ?_
      rintro _ _ ⟨rfl, rfl⟩
      refine z_cast (ci := 5) d_MQ_postDue_27 gw_426 k2 rfl rfl ?_
      refine z_get d_MQ_postDue_30 zf_MQ_219 (k2) rfl ?_
      refine z_aload_n d_MQ_postDue_33 rfl ?_
      refine z_get d_MQ_postDue_34 zf_MQ_57 (hx) rfl ?_
      refine z_lcmp d_MQ_postDue_37 ?_
      refine z_if_gt (tgt := 66) d_MQ_postDue_38 (by decide) (fun h38 => ?_) (fun h38 => ?_)
      · skip
        have hpy := pdN_no f hds ((lg_cmp_gt _ _).mp h38)
        refine z_iload_n d_MQ_postDue_66 rfl ?_
        refine z_ireturn d_MQ_postDue_67 rfl ?_ (by first | (dsimp only [ZRm]; omega) | (dsimp only [ZRm, List.length]; omega) | (simp [ZRm]; done)) (by first | (dsimp only [ZRm]; omega) | (dsimp only [ZRm, List.length]; omega) | (simp [ZRm]; done))
        have hpp : pdN S0 200 = (p, S) := by rw [hpd, hpy]; rfl
        have hp0 := hp M own cap (by rw [hpp]; exact hm) hc
        rw [hpp] at hp0
        exact hp0
      · skip
        have hpy := pdN_yes f hds (fun q => h38 ((lg_cmp_gt _ _).mpr q))
        have hlen : S.2.2.1.length + 1 ≤ 600 := by
          have hh := pdN_len f (pdS S d ds)
          rw [hpd, hpy] at hb
          simp [pdS] at hh hb
          omega
        have hcap := hT.len
        have hpay := capA_pay2 hcap
        have hok := capA_ok (n := S.2.2.1.length) (cap := cap) (by omega) hc hcap
        have harz : arr ≠ g.2.2.2.1 := zne u2r hz0 (by simp)
        refine z_aload_n d_MQ_postDue_41 rfl ?_
        refine z_aload_n d_MQ_postDue_42 rfl ?_
        refine z_get d_MQ_postDue_43 zf_MQ_36 (hx) rfl ?_
        refine z_iconst (v := 0) d_MQ_postDue_46 (by decide) ?_
        refine z_callV gt_good d_MQ_postDue_47 zv_MQ_172 (u2) rfl (fun l => c_AL_remove l g M lw arr 0 (e0 :: es1) cp d1 (by omega) (fun e he => by obtain ⟨j, hj⟩ := List.getElem?_of_mem he; obtain ⟨y, -, hy, -⟩ := d4 j e hj; exact zObj.de hy) (by simp)) rfl rfl ⟨Nat.le_of_ble_eq_true rfl, Nat.le_of_ble_eq_true rfl⟩ (Nat.le_of_ble_eq_true rfl) (by dsimp only [ZRm]; (repeat' split) <;> omega) (by dsimp only [ZRm]; (repeat' split) <;> omega) ?_
        rintro _ M1 ⟨rfl, a1, a2⟩
        have a1 : ALr M1 g.2.2.2.1 lw arr es1 cp := a1
        have f1 : ∀ y, M y ≠ none → own y ≠ 33 → M1 y = M y := fun y y1 y2 => a2 y (fun w => y2 (by rw [w]; exact d5)) (fun w => y2 (by rw [w]; exact d6 harz))
        have f2 : ∀ y, M y = none → M1 y = none := fun y y1 => by rw [a2 y (fun w => by rw [w, u2] at y1; cases y1) (fun w => by rw [w, u2r] at y1; cases y1)]; exact y1
        have hx1 : M1 x = some (.inr (0, fM qarr lt lw S)) := by rw [f1 x (by rw [hx]; simp) (by omega)]; exact hx
        have k21 : M1 e0 = some (.inr (5, [.int d.1, .int d.2.1, .long d.2.2])) := by rw [a2 e0 (zne k2 u2 (by simp)) (zne k2 u2r (by intro h; cases h))]; exact k2
        have hz1 : M1 g.2.2.2.1 = M g.2.2.2.1 := f1 _ (by rw [hz0]; simp) (by omega)
        refine z_cast (ci := 5) d_MQ_postDue_50 gw_426 k21 rfl rfl ?_
        refine z_get d_MQ_postDue_53 zf_MQ_225 (k21) rfl ?_
        refine z_callV gt_good d_MQ_postDue_56 zv_MQ_196 (hx1) rfl (fun l => c_MQ_begin l g M1 own x qarr lt lw S cap d.2.1 hx1 hX (hT.fr (fun y y1 y2 => ⟨f1 y y1 (by omega), y2⟩) hz1) (by omega)) rfl rfl ⟨Nat.le_of_ble_eq_true rfl, Nat.le_of_ble_eq_true rfl⟩ (Nat.le_of_ble_eq_true rfl) (by dsimp only [ZRm]; (repeat' split) <;> omega) (by dsimp only [ZRm]; (repeat' split) <;> omega) ?_
        rintro _ M2 ⟨rfl, b1, b2, b3⟩
        refine z_pop d_MQ_postDue_59 rfl ?_
        refine z_iinc (v := nI (p + 1)) d_MQ_postDue_60 rfl (nI_1 p) (by decide) rfl ?_
        refine z_goto (tgt := 2) d_MQ_postDue_63 (by decide) ?_
        have hz2 : M2 g.2.2.2.1 = M g.2.2.2.1 := by rw [b3 _ (by rw [hz1, hz0]; simp) (fun w => by rw [w, hX] at hzo; omega) (by omega), hz1]
        have hmr : MRep M2 g.2.2.2.1 (ow M1 own 32) x qarr lt lw qs (pdS S d ds) (capA S.2.2.1.length cap) := by
          refine hm.updTD (fun y hy => ?_) (by rw [hz0]; simp) b1 rfl b2 ?_ (fun y y1 y2 y3 y4 => ?_)
          · unfold ow
            cases hh : M1 y with
            | some w => rfl
            | none =>
              exfalso
              by_cases w : y = lw
              · obtain ⟨⟨mc1, w1⟩, -⟩ := id a1
                rw [w, w1] at hh; cases hh
              · by_cases w2 : y = arr
                · rw [w2, a1.2.1] at hh; cases hh
                · rw [a2 y w w2] at hh; exact hy hh
          · refine ⟨arr, es1, cp, a1.kept ?_ ?_, d2, ?_, fun j e hj => ?_, ?_, fun w => ?_⟩
            · exact b3 lw a1.la (zne hx u2 (by simp)).symm (by omega)
            · exact b3 arr (by rw [a1.2.1]; simp) (zne u2r hx (by intro h; cases h)) (by rw [d6 harz]; decide)
            · show es1.length = ds.length
              rw [hds] at d3; simpa using d3
            · obtain ⟨y, y1, y2, y3⟩ := d4 (j + 1) e hj
              have ye : M1 e = M e := a2 e (zne y2 u2 (by simp)) (zne y2 u2r (by intro h; cases h))
              refine ⟨y, by rw [hds] at y1; exact y1, by rw [b3 e (by rw [ye, y2]; simp) (zne y2 hx (by simp)) (by omega), ye]; exact y2, by rw [ow_old (by rw [ye, y2]; simp)]; exact y3⟩
            · rw [ow_old a1.la]; exact d5
            · rw [ow_old (by rw [a1.2.1]; simp)]; exact d6 w
          · rw [b3 y (by rw [f1 y y1 y4]; exact y1) y2 y3, f1 y y1 y4]
        refine z_widen (k1 := 2 * (p + 1)) (k2 := 2 * (p + 1) + 4 * capA S.2.2.1.length cap) (by dsimp only [ZRm]; split <;> omega) (by dsimp only [ZRm]; omega) ?_
        exact ih (p + 1) M2 _ (pdS S d ds) _ (by omega) (by rw [hpd, hpy]; show (p + (_ + 1), _) = (p + 1 + _, _); rw [show p + ((pdN (pdS S d ds) f).1 + 1) = p + 1 + (pdN (pdS S d ds) f).1 by omega]) hmr hok (by rw [hz2]; exact hz0)
set_option maxHeartbeats 4000000 in
set_option maxRecDepth 100000 in
theorem c_MQ_postDue (l : Launch) (g : ZG) (M : ZM) (own : Nat → Nat) (x qarr lt lw : Nat) (qs : List Nat) (S : MS) (cap : Nat) (hm : MRep M g.2.2.2.1 own x qarr lt lw qs S cap) (hc : cap ≤ 1000) (hb : (pdN S 200).2.2.2.1.length ≤ 600) : ZC vcl tlx GT l g y_MQ_postDue b_MQ_postDue 2 (Option.some FieldType.int) (ZRm 9 402 4402) [.ref x] M (fun r M' => r = some (.int (nI (pdN S 200).1)) ∧ ∃ (own' : Nat → Nat) (cap' : Nat), MRep M' g.2.2.2.1 own' x qarr lt lw qs (pdN S 200).2 cap' ∧ cap' ≤ 1000) := by
  refine ZC.of (by decide) (Nat.le_of_ble_eq_true rfl) rfl (fun k hz0 => ?_)
  refine z_iconst (v := 0) d_MQ_postDue_0 (by decide) ?_
  refine z_istore_n (i := 1) d_MQ_postDue_1 rfl (by decide) rfl ?_
  refine z_widen (k1 := 2 * 0) (k2 := 2 * 0 + 4 * cap) (by omega) (by omega) ?_
  exact lp_MQ_postDue g k _ x qarr lt lw qs S hb (fun M1 o1 c1 h1 h2 => ⟨rfl, o1, c1, h1, h2⟩) 200 0 M own S cap rfl (by simp) hm hc hz0
