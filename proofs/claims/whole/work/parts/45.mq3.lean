set_option maxHeartbeats 4000000 in
set_option maxRecDepth 100000 in
theorem lp_MQ_lookAtTriggers (g : ZG) (k : ZK) (R : Room) (post : Option Value → ZM → Prop) (x qarr lt lw : Nat) (qs : List Nat) (S : MS) (hf : 10 ≤ R.frames) (hlo : 300 ≤ R.locals) (h1 : 64 ≤ R.cells) (h2 : 4064 ≤ R.slots) (hb : (lookN S 32).2.2.1.length ≤ 600) (hp : ∀ (M : ZM) (own : Nat → Nat) (cap : Nat), MRep M g.2.2.2.1 own x qarr lt lw qs (lookN S 32) cap → cap ≤ 1000 → post none M) : ∀ (d i : Nat) (M : ZM) (own : Nat → Nat) (cap : Nat) (lo : Option Value), i + d = 32 → MRep M g.2.2.2.1 own x qarr lt lw qs (lookN S i) cap → cap ≤ 1000 → M g.2.2.2.1 = some (.inl (0, [])) → ZW vcl tlx GT "MonitorQueues" b_MQ_lookAtTriggers 3 none "lookAtTriggers" R g k post [some (.ref x), some (.int (nI i)), lo] 2 [] (M) (2 * i) (2 * i + 4 * cap) := by
  intro d
  induction d with
  | zero =>
    intro i M own cap lo hi hm hc hz0
    obtain rfl : i = 32 := by omega
    obtain ⟨⟨hx, hq, hl, -, -⟩, -, -, -, -⟩ := id hm
    refine z_iload_n d_MQ_lookAtTriggers_2 rfl ?_
    refine z_aload_n d_MQ_lookAtTriggers_3 rfl ?_
    refine z_get d_MQ_lookAtTriggers_4 zf_MQ_24 (hx) rfl ?_
    refine z_alen d_MQ_lookAtTriggers_7 (hq) rfl ?_
    rw [show nI (List.map Value.ref qs).length = nI 32 by rw [List.length_map, hl]]
    refine z_icmp_ge (tgt := 45) d_MQ_lookAtTriggers_8 (by decide) (fun h8 => ?_) (fun h8 => (h8 (nI_le (Nat.le_refl _) (by decide))).elim)
    refine z_return d_MQ_lookAtTriggers_45 rfl ?_ (by omega) (by omega)
    exact hp M own cap hm hc
  | succ d ih =>
    intro i M own cap lo hi hm hc hz0
    obtain ⟨⟨hx, hq, hl, hX, hXq⟩, hQ, hT, hD, hzo⟩ := id hm
    obtain ⟨qa, hqa⟩ : ∃ qa, qs[i]? = some qa := ⟨qs[i], List.getElem?_eq_getElem (by omega)⟩
    have hlb := lookN_len S (show i + 1 ≤ 32 by omega)
    have hla := lookN_len S (show i ≤ 32 by omega)
    have hv : (qs.map Value.ref)[i]? = some (.ref qa) := by rw [List.getElem?_map, hqa]; rfl
    obtain ⟨la, pa, arr, es, cp, tr, hqx⟩ := hQ i qa hqa
    obtain ⟨q1, ⟨⟨mc, q2⟩, -⟩, -, ⟨q3, -⟩, -, -, q4, q5, -⟩ := id hqx
    cases htr : ((lookN S i).2.1 i).2.2.2.2.2.2.2.2.1 with
    | none =>
      rw [htr] at q5
      have q5 : tr = .null := q5
      subst q5
      have hsame : lookN S (i + 1) = lookN S i := by show lookI (lookN S i) i = _; unfold lookI; rw [htr]
      refine z_iload_n d_MQ_lookAtTriggers_2 rfl ?_
      refine z_aload_n d_MQ_lookAtTriggers_3 rfl ?_
      refine z_get d_MQ_lookAtTriggers_4 zf_MQ_24 (hx) rfl ?_
      refine z_alen d_MQ_lookAtTriggers_7 (hq) rfl ?_
      rw [show nI (List.map Value.ref qs).length = nI 32 by rw [List.length_map, hl]]
      refine z_icmp_ge (tgt := 45) d_MQ_lookAtTriggers_8 (by decide) (fun h8 => (nI_ge (show i < 32 by omega) (by decide) h8).elim) (fun h8 => ?_)
      refine z_aload_n d_MQ_lookAtTriggers_11 rfl ?_
      refine z_get d_MQ_lookAtTriggers_12 zf_MQ_24 (hx) rfl ?_
      refine z_iload_n d_MQ_lookAtTriggers_15 rfl ?_
      refine z_aald d_MQ_lookAtTriggers_16 hq rfl rfl (by omega) hv ?_
      refine z_get d_MQ_lookAtTriggers_17 zf_MQ_128 (q1) rfl ?_
      refine z_astore_nN (i := 2) d_MQ_lookAtTriggers_20 rfl (by decide) rfl ?_
      refine z_aload_nN d_MQ_lookAtTriggers_21 rfl ?_
      refine z_ifnullN (tgt := 39) d_MQ_lookAtTriggers_22 (by decide) ?_
      refine z_iinc (v := nI (i + 1)) d_MQ_lookAtTriggers_39 rfl (nI_1 i) (by decide) rfl ?_
      refine z_goto (tgt := 2) d_MQ_lookAtTriggers_42 (by decide) ?_
      refine z_widen (k1 := 2 * (i + 1)) (k2 := 2 * (i + 1) + 4 * cap) (by omega) (by omega) ?_
      exact ih (i + 1) M own cap _ (by omega) (by rw [hsame]; exact hm) hc hz0
    | some t =>
      rw [htr] at q5
      obtain ⟨ta, hte, hto, hta⟩ := q5
      subst hte
      have hxta : ta ≠ x := zne hta hx (by simp)
      have hcap := hT.len
      have hpay := capA_pay2 hcap
      have hok := capA_ok (n := (lookN S i).2.2.1.length) (cap := cap) (by omega) hc hcap
      refine z_iload_n d_MQ_lookAtTriggers_2 rfl ?_
      refine z_aload_n d_MQ_lookAtTriggers_3 rfl ?_
      refine z_get d_MQ_lookAtTriggers_4 zf_MQ_24 (hx) rfl ?_
      refine z_alen d_MQ_lookAtTriggers_7 (hq) rfl ?_
      rw [show nI (List.map Value.ref qs).length = nI 32 by rw [List.length_map, hl]]
      refine z_icmp_ge (tgt := 45) d_MQ_lookAtTriggers_8 (by decide) (fun h8 => (nI_ge (show i < 32 by omega) (by decide) h8).elim) (fun h8 => ?_)
      refine z_aload_n d_MQ_lookAtTriggers_11 rfl ?_
      refine z_get d_MQ_lookAtTriggers_12 zf_MQ_24 (hx) rfl ?_
      refine z_iload_n d_MQ_lookAtTriggers_15 rfl ?_
      refine z_aald d_MQ_lookAtTriggers_16 hq rfl rfl (by omega) hv ?_
      refine z_get d_MQ_lookAtTriggers_17 zf_MQ_128 (q1) rfl ?_
      refine z_astore_n (i := 2) d_MQ_lookAtTriggers_20 rfl (by decide) rfl ?_
      refine z_aload_n d_MQ_lookAtTriggers_21 rfl ?_
      refine z_ifnull d_MQ_lookAtTriggers_22 ?_
      refine z_aload_n d_MQ_lookAtTriggers_25 rfl ?_
      refine z_aload_n d_MQ_lookAtTriggers_26 rfl ?_
      refine z_aload_n d_MQ_lookAtTriggers_27 rfl ?_
      refine z_get d_MQ_lookAtTriggers_28 zf_MQ_24 (hx) rfl ?_
      refine z_iload_n d_MQ_lookAtTriggers_31 rfl ?_
      refine z_aald d_MQ_lookAtTriggers_32 hq rfl rfl (by omega) hv ?_
      refine z_callV gt_good d_MQ_lookAtTriggers_33 zv_MQ_117 (q1) rfl (fun l => c_Qu_standing l g M qa la pa _ _ _ _ _ _ _ _ arr (nI es.length) mc q1 q2) rfl rfl ⟨by show 1 + 1 ≤ _; omega, by show 8 + (1 + 11) + 30 ≤ _; omega⟩ (Nat.le_of_ble_eq_true rfl) (by simp; omega) (by simp; omega) ?_
      rintro _ _ ⟨rfl, rfl⟩
      rw [q3, pk_sub q4]
      refine z_callV gt_good d_MQ_lookAtTriggers_36 zv_MQ_205 (hx) rfl (fun l => c_MQ_look l g M own x qarr lt lw (lookN S i) cap ta t (nI (((lookN S i).2.1 i).2.1.length - ((lookN S i).2.1 i).2.2.1)) hx hX hT (by omega) hta (by omega)) rfl rfl ⟨by show 9 + 1 ≤ _; omega, by show 8 + (3 + 11) + 270 ≤ _; omega⟩ (Nat.le_of_ble_eq_true rfl) (by simp; split <;> (try split) <;> omega) (by simp; split <;> omega) ?_
      rintro _ M1 ⟨rfl, e1, e2, e3, e4⟩
      have hz1 : M1 g.2.2.2.1 = M g.2.2.2.1 := e4 _ (by rw [hz0]; simp) (fun e => by rw [e, hX] at hzo; omega) (fun e => by rw [e, hto] at hzo; omega) (by omega)
      refine z_iinc (v := nI (i + 1)) d_MQ_lookAtTriggers_39 rfl (nI_1 i) (by decide) rfl ?_
      refine z_goto (tgt := 2) d_MQ_lookAtTriggers_42 (by decide) ?_
      have hmr : MRep M1 g.2.2.2.1 (ow M own 32) x qarr lt lw qs (lookN S (i + 1)) (if (lookT t (nI (((lookN S i).2.1 i).2.1.length - ((lookN S i).2.1 i).2.2.1)) (lookN S i).2.2.1.length).2 = none then cap else capA (lookN S i).2.2.1.length cap) := by
        have hfr : ∀ y, M y ≠ none → y ≠ x → own y ≠ i → own y ≠ 32 → M1 y = M y := fun y y1 y2 y3 y4 => e4 y y1 y2 (fun e => y3 (by rw [e]; exact hto)) y4
        have hlk : lookN S (i + 1) = addT (lookN S i) (va_up (lookN S i).2.1 i (setTr ((lookN S i).2.1 i) (some (lookT t (nI (((lookN S i).2.1 i).2.1.length - ((lookN S i).2.1 i).2.2.1)) (lookN S i).2.2.1.length).1))) (lookT t (nI (((lookN S i).2.1 i).2.1.length - ((lookN S i).2.1 i).2.2.1)) (lookN S i).2.2.1.length).2 := by show lookI (lookN S i) i = _; unfold lookI; rw [htr]
        rw [hlk]
        refine hm.upd hqa (fun y hy => ow_old hy) (by rw [hz0]; simp) e2 rfl ⟨la, pa, arr, es, cp, .ref ta, hqx.trig hta (fun y y1 y2 y3 => ⟨e4 y y1 (fun e => by rw [e, hX] at y2; omega) y3 (by omega), by rw [ow_old y1]; exact y2⟩) (e4 _ (by rw [hz0]; simp) (fun e => by rw [e, hX] at hzo; omega) (fun e => by rw [e, hto] at hzo; omega) (by omega)) (by rw [ow_old (by rw [hta]; simp)]; exact hto) e1⟩ e3 rfl hfr
      by_cases hn : (lookT t (nI (((lookN S i).2.1 i).2.1.length - ((lookN S i).2.1 i).2.2.1)) (lookN S i).2.2.1.length).2 = none
      · rw [if_pos hn] at hmr
        refine z_widen (k1 := 2 * (i + 1)) (k2 := 2 * (i + 1) + 4 * cap) (by simp [hn]; omega) (by simp [hn]; omega) ?_
        exact ih (i + 1) M1 _ cap _ (by omega) hmr hc (by rw [hz1]; exact hz0)
      · rw [if_neg hn] at hmr
        refine z_widen (k1 := 2 * (i + 1)) (k2 := 2 * (i + 1) + 4 * capA (lookN S i).2.2.1.length cap) (by simp [hn]; split <;> omega) (by simp [hn]; omega) ?_
        exact ih (i + 1) M1 _ _ _ (by omega) hmr hok (by rw [hz1]; exact hz0)
set_option maxHeartbeats 4000000 in
set_option maxRecDepth 100000 in
theorem c_MQ_lookAtTriggers (l : Launch) (g : ZG) (M : ZM) (own : Nat → Nat) (x qarr lt lw : Nat) (qs : List Nat) (S : MS) (cap : Nat) (hm : MRep M g.2.2.2.1 own x qarr lt lw qs S cap) (hc : cap ≤ 1000) (hb : (lookN S 32).2.2.1.length ≤ 600) : ZC vcl tlx GT l g y_MQ_lookAtTriggers b_MQ_lookAtTriggers 3 none (ZRm 10 64 4064) [.ref x] M (fun r M' => r = none ∧ ∃ (own' : Nat → Nat) (cap' : Nat), MRep M' g.2.2.2.1 own' x qarr lt lw qs (lookN S 32) cap' ∧ cap' ≤ 1000) := by
  refine ZC.of (by decide) (Nat.le_of_ble_eq_true rfl) rfl (fun k hz0 => ?_)
  refine z_iconst (v := 0) d_MQ_lookAtTriggers_0 (by decide) ?_
  refine z_istore_n (i := 1) d_MQ_lookAtTriggers_1 rfl (by decide) rfl ?_
  refine z_widen (k1 := 2 * 0) (k2 := 2 * 0 + 4 * cap) (by omega) (by omega) ?_
  exact lp_MQ_lookAtTriggers g k _ _ x qarr lt lw qs S (by simp) (by simp) (by simp) (by simp) hb (fun M1 o1 c1 h1 h2 => ⟨rfl, o1, c1, h1, h2⟩) 32 0 M own cap _ rfl hm hc hz0
