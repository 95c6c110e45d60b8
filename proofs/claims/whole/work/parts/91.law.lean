theorem and15 (x : Int32) : ∃ j : Nat, j < 16 ∧ x &&& 15 = nI j := by
  refine ⟨(x.toBitVec &&& 15#32).toNat, ?_, ?_⟩
  · rw [BitVec.toNat_and]
    have := Nat.and_le_right (n := x.toBitVec.toNat) (m := (15#32).toNat)
    have e : (15#32).toNat = 15 := rfl
    omega
  · apply Int32.toBitVec_inj.mp
    unfold nI
    rw [Int32.toBitVec_and, Int32.toBitVec_ofNat', BitVec.ofNat_toNat]
    simp
theorem loopC {L i : Nat} (hL : L ≤ 3073) (hi : i ≤ 4000) (h : ¬ nI L - 6 < nI i) : i + 6 ≤ L := by
  have e : (6 : Int32) = nI 6 := rfl
  by_cases h6 : 6 ≤ L
  · rw [e, nI_sub h6, nI_ltI (by omega) (by omega)] at h
    omega
  · exfalso
    have h0 : nI L - 6 < 0 := by
      have : L = 0 ∨ L = 1 ∨ L = 2 ∨ L = 3 ∨ L = 4 ∨ L = 5 := by omega
      rcases this with rfl | rfl | rfl | rfl | rfl | rfl <;> decide
    have h1 := nI_pos (n := i) (by omega)
    rw [Int32.lt_iff_toInt_lt] at h0 h1 h
    omega
theorem ZC.hz {cl : List vw_C} {tl : List FieldType} {Ts : List Cond} {l : Launch} {g : ZG} {y : MethodName} {cc : ByteArray} {nL : Nat} {ret : Option FieldType} {R : Room} {av : List Value} {M : ZM} {post : Option Value → ZM → Prop} (h : ZC cl tl Ts l g y cc nL ret R av M post) : ZC cl tl Ts l g y cc nL ret R av M (fun v M' => post v M' ∧ M' g.2.2.2.1 = some (.inl (0, []))) := by
  intro p e h1 h2 h3 s m args below h4 h5 hP hK
  obtain ⟨n, o, q1, q2, q3, ⟨⟨v, N', ho, hpp, hP'⟩, hF⟩, hr⟩ := h p e h1 h2 h3 s m args below h4 h5 hP hK
  exact ⟨n, o, q1, q2, q3, ⟨⟨v, N', ho, ⟨hpp, hP'.2.2⟩, hP'⟩, hF⟩, hr⟩
set_option maxHeartbeats 4000000 in
set_option maxRecDepth 100000 in
theorem lw_loop {g : ZG} {k : ZK} {Qz : State → Prop} {x m out : Nat} (hlt : k.2.1.stackTraces = false) (hb : sLn g ≤ 3073) (hend : ∀ (M : ZM) (L : List (Option Value)) (n1 n2 : Nat), n1 ≤ 601024 → n2 ≤ 7293000 → LU g k Qz L 814 [] M n1 n2) : ∀ (d c : Nat), c + d = 512 → ∀ (S : MS) (N : NS) (w : Int64) (M : ZM) (l5 l6 l7 : Option Value), SI c S N → LW g.2.2.2.1 x m out S N w M → LU g k Qz (lwL g x m out (1 + 6 * c) l5 l6 l7) 33 [] M (300 + 430 * c) (30000 + 6010 * c) := by
  intro d
  induction d with
  | zero =>
    intro c hcd S N w M l5 l6 l7 hI hL
    refine z_iload d_La_law_33 rfl ?_
    refine z_aload_n d_La_law_35 rfl ?_
    refine z_xlen d_La_law_36 ?_
    refine z_bipush (v := 6) d_La_law_37 (by decide) ?_
    refine z_isub d_La_law_39 ?_
    exact z_icmp_gt (tgt := 814) d_La_law_40 (by decide) (fun _ => hend _ _ _ _ (by omega) (by omega)) (fun h => absurd (loopC hb (by omega) h) (by omega))
  | succ d ih =>
    intro c hcd S N w M l5 l6 l7 hI hL
    have nx : LNx g k Qz x m out c := by
      intro S N w M l5 l6 l7 hI hL
      refine z_iinc (v := nI (1 + 6 * (c + 1))) d_La_law_808 rfl (by show nI (1 + 6 * c) + nI 6 = _; rw [nI_add]; congr 1) (by decide) rfl ?_
      refine z_goto (tgt := 33) d_La_law_811 (by decide) ?_
      exact ih (c + 1) (by omega) S N w M l5 l6 l7 hI hL
    refine z_iload d_La_law_33 rfl ?_
    refine z_aload_n d_La_law_35 rfl ?_
    refine z_xlen d_La_law_36 ?_
    refine z_bipush (v := 6) d_La_law_37 (by decide) ?_
    refine z_isub d_La_law_39 ?_
    refine z_icmp_gt (tgt := 814) d_La_law_40 (by decide) (fun _ => hend _ _ _ _ (by omega) (by omega)) (fun h => ?_)
    have hi := loopC hb (by omega) h
    refine z_aload_n d_La_law_43 rfl ?_
    refine z_iload d_La_law_44 rfl ?_
    refine z_xld d_La_law_46 (by omega) (by omega) ?_
    refine z_bipush (v := 15) d_La_law_47 (by decide) ?_
    refine z_iand d_La_law_49 ?_
    obtain ⟨j, hj, e⟩ := and15 (sX g (1 + 6 * c))
    rw [e]
    have hc : c ≤ 511 := by omega
    have : j = 0 ∨ j = 1 ∨ j = 2 ∨ j = 3 ∨ j = 4 ∨ j = 5 ∨ j = 6 ∨ j = 7 ∨ j = 8 ∨ j = 9 ∨ j = 10 ∨ j = 11 ∨ j = 12 ∨ j = 13 ∨ j = 14 ∨ j = 15 := by omega
    rcases this with rfl | rfl | rfl | rfl | rfl | rfl | rfl | rfl | rfl | rfl | rfl | rfl | rfl | rfl | rfl | rfl
    · exact z_tableIn (off := 70) (tgt := 120) d_La_law_50 (by decide) (by decide) rfl (by decide) (br_put hI hc hL hi hb nx)
    · exact z_tableIn (off := 163) (tgt := 213) d_La_law_50 (by decide) (by decide) rfl (by decide) (br_get hI hc hL hi hb nx hlt)
    · exact z_tableIn (off := 230) (tgt := 280) d_La_law_50 (by decide) (by decide) rfl (by decide) (br_next hI hc hL hi hb nx)
    · exact z_tableIn (off := 267) (tgt := 317) d_La_law_50 (by decide) (by decide) rfl (by decide) (br_take hI hc hL hi hb nx)
    · exact z_tableIn (off := 292) (tgt := 342) d_La_law_50 (by decide) (by decide) rfl (by decide) (br_trigger hI hc hL hi hb nx)
    · exact z_tableIn (off := 341) (tgt := 391) d_La_law_50 (by decide) (by decide) rfl (by decide) (br_started hI hc hL hi hb nx)
    · exact z_tableIn (off := 366) (tgt := 416) d_La_law_50 (by decide) (by decide) rfl (by decide) (br_end hI hc hL hi hb nx)
    · exact z_tableIn (off := 391) (tgt := 441) d_La_law_50 (by decide) (by decide) rfl (by decide) (br_rewrite hI hc hL hi hb nx)
    · exact z_tableIn (off := 472) (tgt := 522) d_La_law_50 (by decide) (by decide) rfl (by decide) (br_delay hI hc hL hi hb nx)
    · exact z_tableIn (off := 541) (tgt := 591) d_La_law_50 (by decide) (by decide) rfl (by decide) (br_cancel hI hc hL hi hb nx)
    · exact z_tableIn (off := 566) (tgt := 616) d_La_law_50 (by decide) (by decide) rfl (by decide) (br_tick hI hc hL hi hb nx)
    · exact z_tableIn (off := 623) (tgt := 673) d_La_law_50 (by decide) (by decide) rfl (by decide) (br_unit hI hc hL hi hb nx)
    · exact z_tableIn (off := 676) (tgt := 726) d_La_law_50 (by decide) (by decide) rfl (by decide) (br_age hI hc hL hi hb nx)
    · exact z_tableIn (off := 733) (tgt := 783) d_La_law_50 (by decide) (by decide) rfl (by decide) (br_count hI hc hL hi hb nx)
    · refine z_tableOut (tgt := 808) d_La_law_50 (by decide) (by decide) ?_
      refine z_widen (show 300 + 430 * c ≤ 300 + 430 * (c + 1) by omega) (show 30000 + 6010 * c ≤ 30000 + 6010 * (c + 1) by omega) ?_
      exact nx S N w M _ _ _ (hI.mono (Nat.le_succ c)) hL
    · refine z_tableOut (tgt := 808) d_La_law_50 (by decide) (by decide) ?_
      refine z_widen (show 300 + 430 * c ≤ 300 + 430 * (c + 1) by omega) (show 30000 + 6010 * c ≤ 30000 + 6010 * (c + 1) by omega) ?_
      exact nx S N w M _ _ _ (hI.mono (Nat.le_succ c)) hL
theorem zmp0 {z m : Nat} {fs : List Value} {Mx : ZM} (h1 : Mx m = none) (hz : Mx z = some (.inl (0, []))) : zset Mx m (.inr (7, fs)) = zjn (zmp z m fs []) Mx ∧ zdj z (zmp z m fs []) Mx ∧ m ≠ z ∧ zmp z m fs [] z = some (.inl (0, [])) := by
  have hmz : m ≠ z := fun w => by rw [w, hz] at h1; cases h1
  have hzz : zmp z m fs [] z = some (.inl (0, [])) := by
    unfold zmp
    rw [if_neg (Ne.symm hmz), if_pos rfl]
  refine ⟨?_, ?_, hmz, hzz⟩
  · funext q
    by_cases hq : q = m
    · rw [hq, zset_self]
      exact (zjn_l (if_pos rfl)).symm
    · rw [zset_ne hq]
      by_cases hqz : q = z
      · rw [hqz, hz]; exact (zjn_l hzz).symm
      · have : zmp z m fs [] q = none := by
          unfold zmp
          rw [if_neg hq, if_neg hqz]
          rfl
        rw [zjn_r this]
  · intro q a b
    by_cases hq : q = m
    · rw [hq] at b; exact absurd h1 b
    · by_cases hqz : q = z
      · exact hqz
      · exfalso
        apply a
        unfold zmp
        rw [if_neg hq, if_neg hqz]
        rfl
theorem LW.mk {z x m out qarr lt lw : Nat} {ad own : Nat → Nat} {qs : List Nat} {S : MS} {N : NS} {Mx : ZM} (hm : MRep Mx z own x qarr lt lw qs S 0) (hz : Mx z = some (.inl (0, []))) (hA : zAd z m ad) (hd : zdj z (zmo z m ad N) Mx) (ho : zjn (zmo z m ad N) Mx out = none) : LW z x m out S N 0 (zset (zjn (zmo z m ad N) Mx) out (.inl (2, [.long 0]))) := by
  have n1 : zmo z m ad N out = none := by
    cases hx : zmo z m ad N out with
    | none => rfl
    | some e => rw [zjn_l hx] at ho; cases ho
  have n2 : Mx out = none := by rw [zjn_r n1] at ho; exact ho
  have hoz : out ≠ z := fun w => by rw [w, hz] at n2; cases n2
  have hou : ∀ q, zou z out 0 q ≠ none → q = out ∨ q = z := by
    intro q hq
    unfold zou at hq
    by_cases h1 : q = out
    · exact Or.inl h1
    · rw [if_neg h1] at hq
      by_cases h2 : q = z
      · exact Or.inr h2
      · rw [if_neg h2] at hq; exact absurd rfl hq
  refine ⟨Mx, ad, own, qarr, lt, lw, qs, 0, ?_, hm, Nat.zero_le _, hA, hz, hd.symm, fun q a b => ?_, fun q a b => ?_, hoz⟩
  · rw [zjn_comm hd ((zmo_z hA N).trans hz.symm), zjn_new _ n2]
    congr 1
    funext q
    by_cases hq : q = out
    · rw [hq, zset_self, zjn_r n1, zou_o]
    · rw [zset_ne hq]
      cases hx : zmo z m ad N q with
      | some e => rw [zjn_l hx]
      | none =>
        rw [zjn_r hx]
        have hqz : q ≠ z := fun w => by rw [w, zmo_z hA N] at hx; cases hx
        unfold zou
        rw [if_neg hq, if_neg hqz]
  · rcases hou q b with w | w
    · rw [w] at a; exact absurd n2 a
    · exact w
  · rcases hou q b with w | w
    · rw [w] at a; exact absurd n1 a
    · exact w
set_option maxHeartbeats 4000000 in
set_option maxRecDepth 100000 in
theorem lw_begin {g : ZG} {k : ZK} {Qz : State → Prop} {M : ZM} (hlt : k.2.1.stackTraces = false) (hb : sLn g ≤ 3073) (hend : ∀ (M : ZM) (L : List (Option Value)) (n1 n2 : Nat), n1 ≤ 601024 → n2 ≤ 7293000 → LU g k Qz L 814 [] M n1 n2) (hz0 : M g.2.2.2.1 = some (.inl (0, []))) : LU g k Qz [some (.ref (sB g)), none, none, none, none, none, none, none] 0 [] M 0 0 := by
  refine z_new (ci := 0) (fs := [.int 0, .null, .null, .null, .int 0, .int 0, .long 0]) d_La_law_0 ⟨_, T_MQ, 7, ty_MQ, rfl, in_MQ, zl_MQ, gw_56, gw_57, gw_36, rfl, by decide⟩ (Nat.le_of_ble_eq_true rfl) (Nat.le_of_ble_eq_true rfl) (fun x hx => ?_)
  refine z_dup d_La_law_3 rfl ?_
  refine z_aload_n d_La_law_4 rfl ?_
  refine z_iconst (v := nI 0) d_La_law_5 (by decide) ?_
  refine z_callS gt_good d_La_law_6 zs_La_15 (fun l => c_La_cell l g _ (by omega)) rfl rfl ⟨(Nat.le_of_ble_eq_true rfl), (Nat.le_of_ble_eq_true rfl)⟩ (Nat.le_of_ble_eq_true rfl) (Nat.le_of_ble_eq_true rfl) (Nat.le_of_ble_eq_true rfl) ?_
  obtain ⟨r, hr⟩ : ∃ r : Int32, r = (if 0 < sLn g then sX g 0 else 0) := ⟨_, rfl⟩
  rw [← hr]
  rintro _ _ ⟨rfl, rfl⟩
  refine z_callI gt_good d_La_law_9 zi_La_21 (fun l => (c_MQ_init l g _ x r (zset_self ..)).hz) rfl rfl ⟨(Nat.le_of_ble_eq_true rfl), (Nat.le_of_ble_eq_true rfl)⟩ (Nat.le_of_ble_eq_true rfl) (Nat.le_of_ble_eq_true rfl) (Nat.le_of_ble_eq_true rfl) ?_
  rintro _ Mx ⟨⟨rfl, own, qarr, lt, lw, qs, hm⟩, hz⟩
  refine z_astore_n (i := 1) d_La_law_12 rfl (by decide) rfl ?_
  refine z_new (ci := 7) (fs := [.int 0, .int 0, .null, .null, .null, .null, .int 0, .null, .null, .null, .null, .null, .null, .null, .null, .null, .null, .null, .null, .null, .int 0, .int 0, .long 0, .null, .null, .null, .int 0, .int 0]) d_La_law_13 ⟨_, T_Mo, 28, ty_Mo, rfl, in_Mo, zl_Mo, gw_570, gw_571, gw_42, rfl, by decide⟩ (Nat.le_of_ble_eq_true rfl) (Nat.le_of_ble_eq_true rfl) (fun m hmn => ?_)
  refine z_dup d_La_law_16 rfl ?_
  refine z_aload_n d_La_law_17 rfl ?_
  refine z_iconst (v := nI 0) d_La_law_18 (by decide) ?_
  refine z_callS gt_good d_La_law_19 zs_La_15 (fun l => c_La_cell l g _ (by omega)) rfl rfl ⟨(Nat.le_of_ble_eq_true rfl), (Nat.le_of_ble_eq_true rfl)⟩ (Nat.le_of_ble_eq_true rfl) (Nat.le_of_ble_eq_true rfl) (Nat.le_of_ble_eq_true rfl) ?_
  rw [← hr]
  rintro _ _ ⟨rfl, rfl⟩
  obtain ⟨ez, hdz, hmz, hzz⟩ := zmp0 (fs := [.int 0, .int 0, .null, .null, .null, .null, .int 0, .null, .null, .null, .null, .null, .null, .null, .null, .null, .null, .null, .null, .null, .int 0, .int 0, .long 0, .null, .null, .null, .int 0, .int 0]) hmn hz
  rw [ez]
  refine z_callI gt_good d_La_law_22 zi_La_26 (fun l => ZC.frame hdz hzz (c_Mo_init l (zsG g _ Mx) m r hmz)) rfl rfl ⟨(Nat.le_of_ble_eq_true rfl), (Nat.le_of_ble_eq_true rfl)⟩ (Nat.le_of_ble_eq_true rfl) (Nat.le_of_ble_eq_true rfl) (Nat.le_of_ble_eq_true rfl) ?_
  rintro _ _ ⟨N1, ⟨rfl, ad, hA, rfl⟩, rfl, hd2, hz2⟩
  refine z_astore_n (i := 2) d_La_law_25 rfl (by decide) rfl ?_
  refine z_iconst (v := 1) d_La_law_26 (by decide) ?_
  refine z_newarr (t := 2) (N := 1) (ty := .long) d_La_law_27 rfl gw_661 rfl (fun _ _ h => h) (by decide) (by decide) (Nat.le_of_ble_eq_true rfl) (Nat.le_of_ble_eq_true rfl) (by decide) (fun out ho => ?_)
  refine z_astore_n (i := 3) d_La_law_29 rfl (by decide) rfl ?_
  refine z_iconst (v := nI 1) d_La_law_30 (by decide) ?_
  refine z_istore d_La_law_31 (by decide) rfl ?_
  refine z_widen (k1 := 300 + 430 * 0) (k2 := 30000 + 6010 * 0) (Nat.le_of_ble_eq_true rfl) (Nat.le_of_ble_eq_true rfl) ?_
  exact lw_loop (x := x) (m := m) (out := out) hlt hb hend 512 0 rfl (iniS r) (inN r) 0 _ none none none (init_sim r) (LW.mk hm hz hA hd2 ho)
