/-! THE LAW'S WORLD: the class's object, the reference's, the array of one long. -/
def zou (z out : Nat) (v : Int64) : ZM := fun q => if q = out then some (.inl (2, [.long v])) else if q = z then some (.inl (0, [])) else none
def LW (z x m out : Nat) (S : MS) (N : NS) (v : Int64) (M : ZM) : Prop := ∃ (Mx : ZM) (ad own : Nat → Nat) (qarr lt lw : Nat) (qs : List Nat) (cap : Nat), M = zjn Mx (zjn (zmo z m ad N) (zou z out v)) ∧ MRep Mx z own x qarr lt lw qs S cap ∧ cap ≤ 1000 ∧ zAd z m ad ∧ Mx z = some (.inl (0, [])) ∧ zdj z Mx (zmo z m ad N) ∧ zdj z Mx (zou z out v) ∧ zdj z (zmo z m ad N) (zou z out v) ∧ out ≠ z
theorem zkeep {M : ZM} {z x qarr lt lw cap : Nat} {own : Nat → Nat} {qs : List Nat} {S : MS} {a : Option Value} (hm : MRep M z own x qarr lt lw qs S cap) (hc : cap ≤ 1000) : ∀ (v : Option Value) (M' : ZM), (M = M' ∧ v = a) → v = a ∧ ∃ (own' : Nat → Nat) (cap' : Nat), MRep M' z own' x qarr lt lw qs S cap' ∧ cap' ≤ 1000 := by
  rintro v M' ⟨rfl, h⟩
  exact ⟨h, own, cap, hm, hc⟩
theorem LW.cls {l : Launch} {g : ZG} {y : MethodName} {cc : ByteArray} {nL : Nat} {ret : Option FieldType} {R : Room} {av : List Value} {x m out : Nat} {S S' : MS} {N : NS} {v : Int64} {M : ZM} {a : Option Value} (h : LW g.2.2.2.1 x m out S N v M) (hct : ∀ (g' : ZG) (Mx : ZM) (own : Nat → Nat) (qarr lt lw : Nat) (qs : List Nat) (cap : Nat), MRep Mx g'.2.2.2.1 own x qarr lt lw qs S cap → cap ≤ 1000 → ZC vcl tlx GT l g' y cc nL ret R av Mx (fun r M' => r = a ∧ ∃ (own' : Nat → Nat) (cap' : Nat), MRep M' g'.2.2.2.1 own' x qarr lt lw qs S' cap' ∧ cap' ≤ 1000)) : ZC vcl tlx GT l g y cc nL ret R av M (fun r M' => r = a ∧ LW g.2.2.2.1 x m out S' N v M') := by
  obtain ⟨Mx, ad, own, qarr, lt, lw, qs, cap, rfl, hm, hc, hA, hz, d1, d2, d3, ho⟩ := h
  refine (ZC.frame (d1.join d2) hz (hct (zsG g Mx (zjn (zmo g.2.2.2.1 m ad N) (zou g.2.2.2.1 out v))) Mx own qarr lt lw qs cap hm hc)).mono ?_
  rintro r M' ⟨N', ⟨hr, own', cap', hm', hc'⟩, rfl, hd', hz'⟩
  exact ⟨hr, N', ad, own', qarr, lt, lw, qs, cap', rfl, hm', hc', hA, hz', hd'.left, hd'.right, d3, ho⟩
theorem LW.clsT {l : Launch} {g : ZG} {y : MethodName} {cc : ByteArray} {nL : Nat} {ret : Option FieldType} {R : Room} {av : List Value} {x m out : Nat} {S : MS} {N : NS} {v : Int64} {M : ZM} (h : LW g.2.2.2.1 x m out S N v M) (hct : ∀ (g' : ZG) (Mx : ZM) (own : Nat → Nat) (qarr lt lw : Nat) (qs : List Nat) (cap : Nat), MRep Mx g'.2.2.2.1 own x qarr lt lw qs S cap → cap ≤ 1000 → ZCT vcl tlx GT l g' y cc nL ret R av Mx (fun M' => Mx = M')) : ZCT vcl tlx GT l g y cc nL ret R av M (fun M' => LW g.2.2.2.1 x m out S N v M') := by
  obtain ⟨Mx, ad, own, qarr, lt, lw, qs, cap, rfl, hm, hc, hA, hz, d1, d2, d3, ho⟩ := h
  have hf := ZCT.frame (d1.join d2) hz (hct (zsG g Mx (zjn (zmo g.2.2.2.1 m ad N) (zou g.2.2.2.1 out v))) Mx own qarr lt lw qs cap hm hc)
  intro p e h1 h2 h3 s mm args below h4 h5 hP hK
  obtain ⟨n, o, q1, q2, q3, ⟨⟨w, N', cell, ho', ⟨N1, rfl, rfl, hd', hz'⟩, hP'⟩, hF⟩, hr⟩ := hf p e h1 h2 h3 s mm args below h4 h5 hP hK
  exact ⟨n, o, q1, q2, q3, ⟨⟨w, _, cell, ho', ⟨_, ad, own, qarr, lt, lw, qs, cap, rfl, hm, hc, hA, hz, d1, d2, d3, ho⟩, hP'⟩, hF⟩, hr⟩
theorem LW.ref {l : Launch} {g : ZG} {y : MethodName} {cc : ByteArray} {nL : Nat} {ret : Option FieldType} {R : Room} {av : List Value} {x m out : Nat} {S : MS} {N N' : NS} {v : Int64} {M : ZM} {a : Option Value} (h : LW g.2.2.2.1 x m out S N v M) (hct : ∀ (g' : ZG) (ad : Nat → Nat), zAd g'.2.2.2.1 m ad → ZC vcl tlx GT l g' y cc nL ret R av (zmo g'.2.2.2.1 m ad N) (fun r M' => r = a ∧ M' = zmo g'.2.2.2.1 m ad N')) : ZC vcl tlx GT l g y cc nL ret R av M (fun r M' => r = a ∧ LW g.2.2.2.1 x m out S N' v M') := by
  obtain ⟨Mx, ad, own, qarr, lt, lw, qs, cap, rfl, hm, hc, hA, hz, d1, d2, d3, ho⟩ := h
  have e : ∀ N0, zdj g.2.2.2.1 Mx (zmo g.2.2.2.1 m ad N0) → zjn Mx (zjn (zmo g.2.2.2.1 m ad N0) (zou g.2.2.2.1 out v)) = zjn (zmo g.2.2.2.1 m ad N0) (zjn Mx (zou g.2.2.2.1 out v)) := fun N0 hd => by
    rw [← zjn_assoc, zjn_comm hd (hz.trans (zmo_z hA N0).symm), zjn_assoc]
  rw [e N d1]
  refine (ZC.frame (d1.symm.join d3) (zmo_z hA N) (hct (zsG g (zmo g.2.2.2.1 m ad N) (zjn Mx (zou g.2.2.2.1 out v))) ad hA)).mono ?_
  rintro r M' ⟨N1, ⟨hr, rfl⟩, rfl, hd', hz'⟩
  exact ⟨hr, Mx, ad, own, qarr, lt, lw, qs, cap, (e N' hd'.left.symm).symm, hm, hc, hA, hz, hd'.left.symm, d2, hd'.right, ho⟩
theorem LW.x {z x m out : Nat} {S : MS} {N : NS} {v : Int64} {M : ZM} (h : LW z x m out S N v M) : ∃ fs, M x = some (.inr (0, fs)) := by
  obtain ⟨Mx, ad, own, qarr, lt, lw, qs, cap, rfl, hm, -⟩ := h
  exact ⟨_, zjn_l hm.1.1⟩
theorem LW.m {z x m out : Nat} {S : MS} {N : NS} {v : Int64} {M : ZM} (h : LW z x m out S N v M) : ∃ fs, M m = some (.inr (7, fs)) := by
  obtain ⟨Mx, ad, own, qarr, lt, lw, qs, cap, rfl, hm, hc, hA, hz, d1, d2, d3, ho⟩ := h
  have hn : Mx m = none := by
    cases hx : Mx m with
    | none => rfl
    | some e => exact absurd (d1 m (by rw [hx]; simp) (by rw [zmo_m]; simp)) hA.1
  exact ⟨_, by rw [zjn_r hn]; exact zjn_l (zmo_m _ _ _ _)⟩
theorem zou_o (z out : Nat) (v : Int64) : zou z out v out = some (.inl (2, [.long v])) := if_pos rfl
theorem LW.o {z x m out : Nat} {S : MS} {N : NS} {v : Int64} {M : ZM} (h : LW z x m out S N v M) : M out = some (.inl (2, [.long v])) := by
  obtain ⟨Mx, ad, own, qarr, lt, lw, qs, cap, rfl, hm, hc, hA, hz, d1, d2, d3, ho⟩ := h
  have hn : Mx out = none := by
    cases hx : Mx out with
    | none => rfl
    | some e => exact absurd (d2 out (by rw [hx]; simp) (by rw [zou_o]; simp)) ho
  have hn2 : zmo z m ad N out = none := by
    cases hx : zmo z m ad N out with
    | none => rfl
    | some e => exact absurd (d3 out (by rw [hx]; simp) (by rw [zou_o]; simp)) ho
  rw [zjn_r hn, zjn_r hn2]
  exact zou_o z out v
theorem LW.set {z x m out : Nat} {S : MS} {N : NS} {v : Int64} {M : ZM} (h : LW z x m out S N v M) (v' : Int64) : LW z x m out S N v' (zset M out (.inl (2, [.long v']))) := by
  obtain ⟨Mx, ad, own, qarr, lt, lw, qs, cap, rfl, hm, hc, hA, hz, d1, d2, d3, ho⟩ := h
  have hn : Mx out = none := by
    cases hx : Mx out with
    | none => rfl
    | some e => exact absurd (d2 out (by rw [hx]; simp) (by rw [zou_o]; simp)) ho
  have hn2 : zmo z m ad N out = none := by
    cases hx : zmo z m ad N out with
    | none => rfl
    | some e => exact absurd (d3 out (by rw [hx]; simp) (by rw [zou_o]; simp)) ho
  have hs : zset (zou z out v) out (.inl (2, [.long v'])) = zou z out v' := by
    funext q
    by_cases hq : q = out
    · rw [hq, zset_self, zou_o]
    · rw [zset_ne hq]; unfold zou; rw [if_neg hq, if_neg hq]
  have hdom : ∀ q, zou z out v' q ≠ none → zou z out v q ≠ none := by
    intro q hq
    unfold zou at hq ⊢
    by_cases h1 : q = out
    · rw [if_pos h1]; simp
    · rw [if_neg h1] at hq ⊢; exact hq
  refine ⟨Mx, ad, own, qarr, lt, lw, qs, cap, ?_, hm, hc, hA, hz, d1, fun q a b => d2 q a (hdom q b), fun q a b => d3 q a (hdom q b), ho⟩
  rw [zjn_new _ hn, zjn_new _ hn2, hs]
/-- script's first cell, or 0 -/
theorem c_La_cell (l : Launch) (g : ZG) (M : ZM) (hb : sLn g < 2 ^ 31) : ZC vcl tlx GT l g y_La_cell b_La_cell 2 (Option.some FieldType.int) (ZRm 0 0 0) [.ref (sB g), .int (nI 0)] M (fun r M' => M = M' ∧ r = some (.int (if 0 < sLn g then sX g 0 else 0))) := by
  refine ZC.of (by decide) (Nat.le_of_ble_eq_true rfl) rfl (fun k hz0 => ?_)
  refine z_iload_n d_La_cell_0 rfl ?_
  refine z_aload_n d_La_cell_1 rfl ?_
  refine z_xlen d_La_cell_2 ?_
  refine z_icmp_ge (tgt := 12) d_La_cell_3 (by decide) (fun h3 => ?_) (fun h3 => ?_)
  · have h0 : ¬ 0 < sLn g := fun w => nI_ge w hb h3
    refine z_iconst (v := 0) d_La_cell_12 (by decide) ?_
    refine z_ireturn d_La_cell_13 rfl ?_ (by decide) (by decide)
    rw [if_neg h0]
    exact ⟨rfl, rfl⟩
  · have h0 : 0 < sLn g := Nat.pos_of_ne_zero (fun w => h3 (by rw [w]; decide))
    refine z_aload_n d_La_cell_6 rfl ?_
    refine z_iload_n d_La_cell_7 rfl ?_
    refine z_xld d_La_cell_8 h0 hb ?_
    refine z_goto (tgt := 13) d_La_cell_9 (by decide) ?_
    refine z_ireturn d_La_cell_13 rfl ?_ (by decide) (by decide)
    rw [if_pos h0]
    exact ⟨rfl, rfl⟩
/-- get that answers -/
theorem c_La_get0 {l : Launch} {g : ZG} {x m out : Nat} {S S' : MS} {N : NS} {v a : Int64} {M : ZM} {q n : Int32} (hL : LW g.2.2.2.1 x m out S N v M) (hct : ∀ l : Launch, ZC vcl tlx GT l g y_MQ_get b_MQ_get 4 (Option.some FieldType.long) (ZRm 11 70 6000) [.ref x, .int q, .int n] M (fun r M' => r = some (.long a) ∧ LW g.2.2.2.1 x m out S' N v M')) : ZCW vcl tlx GT l g y_La_get b_La_get 5 (Option.some FieldType.int) [(0, 9, 12, 13)] (ZRm 13 80 6010) [.ref x, .int q, .int n, .ref out] M (fun r M' => r = some (.int 0) ∧ LW g.2.2.2.1 x m out S' N a M') := by
  refine ZCW.of (by decide) (Nat.le_of_ble_eq_true rfl) rfl (fun k hk hx hz0 => ?_)
  obtain ⟨fs, hxx⟩ := hL.x
  refine z_aload_n d_La_get_0 rfl ?_
  refine z_iconst (v := nI 0) d_La_get_1 (by decide) ?_
  refine z_aload_n d_La_get_2 rfl ?_
  refine z_iload_n d_La_get_3 rfl ?_
  refine z_iload_n d_La_get_4 rfl ?_
  refine z_callV gt_good d_La_get_5 zv_La_7 hxx rfl hct rfl rfl ⟨Nat.le_of_ble_eq_true rfl, Nat.le_of_ble_eq_true rfl⟩ (Nat.le_of_ble_eq_true rfl) (Nat.le_of_ble_eq_true rfl) (Nat.le_of_ble_eq_true rfl) ?_
  rintro _ M' ⟨rfl, hL'⟩
  refine z_last d_La_get_8 hL'.o rfl (Nat.le_of_ble_eq_true rfl) (by simp) ?_
  refine z_goto (tgt := 16) d_La_get_9 (by decide) ?_
  refine z_iconst (v := 0) d_La_get_16 (by decide) ?_
  refine z_ireturn d_La_get_17 rfl ?_ (Nat.le_of_ble_eq_true rfl) (Nat.le_of_ble_eq_true rfl)
  exact ⟨rfl, hL'.set a⟩
/-- get that throws -/
theorem c_La_get1 {l : Launch} {g : ZG} {x m out : Nat} {S : MS} {N : NS} {v : Int64} {M : ZM} {q n : Int32} (hL : LW g.2.2.2.1 x m out S N v M) (hct : ZCT vcl tlx GT l g y_MQ_get b_MQ_get 4 (Option.some FieldType.long) (ZRm 11 70 6000) [.ref x, .int q, .int n] M (fun M' => LW g.2.2.2.1 x m out S N v M')) : ZCW vcl tlx GT l g y_La_get b_La_get 5 (Option.some FieldType.int) [(0, 9, 12, 13)] (ZRm 13 80 6010) [.ref x, .int q, .int n, .ref out] M (fun r M' => r = some (.int 1) ∧ LW g.2.2.2.1 x m out S N v M') := by
  refine ZCW.of (by decide) (Nat.le_of_ble_eq_true rfl) rfl (fun k hk hx hz0 => ?_)
  obtain ⟨fs, hxx⟩ := hL.x
  obtain ⟨x0, hx0, h1, h2, h3, h4⟩ : ∃ x0, k.2.2.2.2.2.2.2.2.exceptionTable.toList = [x0] ∧ x0.startPc = 0 ∧ x0.endPc = 9 ∧ x0.handlerPc = 12 ∧ x0.catchType = 13 := by
    cases hl : k.2.2.2.2.2.2.2.2.exceptionTable.toList with
    | nil => rw [hl] at hx; cases hx
    | cons x0 t =>
      rw [hl] at hx
      cases t with
      | nil =>
        simp only [List.map_cons, List.map_nil, List.cons.injEq, Prod.mk.injEq, and_true] at hx
        exact ⟨x0, rfl, hx.1, hx.2.1, hx.2.2.1, hx.2.2.2⟩
      | cons x1 t => simp at hx
  refine z_aload_n d_La_get_0 rfl ?_
  refine z_iconst (v := nI 0) d_La_get_1 (by decide) ?_
  refine z_aload_n d_La_get_2 rfl ?_
  refine z_iload_n d_La_get_3 rfl ?_
  refine z_iload_n d_La_get_4 rfl ?_
  subst hk
  refine z_callVC gt_good d_La_get_5 zv_La_7 hxx rfl hct rfl rfl ⟨Nat.le_of_ble_eq_true rfl, Nat.le_of_ble_eq_true rfl⟩ (Nat.le_of_ble_eq_true rfl) (Nat.le_of_ble_eq_true rfl) (Nat.le_of_ble_eq_true rfl) hx0 (by simp [covers, h1, h2]) (by rw [h4]; decide) (by rw [h4]; exact gw_497) ?_
  intro w M' hL'
  rw [h3]
  refine z_astore d_La_get_12 (by decide) rfl ?_
  refine z_iconst (v := 1) d_La_get_14 (by decide) ?_
  refine z_ireturn d_La_get_15 rfl ?_ (Nat.le_of_ble_eq_true rfl) (Nat.le_of_ble_eq_true rfl)
  exact ⟨rfl, hL'⟩
