/-! EACH CALL OF THE LAW: the class's answer is the reference's, and both states go on together. -/
def LC (g : ZG) (x m out c : Nat) (S : MS) (N : NS) (w : Int64) (y1 : MethodName) (b1 : ByteArray) (k1 : Nat) (R1 : Room) (a1 : List Value) (y2 : MethodName) (b2 : ByteArray) (k2 : Nat) (R2 : Room) (a2 : List Value) : Prop :=
  ∃ (a : Int32) (S' : MS) (N' : NS), SI (c + 1) S' N' ∧ (∀ (l : Launch) (M : ZM), LW g.2.2.2.1 x m out S N w M → ZC vcl tlx GT l g y1 b1 k1 (Option.some FieldType.int) R1 a1 M (fun r M' => r = some (.int a) ∧ LW g.2.2.2.1 x m out S' N w M')) ∧ (∀ (l : Launch) (M : ZM), LW g.2.2.2.1 x m out S' N w M → ZC vcl tlx GT l g y2 b2 k2 (Option.some FieldType.int) R2 a2 M (fun r M' => r = some (.int a) ∧ LW g.2.2.2.1 x m out S' N' w M'))
theorem zidx8 {q : Int32} (h : ¬ (q < 0 ∨ 8 ≤ q)) : ∃ i : Nat, i < 8 ∧ q = nI i := by
  rcases pk_ix q (n := 8) (by decide) with h1 | h1 | h1
  · exact absurd (Or.inl h1) h
  · exact absurd (Or.inr h1) h
  · exact h1
theorem lc_put {g : ZG} {x m out c : Nat} {S : MS} {N : NS} {w : Int64} (hI : SI c S N) (hc : c ≤ 512) (q : Int32) (k : Int32) (v : Int64) (u : Int32) : LC g x m out c S N w y_MQ_put b_MQ_put 8 (ZRm 11 70 6000) [.ref x, .int q, .int k, .long v, .int u] y_Mo_put b_Mo_put 6 (ZRm 4 0 0) [.ref m, .int q, .int k, .long v, .int u] := by
  obtain ⟨e1, e2, e3, e4, e5, e6, e7, e8, e9⟩ := hI.bd hc
  obtain ⟨f1, f2, f3, f4, f5⟩ := hI.bdN hc
  by_cases hq : q < 0 ∨ 32 ≤ q
  · refine ⟨-2, S, ansS N, hI.keep, fun l M hL => hL.cls (fun g' Mx own qarr lt lw qs cap hm hcap => (c_MQ_putB l g' Mx own x qarr lt lw qs S cap q k v u hm hcap hq).mono (zkeep hm hcap)), fun l M hL => hL.ref (fun g' ad hA => c_Mo_putB l g' m ad N q k v u hA hq f1 f2)⟩
  · obtain ⟨i, hi, rfl⟩ := zidx hq
    obtain ⟨ea, hI'⟩ := put_sim hI (by omega) hi k v u
    refine ⟨(putI S i k v u).1, (putI S i k v u).2, ansS (puM N i k v u).2, hI', fun l M hL => hL.cls (fun g' Mx own qarr lt lw qs cap hm hcap => c_MQ_put l g' Mx own x qarr lt lw qs S cap i k v u hm hcap hi (e1 i hi) (e3 i k v u)), fun l M hL => ?_⟩
    rw [ea]
    exact hL.ref (fun g' ad hA => c_Mo_put l g' m ad N i k v u hA hi f1 f2)
theorem lc_take {g : ZG} {x m out c : Nat} {S : MS} {N : NS} {w : Int64} (hI : SI c S N) (hc : c ≤ 512) (q : Int32)  : LC g x m out c S N w y_MQ_take b_MQ_take 4 (ZRm 11 70 6000) [.ref x, .int q] y_Mo_take b_Mo_take 2 (ZRm 4 0 0) [.ref m, .int q] := by
  obtain ⟨e1, e2, e3, e4, e5, e6, e7, e8, e9⟩ := hI.bd hc
  obtain ⟨f1, f2, f3, f4, f5⟩ := hI.bdN hc
  by_cases hq : q < 0 ∨ 32 ≤ q
  · refine ⟨-2, S, ansS N, hI.keep, fun l M hL => hL.cls (fun g' Mx own qarr lt lw qs cap hm hcap => (c_MQ_takeB l g' Mx own x qarr lt lw qs S cap q  hm hcap hq).mono (zkeep hm hcap)), fun l M hL => hL.ref (fun g' ad hA => c_Mo_takeB l g' m ad N q  hA hq f1 f2)⟩
  · obtain ⟨i, hi, rfl⟩ := zidx hq
    obtain ⟨ea, hI'⟩ := take_sim hI (by omega) hi
    refine ⟨(takI S i).1, (takI S i).2, ansS (tkM N i).2, hI', fun l M hL => hL.cls (fun g' Mx own qarr lt lw qs cap hm hcap => c_MQ_take l g' Mx own x qarr lt lw qs S cap i  hm hcap hi (e1 i hi) (e5 i)), fun l M hL => ?_⟩
    rw [ea]
    exact hL.ref (fun g' ad hA => c_Mo_take l g' m ad N i  hA hi f1 f2)
theorem lc_trigger {g : ZG} {x m out c : Nat} {S : MS} {N : NS} {w : Int64} (hI : SI c S N) (hc : c ≤ 512) (q : Int32) (n d : Int32) : LC g x m out c S N w y_MQ_trigger b_MQ_trigger 5 (ZRm 11 70 6000) [.ref x, .int q, .int n, .int d] y_Mo_trigger b_Mo_trigger 4 (ZRm 4 0 0) [.ref m, .int q, .int n, .int d] := by
  obtain ⟨e1, e2, e3, e4, e5, e6, e7, e8, e9⟩ := hI.bd hc
  obtain ⟨f1, f2, f3, f4, f5⟩ := hI.bdN hc
  by_cases hq : q < 0 ∨ 32 ≤ q
  · refine ⟨-2, S, ansS N, hI.keep, fun l M hL => hL.cls (fun g' Mx own qarr lt lw qs cap hm hcap => (c_MQ_triggerB l g' Mx own x qarr lt lw qs S cap q n d hm hcap hq).mono (zkeep hm hcap)), fun l M hL => hL.ref (fun g' ad hA => c_Mo_triggerB l g' m ad N q n d hA hq f1 f2)⟩
  · obtain ⟨i, hi, rfl⟩ := zidx hq
    obtain ⟨ea, hI'⟩ := trigger_sim hI (by omega) hi n d
    refine ⟨(triI S i n d).1, (triI S i n d).2, ansS (trM N i n d).2, hI', fun l M hL => hL.cls (fun g' Mx own qarr lt lw qs cap hm hcap => c_MQ_trigger l g' Mx own x qarr lt lw qs S cap i n d hm hcap hi (e4 i n d)), fun l M hL => ?_⟩
    rw [ea]
    exact hL.ref (fun g' ad hA => c_Mo_trigger l g' m ad N i n d hA hi f1 f2)
theorem lc_rewrite {g : ZG} {x m out c : Nat} {S : MS} {N : NS} {w : Int64} (hI : SI c S N) (hc : c ≤ 512) (q : Int32) (n : Int32) (v : Int64) : LC g x m out c S N w y_MQ_rewrite b_MQ_rewrite 6 (ZRm 11 70 6000) [.ref x, .int q, .int n, .long v] y_Mo_rewrite b_Mo_rewrite 5 (ZRm 4 0 0) [.ref m, .int q, .int n, .long v] := by
  obtain ⟨e1, e2, e3, e4, e5, e6, e7, e8, e9⟩ := hI.bd hc
  obtain ⟨f1, f2, f3, f4, f5⟩ := hI.bdN hc
  by_cases hq : q < 0 ∨ 32 ≤ q
  · refine ⟨-2, S, ansS N, hI.keep, fun l M hL => hL.cls (fun g' Mx own qarr lt lw qs cap hm hcap => (c_MQ_rewriteB l g' Mx own x qarr lt lw qs S cap q n v hm hcap hq).mono (zkeep hm hcap)), fun l M hL => hL.ref (fun g' ad hA => c_Mo_rewriteB l g' m ad N q n v hA hq f1 f2)⟩
  · obtain ⟨i, hi, rfl⟩ := zidx hq
    obtain ⟨ea, hI'⟩ := rewrite_sim hI (by omega) hi n v
    refine ⟨(rewI S i n v).1, (rewI S i n v).2, ansS (rwM N i n v).2, hI', fun l M hL => hL.cls (fun g' Mx own qarr lt lw qs cap hm hcap => c_MQ_rewrite l g' Mx own x qarr lt lw qs S cap i n v hm hcap hi (e1 i hi)), fun l M hL => ?_⟩
    rw [ea]
    exact hL.ref (fun g' ad hA => c_Mo_rewrite l g' m ad N i n v hA hi f1 f2)
theorem lc_next {g : ZG} {x m out c : Nat} {S : MS} {N : NS} {w : Int64} (hI : SI c S N) (hc : c ≤ 512) (q r : Int32) : LC g x m out c S N w y_MQ_next b_MQ_next 5 (ZRm 11 70 6000) [.ref x, .int q, .int r] y_Mo_next b_Mo_next 3 (ZRm 4 0 0) [.ref m, .int q, .int r] := by
  obtain ⟨e1, e2, e3, e4, e5, e6, e7, e8, e9⟩ := hI.bd hc
  obtain ⟨f1, f2, f3, f4, f5⟩ := hI.bdN hc
  by_cases hq : (q < 0 ∨ 32 ≤ q) ∨ r < 0 ∨ 8 ≤ r
  · refine ⟨-2, S, ansS N, hI.keep, fun l M hL => hL.cls (fun g' Mx own qarr lt lw qs cap hm hcap => (c_MQ_nextB l g' Mx own x qarr lt lw qs S cap q r hm hcap hq).mono (zkeep hm hcap)), fun l M hL => hL.ref (fun g' ad hA => c_Mo_nextB l g' m ad N q r hA hq f1 f2)⟩
  · obtain ⟨i, hi, rfl⟩ := zidx (fun w => hq (Or.inl w))
    obtain ⟨j, hj, rfl⟩ := zidx8 (fun w => hq (Or.inr w))
    obtain ⟨ea, hI'⟩ := next_sim hI (by omega) hi hj
    refine ⟨(nextI S i j).1, (nextI S i j).2, ansS (nxM N i j).2, hI', fun l M hL => hL.cls (fun g' Mx own qarr lt lw qs cap hm hcap => c_MQ_next l g' Mx own x qarr lt lw qs S cap i j hm hcap hi hj), fun l M hL => ?_⟩
    rw [ea]
    exact hL.ref (fun g' ad hA => c_Mo_next l g' m ad N i j hA hi hj f1 f2)
theorem lc_end {g : ZG} {x m out c : Nat} {S : MS} {N : NS} {w : Int64} (hI : SI c S N) (hc : c ≤ 512) (t : Int32) : LC g x m out c S N w y_MQ_end b_MQ_end 4 (ZRm 11 70 6000) [.ref x, .int t] y_Mo_end b_Mo_end 2 (ZRm 4 0 0) [.ref m, .int t] := by
  obtain ⟨e1, e2, e3, e4, e5, e6, e7, e8, e9⟩ := hI.bd hc
  obtain ⟨f1, f2, f3, f4, f5⟩ := hI.bdN hc
  obtain ⟨ea, hI'⟩ := end_sim hI (by omega) t
  refine ⟨(endI S t).1, (endI S t).2, ansS (enM N t).2, hI', fun l M hL => hL.cls (fun g' Mx own qarr lt lw qs cap hm hcap => c_MQ_end l g' Mx own x qarr lt lw qs S cap t hm hcap e2 (e6 t)), fun l M hL => ?_⟩
  rw [ea]
  exact hL.ref (fun g' ad hA => c_Mo_end l g' m ad N t hA f1 f2)
theorem lc_delay {g : ZG} {x m out c : Nat} {S : MS} {N : NS} {w : Int64} (hI : SI c S N) (hc : c ≤ 512) (d : Int32) (u : Int64) : LC g x m out c S N w y_MQ_delay b_MQ_delay 4 (ZRm 11 420 6000) [.ref x, .int d, .long u] y_Mo_delay b_Mo_delay 4 (ZRm 3 0 0) [.ref m, .int d, .long u] := by
  obtain ⟨e1, e2, e3, e4, e5, e6, e7, e8, e9⟩ := hI.bd hc
  obtain ⟨f1, f2, f3, f4, f5⟩ := hI.bdN hc
  obtain ⟨ea, hI'⟩ := delay_sim hI (by omega) d u
  refine ⟨(delI S d u).1, (delI S d u).2, ansS (deM N d u).2, hI', fun l M hL => hL.cls (fun g' Mx own qarr lt lw qs cap hm hcap => c_MQ_delay l g' Mx own x qarr lt lw qs S cap d u hm hcap (e8 d u)), fun l M hL => ?_⟩
  rw [ea]
  exact hL.ref (fun g' ad hA => c_Mo_delay l g' m ad N d u hA f1 f2 f4)
theorem lc_cancel {g : ZG} {x m out c : Nat} {S : MS} {N : NS} {w : Int64} (hI : SI c S N) (hc : c ≤ 512) (n : Int32) : LC g x m out c S N w y_MQ_cancel b_MQ_cancel 3 (ZRm 11 420 6000) [.ref x, .int n] y_Mo_cancel b_Mo_cancel 4 (ZRm 3 0 0) [.ref m, .int n] := by
  obtain ⟨e1, e2, e3, e4, e5, e6, e7, e8, e9⟩ := hI.bd hc
  obtain ⟨f1, f2, f3, f4, f5⟩ := hI.bdN hc
  obtain ⟨ea, hI'⟩ := cancel_sim hI n
  refine ⟨(canI S n).1, (canI S n).2, ansS (caM N n).2, hI', fun l M hL => hL.cls (fun g' Mx own qarr lt lw qs cap hm hcap => c_MQ_cancel l g' Mx own x qarr lt lw qs S cap n hm hcap), fun l M hL => ?_⟩
  rw [ea]
  exact hL.ref (fun g' ad hA => c_Mo_cancel l g' m ad N n hA f1 (by omega) f4)
theorem lc_tick {g : ZG} {x m out c : Nat} {S : MS} {N : NS} {w : Int64} (hI : SI c S N) (hc : c ≤ 512) (t : Int64) : LC g x m out c S N w y_MQ_tick b_MQ_tick 3 (ZRm 11 420 6000) [.ref x, .long t] y_Mo_tick b_Mo_tick 7 (ZRm 3 0 0) [.ref m, .long t] := by
  obtain ⟨e1, e2, e3, e4, e5, e6, e7, e8, e9⟩ := hI.bd hc
  obtain ⟨f1, f2, f3, f4, f5⟩ := hI.bdN hc
  obtain ⟨ea, hI'⟩ := tick_sim hI t
  refine ⟨(ticI S t).1, (ticI S t).2, ansS (tiM N t).2, hI', fun l M hL => hL.cls (fun g' Mx own qarr lt lw qs cap hm hcap => c_MQ_tick l g' Mx own x qarr lt lw qs S cap t hm hcap (e7 t)), fun l M hL => ?_⟩
  rw [ea]
  exact hL.ref (fun g' ad hA => c_Mo_tick l g' m ad N t hA f1 f3 f4)
theorem lc_unit {g : ZG} {x m out c : Nat} {S : MS} {N : NS} {w : Int64} (hI : SI c S N) (hc : c ≤ 512) (u d : Int32) : LC g x m out c S N w y_MQ_unit b_MQ_unit 6 (ZRm 11 70 6000) [.ref x, .int u, .int d] y_Mo_unit b_Mo_unit 3 (ZRm 4 0 0) [.ref m, .int u, .int d] := by
  obtain ⟨e1, e2, e3, e4, e5, e6, e7, e8, e9⟩ := hI.bd hc
  obtain ⟨f1, f2, f3, f4, f5⟩ := hI.bdN hc
  obtain ⟨ea, hI'⟩ := unit_sim hI u d
  refine ⟨(uniI S u d).1, (uniI S u d).2, ansS (unM N u d).2, hI', fun l M hL => hL.cls (fun g' Mx own qarr lt lw qs cap hm hcap => c_MQ_unit l g' Mx own x qarr lt lw qs S cap u d hm hcap (e9 u d)), fun l M hL => ?_⟩
  rw [ea]
  exact hL.ref (fun g' ad hA => c_Mo_unit l g' m ad N u d hA f5 f1 f2)
theorem lc_age {g : ZG} {x m out c : Nat} {S : MS} {N : NS} {w : Int64} (hI : SI c S N) (hc : c ≤ 512) (b : Int64) : LC g x m out c S N w y_MQ_age b_MQ_age 6 (ZRm 11 70 6000) [.ref x, .long b] y_Mo_age b_Mo_age 5 (ZRm 3 0 0) [.ref m, .long b] := by
  obtain ⟨e1, e2, e3, e4, e5, e6, e7, e8, e9⟩ := hI.bd hc
  obtain ⟨f1, f2, f3, f4, f5⟩ := hI.bdN hc
  obtain ⟨ea, hI'⟩ := age_sim hI (by omega) b
  refine ⟨(ageI S b).1, (ageI S b).2, ansS (agM N b 32).2, hI', fun l M hL => hL.cls (fun g' Mx own qarr lt lw qs cap hm hcap => c_MQ_age l g' Mx own x qarr lt lw qs S cap b hm hcap), fun l M hL => ?_⟩
  rw [ea]
  exact hL.ref (fun g' ad hA => c_Mo_age l g' m ad N b hA f1 (by omega) f5)
theorem lc_started {g : ZG} {x m out c : Nat} {S : MS} {N : NS} {w : Int64} (hI : SI c S N) (hc : c ≤ 512) (t : Int32) : LC g x m out c S N w y_MQ_started b_MQ_started 2 (ZRm 11 70 6000) [.ref x, .int t] y_Mo_started b_Mo_started 2 (ZRm 0 0 0) [.ref m, .int t] := by
  obtain ⟨e1, e2, e3, e4, e5, e6, e7, e8, e9⟩ := hI.bd hc
  obtain ⟨f1, f2, f3, f4, f5⟩ := hI.bdN hc
  refine ⟨staF S t, S, sS N 0 0, (hI.mono (Nat.le_succ c)).code 0, fun l M hL => hL.cls (fun g' Mx own qarr lt lw qs cap hm hcap => (c_MQ_started l g' Mx own x qarr lt lw qs S cap t hm hcap).mono (zkeep hm hcap)), fun l M hL => ?_⟩
  rw [started_sim hI (by omega) t]
  exact hL.ref (fun g' ad hA => c_Mo_started l g' m ad N t hA (by omega))
theorem lc_count {g : ZG} {x m out c : Nat} {S : MS} {N : NS} {w : Int64} (hI : SI c S N) (hc : c ≤ 512) (t : Int32) : LC g x m out c S N w y_MQ_count b_MQ_count 2 (ZRm 11 70 6000) [.ref x, .int t] y_Mo_count b_Mo_count 2 (ZRm 1 0 0) [.ref m, .int t] := by
  obtain ⟨e1, e2, e3, e4, e5, e6, e7, e8, e9⟩ := hI.bd hc
  obtain ⟨f1, f2, f3, f4, f5⟩ := hI.bdN hc
  refine ⟨cntF S t, S, sS N 0 0, (hI.mono (Nat.le_succ c)).code 0, fun l M hL => hL.cls (fun g' Mx own qarr lt lw qs cap hm hcap => (c_MQ_count l g' Mx own x qarr lt lw qs S cap t hm hcap).mono (zkeep hm hcap)), fun l M hL => ?_⟩
  rw [count_sim hI (by omega) t]
  exact hL.ref (fun g' ad hA => c_Mo_count l g' m ad N t hA f1)
theorem lc_get {g : ZG} {x m out c : Nat} {S : MS} {N : NS} {w : Int64} (hI : SI c S N) (hc : c ≤ 512) (q n : Int32) : ∃ (a : Int32) (bv w' : Int64) (S' : MS) (N' : NS), SI (c + 1) S' N' ∧ (∀ (l : Launch) (M : ZM), l.stackTraces = false → LW g.2.2.2.1 x m out S N w M → ZCW vcl tlx GT l g y_La_get b_La_get 5 (Option.some FieldType.int) [(0, 9, 12, 13)] (ZRm 13 80 6010) [.ref x, .int q, .int n, .ref out] M (fun r M' => r = some (.int a) ∧ LW g.2.2.2.1 x m out S' N w' M')) ∧ (∀ (l : Launch) (M : ZM), LW g.2.2.2.1 x m out S' N w' M → ZC vcl tlx GT l g y_Mo_get b_Mo_get 4 (Option.some FieldType.long) (ZRm 2 0 0) [.ref m, .int q, .int n] M (fun r M' => r = some (.long bv) ∧ LW g.2.2.2.1 x m out S' N' w' M')) ∧ (∀ (l : Launch) (M : ZM), LW g.2.2.2.1 x m out S' N' w' M → ZC vcl tlx GT l g y_Mo_thrown b_Mo_thrown 1 (Option.some FieldType.int) (ZRm 0 0 0) [.ref m] M (fun r M' => r = some (.int a) ∧ LW g.2.2.2.1 x m out S' N' w' M')) ∧ (a = 0 → w' = bv) := by
  obtain ⟨e1, e2, e3, e4, e5, e6, e7, e8, e9⟩ := hI.bd hc
  obtain ⟨f1, f2, f3, f4, f5⟩ := hI.bdN hc
  have hmo := hI.mono (Nat.le_succ c)
  by_cases hq : q < 0 ∨ 32 ≤ q
  · refine ⟨1, 0, w, S, sS N 0 1, hmo.code 1, fun l M hlt hL => c_La_get1 hL (hL.clsT (fun g' Mx own qarr lt lw qs cap hm hcap => c_MQ_getTB l hlt g' Mx own x qarr lt lw qs S cap q n hm hcap hq)), fun l M hL => hL.ref (fun g' ad hA => c_Mo_getB l g' m ad N q n hA hq), fun l M hL => hL.ref (fun g' ad hA => ?_), fun h => absurd h (by decide)⟩
    have := c_Mo_thrown l g' m ad (sS N 0 1) hA
    simpa [sS, va_up] using this
  · obtain ⟨i, hi, rfl⟩ := zidx hq
    by_cases hE : gtE S i n
    · obtain ⟨ha, hI'⟩ := getT_sim hI (by omega) hi n hE
      refine ⟨1, (gtM N i n).1, w, S, (gtM N i n).2, hI', fun l M hlt hL => c_La_get1 hL (hL.clsT (fun g' Mx own qarr lt lw qs cap hm hcap => c_MQ_getT l hlt g' Mx own x qarr lt lw qs S cap i n hm hcap hi (e1 i hi) hE)), fun l M hL => hL.ref (fun g' ad hA => c_Mo_get l g' m ad N i n hA hi f1), fun l M hL => hL.ref (fun g' ad hA => ?_), fun h => absurd h (by decide)⟩
      have := c_Mo_thrown l g' m ad (gtM N i n).2 hA
      rw [ha] at this
      exact this
    · obtain ⟨ha, hv, hI'⟩ := get_sim hI (by omega) hi n hE
      refine ⟨0, (gtM N i n).1, (gtI S i n).1, (gtI S i n).2, (gtM N i n).2, hI', fun l M _ hL => c_La_get0 hL (fun l => hL.cls (fun g' Mx own qarr lt lw qs cap hm hcap => c_MQ_get l g' Mx own x qarr lt lw qs S cap i n hm hcap hi (e1 i hi) hE)), fun l M hL => hL.ref (fun g' ad hA => c_Mo_get l g' m ad N i n hA hi f1), fun l M hL => hL.ref (fun g' ad hA => ?_), fun _ => hv⟩
      have := c_Mo_thrown l g' m ad (gtM N i n).2 hA
      rw [ha] at this
      exact this
