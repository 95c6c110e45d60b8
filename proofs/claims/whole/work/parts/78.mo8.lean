set_option maxHeartbeats 4000000 in
set_option maxRecDepth 100000 in
theorem c_Mo_put (l : Launch) (g : ZG) (m : Nat) (ad : Nat → Nat) (N : NS) (i : Nat) (k : Int32) (v : Int64) (u : Int32) (hA : zAd g.2.2.2.1 m ad) (hi : i < 32) (hit : N.2.1 0 < 1100) (hbg : N.2.1 1 + 33 ≤ 4000) : ZC vcl tlx GT l g y_Mo_put b_Mo_put 6 (Option.some FieldType.int) (ZRm 4 0 0) [.ref m, .int (nI i), .int k, .long v, .int u] (zmo g.2.2.2.1 m ad N) (fun r M' => r = some (.int (puM N i k v u).1) ∧ M' = zmo g.2.2.2.1 m ad (ansS (puM N i k v u).2)) := by
  refine ZC.of (by decide) (Nat.le_of_ble_eq_true rfl) rfl (fun k0 hz0 => ?_)
  refine z_aload_n d_Mo_put_0 rfl ?_
  refine z_aload_n d_Mo_put_1 rfl ?_
  refine z_iload_n d_Mo_put_2 rfl ?_
  refine z_iload_n d_Mo_put_3 rfl ?_
  refine z_lload_n d_Mo_put_4 rfl ?_
  refine z_iload d_Mo_put_5 rfl ?_
  refine z_callV gt_good d_Mo_put_7 zv_Mo_116 (zmo_m _ _ _ _) rfl (fun l => c_Mo_putting l g m ad N i k v u hA hi hit) rfl rfl ⟨Nat.le_of_ble_eq_true rfl, Nat.le_of_ble_eq_true rfl⟩ (Nat.le_of_ble_eq_true rfl) (Nat.le_of_ble_eq_true rfl) (Nat.le_of_ble_eq_true rfl) ?_
  rintro _ _ ⟨rfl, rfl⟩
  refine z_callV gt_good d_Mo_put_10 zv_Mo_120 (zmo_m _ _ _ _) rfl (fun l => c_Mo_answer l g m ad ((puM N i k v u).2) _ hA (by have := puM_it N i k v u; omega) (by rw [puM_bg]; omega)) rfl rfl ⟨Nat.le_of_ble_eq_true rfl, Nat.le_of_ble_eq_true rfl⟩ (Nat.le_of_ble_eq_true rfl) (Nat.le_of_ble_eq_true rfl) (Nat.le_of_ble_eq_true rfl) ?_
  rintro _ _ ⟨rfl, rfl⟩
  refine z_ireturn d_Mo_put_13 rfl ?_ (by decide) (by decide)
  exact ⟨rfl, rfl⟩
set_option maxHeartbeats 4000000 in
set_option maxRecDepth 100000 in
theorem c_Mo_putB (l : Launch) (g : ZG) (m : Nat) (ad : Nat → Nat) (N : NS) (q k : Int32) (v : Int64) (u : Int32) (hA : zAd g.2.2.2.1 m ad) (hq : q < 0 ∨ 32 ≤ q) (hit : N.2.1 0 < 1100) (hbg : N.2.1 1 + 33 ≤ 4000) : ZC vcl tlx GT l g y_Mo_put b_Mo_put 6 (Option.some FieldType.int) (ZRm 4 0 0) [.ref m, .int q, .int k, .long v, .int u] (zmo g.2.2.2.1 m ad N) (fun r M' => r = some (.int (-2)) ∧ M' = zmo g.2.2.2.1 m ad (ansS N)) := by
  refine ZC.of (by decide) (Nat.le_of_ble_eq_true rfl) rfl (fun k0 hz0 => ?_)
  refine z_aload_n d_Mo_put_0 rfl ?_
  refine z_aload_n d_Mo_put_1 rfl ?_
  refine z_iload_n d_Mo_put_2 rfl ?_
  refine z_iload_n d_Mo_put_3 rfl ?_
  refine z_lload_n d_Mo_put_4 rfl ?_
  refine z_iload d_Mo_put_5 rfl ?_
  refine z_callV gt_good d_Mo_put_7 zv_Mo_116 (zmo_m _ _ _ _) rfl (fun l => c_Mo_puttingB l g m ad N q k v u hA hq) rfl rfl ⟨Nat.le_of_ble_eq_true rfl, Nat.le_of_ble_eq_true rfl⟩ (Nat.le_of_ble_eq_true rfl) (Nat.le_of_ble_eq_true rfl) (Nat.le_of_ble_eq_true rfl) ?_
  rintro _ _ ⟨rfl, rfl⟩
  refine z_callV gt_good d_Mo_put_10 zv_Mo_120 (zmo_m _ _ _ _) rfl (fun l => c_Mo_answer l g m ad (N) _ hA (Nat.le_of_lt hit) (by omega)) rfl rfl ⟨Nat.le_of_ble_eq_true rfl, Nat.le_of_ble_eq_true rfl⟩ (Nat.le_of_ble_eq_true rfl) (Nat.le_of_ble_eq_true rfl) (Nat.le_of_ble_eq_true rfl) ?_
  rintro _ _ ⟨rfl, rfl⟩
  refine z_ireturn d_Mo_put_13 rfl ?_ (by decide) (by decide)
  exact ⟨rfl, rfl⟩
set_option maxHeartbeats 4000000 in
set_option maxRecDepth 100000 in
theorem c_Mo_next (l : Launch) (g : ZG) (m : Nat) (ad : Nat → Nat) (N : NS) (i j : Nat) (hA : zAd g.2.2.2.1 m ad) (hi : i < 32) (hj : j < 8) (hit : N.2.1 0 < 1100) (hbg : N.2.1 1 + 33 ≤ 4000) : ZC vcl tlx GT l g y_Mo_next b_Mo_next 3 (Option.some FieldType.int) (ZRm 4 0 0) [.ref m, .int (nI i), .int (nI j)] (zmo g.2.2.2.1 m ad N) (fun r M' => r = some (.int (nxM N i j).1) ∧ M' = zmo g.2.2.2.1 m ad (ansS (nxM N i j).2)) := by
  refine ZC.of (by decide) (Nat.le_of_ble_eq_true rfl) rfl (fun k0 hz0 => ?_)
  refine z_aload_n d_Mo_next_0 rfl ?_
  refine z_aload_n d_Mo_next_1 rfl ?_
  refine z_iload_n d_Mo_next_2 rfl ?_
  refine z_iload_n d_Mo_next_3 rfl ?_
  refine z_callV gt_good d_Mo_next_4 zv_Mo_133 (zmo_m _ _ _ _) rfl (fun l => c_Mo_nexting l g m ad N i j hA hi hj hit) rfl rfl ⟨Nat.le_of_ble_eq_true rfl, Nat.le_of_ble_eq_true rfl⟩ (Nat.le_of_ble_eq_true rfl) (Nat.le_of_ble_eq_true rfl) (Nat.le_of_ble_eq_true rfl) ?_
  rintro _ _ ⟨rfl, rfl⟩
  refine z_callV gt_good d_Mo_next_7 zv_Mo_120 (zmo_m _ _ _ _) rfl (fun l => c_Mo_answer l g m ad ((nxM N i j).2) _ hA (by rw [nxM_nn]; omega) (by rw [nxM_nn]; omega)) rfl rfl ⟨Nat.le_of_ble_eq_true rfl, Nat.le_of_ble_eq_true rfl⟩ (Nat.le_of_ble_eq_true rfl) (Nat.le_of_ble_eq_true rfl) (Nat.le_of_ble_eq_true rfl) ?_
  rintro _ _ ⟨rfl, rfl⟩
  refine z_ireturn d_Mo_next_10 rfl ?_ (by decide) (by decide)
  exact ⟨rfl, rfl⟩
set_option maxHeartbeats 4000000 in
set_option maxRecDepth 100000 in
theorem c_Mo_nextB (l : Launch) (g : ZG) (m : Nat) (ad : Nat → Nat) (N : NS) (q r : Int32) (hA : zAd g.2.2.2.1 m ad) (hq : (q < 0 ∨ 32 ≤ q) ∨ r < 0 ∨ 8 ≤ r) (hit : N.2.1 0 < 1100) (hbg : N.2.1 1 + 33 ≤ 4000) : ZC vcl tlx GT l g y_Mo_next b_Mo_next 3 (Option.some FieldType.int) (ZRm 4 0 0) [.ref m, .int q, .int r] (zmo g.2.2.2.1 m ad N) (fun r M' => r = some (.int (-2)) ∧ M' = zmo g.2.2.2.1 m ad (ansS N)) := by
  refine ZC.of (by decide) (Nat.le_of_ble_eq_true rfl) rfl (fun k0 hz0 => ?_)
  refine z_aload_n d_Mo_next_0 rfl ?_
  refine z_aload_n d_Mo_next_1 rfl ?_
  refine z_iload_n d_Mo_next_2 rfl ?_
  refine z_iload_n d_Mo_next_3 rfl ?_
  refine z_callV gt_good d_Mo_next_4 zv_Mo_133 (zmo_m _ _ _ _) rfl (fun l => c_Mo_nextingB l g m ad N q r hA hq) rfl rfl ⟨Nat.le_of_ble_eq_true rfl, Nat.le_of_ble_eq_true rfl⟩ (Nat.le_of_ble_eq_true rfl) (Nat.le_of_ble_eq_true rfl) (Nat.le_of_ble_eq_true rfl) ?_
  rintro _ _ ⟨rfl, rfl⟩
  refine z_callV gt_good d_Mo_next_7 zv_Mo_120 (zmo_m _ _ _ _) rfl (fun l => c_Mo_answer l g m ad (N) _ hA (Nat.le_of_lt hit) (by omega)) rfl rfl ⟨Nat.le_of_ble_eq_true rfl, Nat.le_of_ble_eq_true rfl⟩ (Nat.le_of_ble_eq_true rfl) (Nat.le_of_ble_eq_true rfl) (Nat.le_of_ble_eq_true rfl) ?_
  rintro _ _ ⟨rfl, rfl⟩
  refine z_ireturn d_Mo_next_10 rfl ?_ (by decide) (by decide)
  exact ⟨rfl, rfl⟩
set_option maxHeartbeats 4000000 in
set_option maxRecDepth 100000 in
theorem c_Mo_take (l : Launch) (g : ZG) (m : Nat) (ad : Nat → Nat) (N : NS) (i : Nat) (hA : zAd g.2.2.2.1 m ad) (hi : i < 32) (hit : N.2.1 0 < 1100) (hbg : N.2.1 1 + 33 ≤ 4000) : ZC vcl tlx GT l g y_Mo_take b_Mo_take 2 (Option.some FieldType.int) (ZRm 4 0 0) [.ref m, .int (nI i)] (zmo g.2.2.2.1 m ad N) (fun r M' => r = some (.int (tkM N i).1) ∧ M' = zmo g.2.2.2.1 m ad (ansS (tkM N i).2)) := by
  refine ZC.of (by decide) (Nat.le_of_ble_eq_true rfl) rfl (fun k0 hz0 => ?_)
  refine z_aload_n d_Mo_take_0 rfl ?_
  refine z_aload_n d_Mo_take_1 rfl ?_
  refine z_iload_n d_Mo_take_2 rfl ?_
  refine z_callV gt_good d_Mo_take_3 zv_Mo_139 (zmo_m _ _ _ _) rfl (fun l => c_Mo_taking l g m ad N i hA hi hit) rfl rfl ⟨Nat.le_of_ble_eq_true rfl, Nat.le_of_ble_eq_true rfl⟩ (Nat.le_of_ble_eq_true rfl) (Nat.le_of_ble_eq_true rfl) (Nat.le_of_ble_eq_true rfl) ?_
  rintro _ _ ⟨rfl, rfl⟩
  refine z_callV gt_good d_Mo_take_6 zv_Mo_120 (zmo_m _ _ _ _) rfl (fun l => c_Mo_answer l g m ad ((tkM N i).2) _ hA (by have := tkM_it N i; omega) (by have := tkM_it N i; omega)) rfl rfl ⟨Nat.le_of_ble_eq_true rfl, Nat.le_of_ble_eq_true rfl⟩ (Nat.le_of_ble_eq_true rfl) (Nat.le_of_ble_eq_true rfl) (Nat.le_of_ble_eq_true rfl) ?_
  rintro _ _ ⟨rfl, rfl⟩
  refine z_ireturn d_Mo_take_9 rfl ?_ (by decide) (by decide)
  exact ⟨rfl, rfl⟩
set_option maxHeartbeats 4000000 in
set_option maxRecDepth 100000 in
theorem c_Mo_takeB (l : Launch) (g : ZG) (m : Nat) (ad : Nat → Nat) (N : NS) (q : Int32) (hA : zAd g.2.2.2.1 m ad) (hq : q < 0 ∨ 32 ≤ q) (hit : N.2.1 0 < 1100) (hbg : N.2.1 1 + 33 ≤ 4000) : ZC vcl tlx GT l g y_Mo_take b_Mo_take 2 (Option.some FieldType.int) (ZRm 4 0 0) [.ref m, .int q] (zmo g.2.2.2.1 m ad N) (fun r M' => r = some (.int (-2)) ∧ M' = zmo g.2.2.2.1 m ad (ansS N)) := by
  refine ZC.of (by decide) (Nat.le_of_ble_eq_true rfl) rfl (fun k0 hz0 => ?_)
  refine z_aload_n d_Mo_take_0 rfl ?_
  refine z_aload_n d_Mo_take_1 rfl ?_
  refine z_iload_n d_Mo_take_2 rfl ?_
  refine z_callV gt_good d_Mo_take_3 zv_Mo_139 (zmo_m _ _ _ _) rfl (fun l => c_Mo_takingB l g m ad N q hA hq) rfl rfl ⟨Nat.le_of_ble_eq_true rfl, Nat.le_of_ble_eq_true rfl⟩ (Nat.le_of_ble_eq_true rfl) (Nat.le_of_ble_eq_true rfl) (Nat.le_of_ble_eq_true rfl) ?_
  rintro _ _ ⟨rfl, rfl⟩
  refine z_callV gt_good d_Mo_take_6 zv_Mo_120 (zmo_m _ _ _ _) rfl (fun l => c_Mo_answer l g m ad (N) _ hA (Nat.le_of_lt hit) (by omega)) rfl rfl ⟨Nat.le_of_ble_eq_true rfl, Nat.le_of_ble_eq_true rfl⟩ (Nat.le_of_ble_eq_true rfl) (Nat.le_of_ble_eq_true rfl) (Nat.le_of_ble_eq_true rfl) ?_
  rintro _ _ ⟨rfl, rfl⟩
  refine z_ireturn d_Mo_take_9 rfl ?_ (by decide) (by decide)
  exact ⟨rfl, rfl⟩
set_option maxHeartbeats 4000000 in
set_option maxRecDepth 100000 in
theorem c_Mo_trigger (l : Launch) (g : ZG) (m : Nat) (ad : Nat → Nat) (N : NS) (i : Nat) (n c : Int32) (hA : zAd g.2.2.2.1 m ad) (hi : i < 32) (hit : N.2.1 0 < 1100) (hbg : N.2.1 1 + 33 ≤ 4000) : ZC vcl tlx GT l g y_Mo_trigger b_Mo_trigger 4 (Option.some FieldType.int) (ZRm 4 0 0) [.ref m, .int (nI i), .int n, .int c] (zmo g.2.2.2.1 m ad N) (fun r M' => r = some (.int (trM N i n c).1) ∧ M' = zmo g.2.2.2.1 m ad (ansS (trM N i n c).2)) := by
  refine ZC.of (by decide) (Nat.le_of_ble_eq_true rfl) rfl (fun k0 hz0 => ?_)
  refine z_aload_n d_Mo_trigger_0 rfl ?_
  refine z_aload_n d_Mo_trigger_1 rfl ?_
  refine z_iload_n d_Mo_trigger_2 rfl ?_
  refine z_iload_n d_Mo_trigger_3 rfl ?_
  refine z_iload_n d_Mo_trigger_4 rfl ?_
  refine z_callV gt_good d_Mo_trigger_5 zv_Mo_142 (zmo_m _ _ _ _) rfl (fun l => c_Mo_triggers l g m ad N i n c hA hi) rfl rfl ⟨Nat.le_of_ble_eq_true rfl, Nat.le_of_ble_eq_true rfl⟩ (Nat.le_of_ble_eq_true rfl) (Nat.le_of_ble_eq_true rfl) (Nat.le_of_ble_eq_true rfl) ?_
  rintro _ _ ⟨rfl, rfl⟩
  refine z_callV gt_good d_Mo_trigger_8 zv_Mo_120 (zmo_m _ _ _ _) rfl (fun l => c_Mo_answer l g m ad ((trM N i n c).2) _ hA (by rw [trM_nn]; omega) (by rw [trM_nn]; omega)) rfl rfl ⟨Nat.le_of_ble_eq_true rfl, Nat.le_of_ble_eq_true rfl⟩ (Nat.le_of_ble_eq_true rfl) (Nat.le_of_ble_eq_true rfl) (Nat.le_of_ble_eq_true rfl) ?_
  rintro _ _ ⟨rfl, rfl⟩
  refine z_ireturn d_Mo_trigger_11 rfl ?_ (by decide) (by decide)
  exact ⟨rfl, rfl⟩
set_option maxHeartbeats 4000000 in
set_option maxRecDepth 100000 in
theorem c_Mo_triggerB (l : Launch) (g : ZG) (m : Nat) (ad : Nat → Nat) (N : NS) (q n c : Int32) (hA : zAd g.2.2.2.1 m ad) (hq : q < 0 ∨ 32 ≤ q) (hit : N.2.1 0 < 1100) (hbg : N.2.1 1 + 33 ≤ 4000) : ZC vcl tlx GT l g y_Mo_trigger b_Mo_trigger 4 (Option.some FieldType.int) (ZRm 4 0 0) [.ref m, .int q, .int n, .int c] (zmo g.2.2.2.1 m ad N) (fun r M' => r = some (.int (-2)) ∧ M' = zmo g.2.2.2.1 m ad (ansS N)) := by
  refine ZC.of (by decide) (Nat.le_of_ble_eq_true rfl) rfl (fun k0 hz0 => ?_)
  refine z_aload_n d_Mo_trigger_0 rfl ?_
  refine z_aload_n d_Mo_trigger_1 rfl ?_
  refine z_iload_n d_Mo_trigger_2 rfl ?_
  refine z_iload_n d_Mo_trigger_3 rfl ?_
  refine z_iload_n d_Mo_trigger_4 rfl ?_
  refine z_callV gt_good d_Mo_trigger_5 zv_Mo_142 (zmo_m _ _ _ _) rfl (fun l => c_Mo_triggersB l g m ad N q n c hA hq) rfl rfl ⟨Nat.le_of_ble_eq_true rfl, Nat.le_of_ble_eq_true rfl⟩ (Nat.le_of_ble_eq_true rfl) (Nat.le_of_ble_eq_true rfl) (Nat.le_of_ble_eq_true rfl) ?_
  rintro _ _ ⟨rfl, rfl⟩
  refine z_callV gt_good d_Mo_trigger_8 zv_Mo_120 (zmo_m _ _ _ _) rfl (fun l => c_Mo_answer l g m ad (N) _ hA (Nat.le_of_lt hit) (by omega)) rfl rfl ⟨Nat.le_of_ble_eq_true rfl, Nat.le_of_ble_eq_true rfl⟩ (Nat.le_of_ble_eq_true rfl) (Nat.le_of_ble_eq_true rfl) (Nat.le_of_ble_eq_true rfl) ?_
  rintro _ _ ⟨rfl, rfl⟩
  refine z_ireturn d_Mo_trigger_11 rfl ?_ (by decide) (by decide)
  exact ⟨rfl, rfl⟩
set_option maxHeartbeats 4000000 in
set_option maxRecDepth 100000 in
theorem c_Mo_end (l : Launch) (g : ZG) (m : Nat) (ad : Nat → Nat) (N : NS) (t : Int32) (hA : zAd g.2.2.2.1 m ad) (hit : N.2.1 0 < 1100) (hbg : N.2.1 1 + 33 ≤ 4000) : ZC vcl tlx GT l g y_Mo_end b_Mo_end 2 (Option.some FieldType.int) (ZRm 4 0 0) [.ref m, .int t] (zmo g.2.2.2.1 m ad N) (fun r M' => r = some (.int (enM N t).1) ∧ M' = zmo g.2.2.2.1 m ad (ansS (enM N t).2)) := by
  refine ZC.of (by decide) (Nat.le_of_ble_eq_true rfl) rfl (fun k0 hz0 => ?_)
  refine z_aload_n d_Mo_end_0 rfl ?_
  refine z_aload_n d_Mo_end_1 rfl ?_
  refine z_iload_n d_Mo_end_2 rfl ?_
  refine z_callV gt_good d_Mo_end_3 zv_Mo_146 (zmo_m _ _ _ _) rfl (fun l => c_Mo_ending l g m ad N t hA hit (by omega)) rfl rfl ⟨Nat.le_of_ble_eq_true rfl, Nat.le_of_ble_eq_true rfl⟩ (Nat.le_of_ble_eq_true rfl) (Nat.le_of_ble_eq_true rfl) (Nat.le_of_ble_eq_true rfl) ?_
  rintro _ _ ⟨rfl, rfl⟩
  refine z_callV gt_good d_Mo_end_6 zv_Mo_120 (zmo_m _ _ _ _) rfl (fun l => c_Mo_answer l g m ad ((enM N t).2) _ hA (by have := enM_nn N t; omega) (by have := enM_nn N t; omega)) rfl rfl ⟨Nat.le_of_ble_eq_true rfl, Nat.le_of_ble_eq_true rfl⟩ (Nat.le_of_ble_eq_true rfl) (Nat.le_of_ble_eq_true rfl) (Nat.le_of_ble_eq_true rfl) ?_
  rintro _ _ ⟨rfl, rfl⟩
  refine z_ireturn d_Mo_end_9 rfl ?_ (by decide) (by decide)
  exact ⟨rfl, rfl⟩
set_option maxHeartbeats 4000000 in
set_option maxRecDepth 100000 in
theorem c_Mo_rewrite (l : Launch) (g : ZG) (m : Nat) (ad : Nat → Nat) (N : NS) (i : Nat) (n : Int32) (v : Int64) (hA : zAd g.2.2.2.1 m ad) (hi : i < 32) (hit : N.2.1 0 < 1100) (hbg : N.2.1 1 + 33 ≤ 4000) : ZC vcl tlx GT l g y_Mo_rewrite b_Mo_rewrite 5 (Option.some FieldType.int) (ZRm 4 0 0) [.ref m, .int (nI i), .int n, .long v] (zmo g.2.2.2.1 m ad N) (fun r M' => r = some (.int (rwM N i n v).1) ∧ M' = zmo g.2.2.2.1 m ad (ansS (rwM N i n v).2)) := by
  refine ZC.of (by decide) (Nat.le_of_ble_eq_true rfl) rfl (fun k0 hz0 => ?_)
  refine z_aload_n d_Mo_rewrite_0 rfl ?_
  refine z_aload_n d_Mo_rewrite_1 rfl ?_
  refine z_iload_n d_Mo_rewrite_2 rfl ?_
  refine z_iload_n d_Mo_rewrite_3 rfl ?_
  refine z_lload_n d_Mo_rewrite_4 rfl ?_
  refine z_callV gt_good d_Mo_rewrite_5 zv_Mo_149 (zmo_m _ _ _ _) rfl (fun l => c_Mo_rewriting l g m ad N i n v hA hi hit) rfl rfl ⟨Nat.le_of_ble_eq_true rfl, Nat.le_of_ble_eq_true rfl⟩ (Nat.le_of_ble_eq_true rfl) (Nat.le_of_ble_eq_true rfl) (Nat.le_of_ble_eq_true rfl) ?_
  rintro _ _ ⟨rfl, rfl⟩
  refine z_callV gt_good d_Mo_rewrite_8 zv_Mo_120 (zmo_m _ _ _ _) rfl (fun l => c_Mo_answer l g m ad ((rwM N i n v).2) _ hA (by rw [rwM_nn]; omega) (by rw [rwM_nn]; omega)) rfl rfl ⟨Nat.le_of_ble_eq_true rfl, Nat.le_of_ble_eq_true rfl⟩ (Nat.le_of_ble_eq_true rfl) (Nat.le_of_ble_eq_true rfl) (Nat.le_of_ble_eq_true rfl) ?_
  rintro _ _ ⟨rfl, rfl⟩
  refine z_ireturn d_Mo_rewrite_11 rfl ?_ (by decide) (by decide)
  exact ⟨rfl, rfl⟩
set_option maxHeartbeats 4000000 in
set_option maxRecDepth 100000 in
theorem c_Mo_rewriteB (l : Launch) (g : ZG) (m : Nat) (ad : Nat → Nat) (N : NS) (q n : Int32) (v : Int64) (hA : zAd g.2.2.2.1 m ad) (hq : q < 0 ∨ 32 ≤ q) (hit : N.2.1 0 < 1100) (hbg : N.2.1 1 + 33 ≤ 4000) : ZC vcl tlx GT l g y_Mo_rewrite b_Mo_rewrite 5 (Option.some FieldType.int) (ZRm 4 0 0) [.ref m, .int q, .int n, .long v] (zmo g.2.2.2.1 m ad N) (fun r M' => r = some (.int (-2)) ∧ M' = zmo g.2.2.2.1 m ad (ansS N)) := by
  refine ZC.of (by decide) (Nat.le_of_ble_eq_true rfl) rfl (fun k0 hz0 => ?_)
  refine z_aload_n d_Mo_rewrite_0 rfl ?_
  refine z_aload_n d_Mo_rewrite_1 rfl ?_
  refine z_iload_n d_Mo_rewrite_2 rfl ?_
  refine z_iload_n d_Mo_rewrite_3 rfl ?_
  refine z_lload_n d_Mo_rewrite_4 rfl ?_
  refine z_callV gt_good d_Mo_rewrite_5 zv_Mo_149 (zmo_m _ _ _ _) rfl (fun l => c_Mo_rewritingB l g m ad N q n v hA hq) rfl rfl ⟨Nat.le_of_ble_eq_true rfl, Nat.le_of_ble_eq_true rfl⟩ (Nat.le_of_ble_eq_true rfl) (Nat.le_of_ble_eq_true rfl) (Nat.le_of_ble_eq_true rfl) ?_
  rintro _ _ ⟨rfl, rfl⟩
  refine z_callV gt_good d_Mo_rewrite_8 zv_Mo_120 (zmo_m _ _ _ _) rfl (fun l => c_Mo_answer l g m ad (N) _ hA (Nat.le_of_lt hit) (by omega)) rfl rfl ⟨Nat.le_of_ble_eq_true rfl, Nat.le_of_ble_eq_true rfl⟩ (Nat.le_of_ble_eq_true rfl) (Nat.le_of_ble_eq_true rfl) (Nat.le_of_ble_eq_true rfl) ?_
  rintro _ _ ⟨rfl, rfl⟩
  refine z_ireturn d_Mo_rewrite_11 rfl ?_ (by decide) (by decide)
  exact ⟨rfl, rfl⟩
set_option maxHeartbeats 4000000 in
set_option maxRecDepth 100000 in
theorem c_Mo_unit (l : Launch) (g : ZG) (m : Nat) (ad : Nat → Nat) (N : NS) (u c : Int32) (hA : zAd g.2.2.2.1 m ad) (hQ : moQ N) (hit : N.2.1 0 < 1100) (hbg : N.2.1 1 + 33 ≤ 4000) : ZC vcl tlx GT l g y_Mo_unit b_Mo_unit 3 (Option.some FieldType.int) (ZRm 4 0 0) [.ref m, .int u, .int c] (zmo g.2.2.2.1 m ad N) (fun r M' => r = some (.int (unM N u c).1) ∧ M' = zmo g.2.2.2.1 m ad (ansS (unM N u c).2)) := by
  refine ZC.of (by decide) (Nat.le_of_ble_eq_true rfl) rfl (fun k0 hz0 => ?_)
  refine z_aload_n d_Mo_unit_0 rfl ?_
  refine z_aload_n d_Mo_unit_1 rfl ?_
  refine z_iload_n d_Mo_unit_2 rfl ?_
  refine z_iload_n d_Mo_unit_3 rfl ?_
  refine z_callV gt_good d_Mo_unit_4 zv_Mo_162 (zmo_m _ _ _ _) rfl (fun l => c_Mo_unitEnds l g m ad N u c hA hit hQ) rfl rfl ⟨Nat.le_of_ble_eq_true rfl, Nat.le_of_ble_eq_true rfl⟩ (Nat.le_of_ble_eq_true rfl) (Nat.le_of_ble_eq_true rfl) (Nat.le_of_ble_eq_true rfl) ?_
  rintro _ _ ⟨rfl, rfl⟩
  refine z_callV gt_good d_Mo_unit_7 zv_Mo_120 (zmo_m _ _ _ _) rfl (fun l => c_Mo_answer l g m ad ((unM N u c).2) _ hA (by have := unM_nn N u c; omega) (by have := unM_nn N u c; omega)) rfl rfl ⟨Nat.le_of_ble_eq_true rfl, Nat.le_of_ble_eq_true rfl⟩ (Nat.le_of_ble_eq_true rfl) (Nat.le_of_ble_eq_true rfl) (Nat.le_of_ble_eq_true rfl) ?_
  rintro _ _ ⟨rfl, rfl⟩
  refine z_ireturn d_Mo_unit_10 rfl ?_ (by decide) (by decide)
  exact ⟨rfl, rfl⟩
