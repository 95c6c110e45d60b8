theorem take_erase (es : List Nat) {m : Nat} (h : m < es.length) : (es.take (m + 1)).eraseIdx m = es.take m := by
  rw [List.eraseIdx_eq_take_drop_succ, List.take_take, Nat.min_eq_left (by omega)]
  rw [List.drop_eq_nil_of_le (by rw [List.length_take]; omega), List.append_nil]
set_option maxHeartbeats 4000000 in
set_option maxRecDepth 100000 in
theorem lp_Qu_dropLast (g : ZG) (k : ZK) (R : Room) (post : Option Value → ZM → Prop) (n1 n2 : Nat) (M0 : ZM) (a la pa : Nat) (kd pe ho : Int32) (us : Int64) (ln tn : Int32) (tv : Int64) (tr : Value) (arr : Nat) (es : List Nat) (cap j : Nat) (ws : List Value) (s : Int32) (ha : M0 a = some (.inr (1, fQ la pa kd pe ho us ln tn tv tr))) (q1 : a ≠ la) (q2 : a ≠ arr) (q3 : pa ≠ la) (q4 : pa ≠ arr) (q5 : ∀ e ∈ es, e ≠ la ∧ e ≠ arr) (hp : M0 pa = some (.inl (1, ws))) (hc : cap ≤ 1000000) (hw : ws.length < 2 ^ 31) (hes : ∀ e ∈ es, ∃ x : Int64, M0 e = some (.inr (2, [.long x]))) (hf : 3 ≤ R.frames) (hlo : 90 ≤ R.locals) (h1 : n1 ≤ R.cells) (h2 : n2 ≤ R.slots)
  (hp1 : ∀ M : ZM, es.take j ≠ [] → ALr M g.2.2.2.1 la arr (es.take j) cap → (∀ x, x ≠ la → x ≠ arr → M x = M0 x) → post none M) (hp2 : ∀ M' : ZM, es.take j = [] → M' a = some (.inr (1, fQ la pa (-1) pe ho us ln tn tv tr)) → ALr M' g.2.2.2.1 la arr [] cap → M' pa = some (.inl (1, List.replicate ws.length (.int 0))) → (∀ x, x ≠ a → x ≠ la → x ≠ arr → x ≠ pa → M' x = M0 x) → post none M') : ∀ (d : Nat) (M : ZM), j + d ≤ es.length → ALr M g.2.2.2.1 la arr (es.take (j + d)) cap → (∀ x, x ≠ la → x ≠ arr → M x = M0 x) → ZW vcl tlx GT "MonitorQueues$Queue" b_Qu_dropLast 3 none "dropLast" R g k post [some (.ref a), some (.int s), some (.int (nI d))] 19 [] (M) n1 n2 := by
  intro d
  induction d with
  | zero =>
    intro M hd hl hk
    refine z_iload_n d_Qu_dropLast_19 rfl ?_
    refine z_if_le (tgt := 56) d_Qu_dropLast_20 (by decide) (fun h20 => ?_) (fun h20 => (h20 (by decide)).elim)
    refine t_Qu_dropLast g k R post n1 n2 M a la pa kd pe ho us ln tn tv tr arr (es.take j) cap ws _ _ (by rw [hk a q1 q2]; exact ha) hl (by rw [hk pa q3 q4]; exact hp) hc hw (by omega) (by omega) h1 h2 (fun he => hp1 M he hl hk) (fun M' he e1 e2 e3 e4 => hp2 M' he e1 e2 e3 (fun x x1 x2 x3 x4 => by rw [e4 x x1 x2 x3 x4, hk x x2 x3]))
  | succ d ih =>
    intro M hd hl hk
    obtain ⟨⟨mc, hla⟩, hr, hle, hz⟩ := id hl
    have hM : M a = some (.inr (1, fQ la pa kd pe ho us ln tn tv tr)) := by rw [hk a q1 q2]; exact ha
    have hlen : (es.take (j + (d + 1))).length = j + d + 1 := by rw [List.length_take]; omega
    refine z_iload_n d_Qu_dropLast_19 rfl ?_
    refine z_if_le (tgt := 56) d_Qu_dropLast_20 (by decide) (fun h20 => (nI_nle (Nat.succ_pos d) (by omega) h20).elim) (fun h20 => ?_)
    refine z_aload_n d_Qu_dropLast_23 rfl ?_
    refine z_get d_Qu_dropLast_24 zf_Qu_12 (hM) rfl ?_
    refine z_callV gt_good d_Qu_dropLast_27 zv_Qu_67 (hla) rfl (fun l => c_AL_isEmpty l g M la arr (nI (es.take (j + (d + 1))).length) mc hla) rfl rfl ⟨by show 0 + 1 ≤ _; omega, by show 8 + (1 + 11) + 0 ≤ _; omega⟩ (Nat.le_of_ble_eq_true rfl) (by simpa using h1) (by simpa using h2) ?_
    rintro _ _ ⟨rfl, rfl⟩
    refine z_if_ne (tgt := 56) d_Qu_dropLast_30 (by decide) (fun h30 => (h30 (if_neg (nI_ne0 (by omega) (by omega)))).elim) (fun h30 => ?_)
    refine z_aload_n d_Qu_dropLast_33 rfl ?_
    refine z_get d_Qu_dropLast_34 zf_Qu_12 (hM) rfl ?_
    refine z_aload_n d_Qu_dropLast_37 rfl ?_
    refine z_get d_Qu_dropLast_38 zf_Qu_12 (hM) rfl ?_
    refine z_callV gt_good d_Qu_dropLast_41 zv_Qu_33 (hla) rfl (fun l => c_AL_size l g M la arr (nI (es.take (j + (d + 1))).length) mc hla) rfl rfl ⟨by show 0 + 1 ≤ _; omega, by show 8 + (1 + 11) + 0 ≤ _; omega⟩ (Nat.le_of_ble_eq_true rfl) (by simpa using h1) (by simpa using h2) ?_
    rintro _ _ ⟨rfl, rfl⟩
    refine z_iconst (v := 1) d_Qu_dropLast_44 (by decide) ?_
    refine z_isub d_Qu_dropLast_45 ?_
    rw [hlen, nI_pred]
    refine z_callV gt_good d_Qu_dropLast_46 zv_Qu_83 (hla) rfl (fun l => c_AL_remove l g M la arr (j + d) (es.take (j + (d + 1))) cap hl hc (fun e he => by obtain ⟨x, hx⟩ := hes e (List.mem_of_mem_take he); obtain ⟨y1, y2⟩ := q5 e (List.mem_of_mem_take he); exact (zObj.it hx).kept (hk e y1 y2)) (by omega)) rfl rfl ⟨by show 2 + 1 ≤ _; omega, by show 8 + (4 + 11) + 60 ≤ _; omega⟩ (Nat.le_of_ble_eq_true rfl) (by simpa using h1) (by simpa using h2) ?_
    rintro _ M1 ⟨rfl, hl1, hk1⟩
    refine z_pop d_Qu_dropLast_49 rfl ?_
    refine z_iinc (v := nI d) d_Qu_dropLast_50 rfl (pk_m1 d) (by decide) rfl ?_
    refine z_goto (tgt := 19) d_Qu_dropLast_53 (by decide) ?_
    rw [show j + (d + 1) = j + d + 1 by omega, take_erase es (by omega)] at hl1
    exact ih M1 (by omega) hl1 (fun x x1 x2 => by rw [hk1 x x1 x2, hk x x1 x2])
set_option maxHeartbeats 4000000 in
set_option maxRecDepth 100000 in
theorem c_Qu_dropLast (l : Launch) (g : ZG) (M : ZM) (a la pa : Nat) (kd pe ho : Int32) (us : Int64) (ln tn : Int32) (tv : Int64) (tr : Value) (arr : Nat) (es : List Nat) (cap : Nat) (ws : List Value) (d : Nat) (ha : M a = some (.inr (1, fQ la pa kd pe ho us ln tn tv tr))) (hl : ALr M g.2.2.2.1 la arr es cap) (hp : M pa = some (.inl (1, ws))) (hc : cap ≤ 1000000) (hw : ws.length < 2 ^ 31) (hes : ∀ e ∈ es, ∃ x : Int64, M e = some (.inr (2, [.long x]))) (hd : d ≤ es.length) : ZC vcl tlx GT l g y_Qu_dropLast b_Qu_dropLast 3 none (ZRm 3 0 0) [.ref a, .int (nI d)] M (fun r M' => r = none ∧ M' a = some (.inr (1, fQ la pa (if es.length = d then -1 else kd) pe ho us (if kTrans kd then ln - nI d else ln) tn tv tr)) ∧ ALr M' g.2.2.2.1 la arr (es.take (es.length - d)) cap ∧ M' pa = some (.inl (1, if es.length = d then List.replicate ws.length (.int 0) else ws)) ∧ ∀ x, x ≠ a → x ≠ la → x ≠ arr → x ≠ pa → M' x = M x) := by
  refine ZC.of (by decide) (Nat.le_of_ble_eq_true rfl) rfl (fun k hz0 => ?_)
  obtain ⟨⟨mc, hla⟩, hr, hle, hz⟩ := id hl
  have q1 : a ≠ la := zne ha hla (by intro h; cases h)
  have q2 : a ≠ arr := zne ha hr (by intro h; cases h)
  have q3 : pa ≠ la := zne hp hla (by intro h; cases h)
  have q4 : pa ≠ arr := zne hp hr (by simp)
  have q6 : a ≠ pa := zne ha hp (by intro h; cases h)
  have q5 : ∀ e ∈ es, e ≠ la ∧ e ≠ arr := fun e he => by obtain ⟨x, hx⟩ := hes e he; exact ⟨zne hx hla (by simp), zne hx hr (by intro h; cases h)⟩
  have q7 : ∀ e ∈ es, a ≠ e := fun e he => by obtain ⟨x, hx⟩ := hes e he; exact zne ha hx (by intro h; cases h)
  have hj : es.length - d + d = es.length := by omega
  have htk : es.take (es.length - d + d) = es := by rw [hj]; exact List.take_length
  have hnil : es.take (es.length - d) = [] ↔ es.length = d := by
    rw [List.take_eq_nil_iff]
    constructor
    · rintro (h | h)
      · omega
      · rw [h] at hd ⊢
        simp at hd ⊢
        omega
    · intro h
      left
      omega
  refine z_aload_n d_Qu_dropLast_0 rfl ?_
  refine z_callV gt_good d_Qu_dropLast_1 zv_Qu_60 (ha) rfl (fun l => c_Qu_isTransient l g M a la pa kd pe ho us ln tn tv tr ha) rfl rfl ⟨Nat.le_of_ble_eq_true rfl, Nat.le_of_ble_eq_true rfl⟩ (Nat.le_of_ble_eq_true rfl) (Nat.le_of_ble_eq_true rfl) (Nat.le_of_ble_eq_true rfl) ?_
  rintro _ _ ⟨rfl, rfl⟩
  refine z_if_eq (tgt := 17) d_Qu_dropLast_4 (by decide) (fun h4 => ?_) (fun h4 => ?_)
  · skip
    have hkt := zif0 h4
    refine z_iload_n d_Qu_dropLast_17 rfl ?_
    refine z_istore_n (i := 2) d_Qu_dropLast_18 rfl (by decide) rfl ?_
    refine lp_Qu_dropLast g k _ _ _ _ (M) a la pa kd pe ho us ln tn tv tr arr es cap (es.length - d) ws _ ha q1 q2 q3 q4 q5 (hp) hc hw (hes) (Nat.le_of_ble_eq_true rfl) (Nat.le_of_ble_eq_true rfl) (by simp) (by simp) (fun M1 he hl1 hk1 => ?_) (fun M1 he e1 e2 e3 e4 => ?_) d (M) (by omega) (by rw [htk]; exact hl.kept rfl rfl) (fun _ _ _ => rfl)
    · have hne : ¬ es.length = d := fun e => he (hnil.mpr e)
      refine ⟨rfl, ?_, hl1, ?_, fun x x1 x2 x3 x4 => by rw [hk1 x x2 x3]⟩
      · rw [hk1 a q1 q2, if_neg hne, if_neg hkt]; exact ha
      · rw [hk1 pa q3 q4, if_neg hne]; exact hp
    · have hye : es.length = d := hnil.mp he
      refine ⟨rfl, ?_, by rw [he]; exact e2, by rw [if_pos hye]; exact e3, fun x x1 x2 x3 x4 => by rw [e4 x x1 x2 x3 x4]⟩
      rw [if_pos hye, if_neg hkt]; exact e1
    skip
  · skip
    have hkt := zif1 h4
    refine z_aload_n d_Qu_dropLast_7 rfl ?_
    refine z_dup d_Qu_dropLast_8 rfl ?_
    refine z_get d_Qu_dropLast_9 zf_Qu_64 (ha) rfl ?_
    refine z_iload_n d_Qu_dropLast_12 rfl ?_
    refine z_isub d_Qu_dropLast_13 ?_
    refine z_put d_Qu_dropLast_14 zp_Qu_64 (ha) rfl rfl ?_
    refine z_iload_n d_Qu_dropLast_17 rfl ?_
    refine z_istore_n (i := 2) d_Qu_dropLast_18 rfl (by decide) rfl ?_
    refine lp_Qu_dropLast g k _ _ _ _ (zset M a (.inr (1, fQ la pa kd pe ho us (ln - nI d) tn tv tr))) a la pa kd pe ho us (ln - nI d) tn tv tr arr es cap (es.length - d) ws _ (zset_self _ _ _) q1 q2 q3 q4 q5 (by rw [zset_ne (Ne.symm q6)]; exact hp) hc hw (fun e he => by rw [zset_ne (Ne.symm (q7 e he))]; exact hes e he) (Nat.le_of_ble_eq_true rfl) (Nat.le_of_ble_eq_true rfl) (by simp) (by simp) (fun M1 he hl1 hk1 => ?_) (fun M1 he e1 e2 e3 e4 => ?_) d (zset M a (.inr (1, fQ la pa kd pe ho us (ln - nI d) tn tv tr))) (by omega) (by rw [htk]; exact hl.kept (zset_ne (Ne.symm q1)) (zset_ne (Ne.symm q2))) (fun _ _ _ => rfl)
    · have hne : ¬ es.length = d := fun e => he (hnil.mpr e)
      refine ⟨rfl, ?_, hl1, ?_, fun x x1 x2 x3 x4 => by rw [hk1 x x2 x3, zset_ne x1]⟩
      · rw [hk1 a q1 q2, if_neg hne, if_pos hkt]; exact zset_self _ _ _
      · rw [hk1 pa q3 q4, if_neg hne, zset_ne (Ne.symm q6)]; exact hp
    · have hye : es.length = d := hnil.mp he
      refine ⟨rfl, ?_, by rw [he]; exact e2, by rw [if_pos hye]; exact e3, fun x x1 x2 x3 x4 => by rw [e4 x x1 x2 x3 x4, zset_ne x1]⟩
      rw [if_pos hye, if_pos hkt]; exact e1
set_option maxHeartbeats 4000000 in
set_option maxRecDepth 100000 in
theorem c_Qu_endPending (l : Launch) (g : ZG) (M : ZM) (a la pa : Nat) (kd ho : Int32) (us : Int64) (ln tn : Int32) (tv : Int64) (tr : Value) (arr : Nat) (es : List Nat) (cap : Nat) (ws : List Value) (d : Nat) (c : Int32) (ha : M a = some (.inr (1, fQ la pa kd (nI d) ho us ln tn tv tr))) (hl : ALr M g.2.2.2.1 la arr es cap) (hp : M pa = some (.inl (1, ws))) (hc : cap ≤ 1000000) (hw : ws.length < 2 ^ 31) (hes : ∀ e ∈ es, ∃ x : Int64, M e = some (.inr (2, [.long x]))) (hd : d ≤ es.length) : ZC vcl tlx GT l g y_Qu_endPending b_Qu_endPending 3 (Option.some FieldType.int) (ZRm 4 0 0) [.ref a, .int c] M (fun r M' => r = some (.int (nI d)) ∧ M' a = some (.inr (1, fQ la pa (if c = 0 ∧ es.length = d then -1 else kd) 0 ho us (if c = 0 ∧ kTrans kd then ln - nI d else ln) tn tv tr)) ∧ ALr M' g.2.2.2.1 la arr (if c = 0 then es.take (es.length - d) else es) cap ∧ M' pa = some (.inl (1, if c = 0 ∧ es.length = d then List.replicate ws.length (.int 0) else ws)) ∧ ∀ x, x ≠ a → x ≠ la → x ≠ arr → x ≠ pa → M' x = M x) := by
  refine ZC.of (by decide) (Nat.le_of_ble_eq_true rfl) rfl (fun k hz0 => ?_)
  obtain ⟨⟨mc, hla⟩, hr, hle, hz⟩ := id hl
  have q1 : a ≠ la := zne ha hla (by intro h; cases h)
  have q2 : a ≠ arr := zne ha hr (by intro h; cases h)
  have q6 : a ≠ pa := zne ha hp (by intro h; cases h)
  have q7 : ∀ e ∈ es, a ≠ e := fun e he => by obtain ⟨x, hx⟩ := hes e he; exact zne ha hx (by intro h; cases h)
  refine z_aload_n d_Qu_endPending_0 rfl ?_
  refine z_get d_Qu_endPending_1 zf_Qu_30 (ha) rfl ?_
  refine z_istore_n (i := 2) d_Qu_endPending_4 rfl (by decide) rfl ?_
  refine z_aload_n d_Qu_endPending_5 rfl ?_
  refine z_iconst (v := 0) d_Qu_endPending_6 (by decide) ?_
  refine z_put d_Qu_endPending_7 zp_Qu_30 (ha) rfl rfl ?_
  refine z_iload_n d_Qu_endPending_10 rfl ?_
  refine z_if_ne (tgt := 19) d_Qu_endPending_11 (by decide) (fun h11 => ?_) (fun h11 => ?_)
  · skip
    refine z_iload_n d_Qu_endPending_19 rfl ?_
    refine z_ireturn d_Qu_endPending_20 rfl ?_ (by decide) (by decide)
    first
      | exact ⟨rfl, by simp [h11]; exact e1, by simp [h11]; exact e2, by simp [h11]; exact e3, fun x x1 x2 x3 x4 => by rw [e4 x x1 x2 x3 x4, zset_ne x1]⟩
      | exact ⟨rfl, by simp [h11, zset_self], by simp [h11]; exact hl.kept (zset_ne (Ne.symm q1)) (zset_ne (Ne.symm q2)), by simp [h11]; rw [zset_ne (Ne.symm q6)]; exact hp, fun x x1 x2 x3 x4 => zset_ne x1⟩
  · skip
    refine z_aload_n d_Qu_endPending_14 rfl ?_
    refine z_iload_n d_Qu_endPending_15 rfl ?_
    refine z_callV gt_good d_Qu_endPending_16 zv_Qu_95 (zset_self _ _ _) rfl (fun l => c_Qu_dropLast l g _ a la pa kd 0 ho us ln tn tv tr arr es cap ws d (zset_self _ _ _) (hl.kept (zset_ne (Ne.symm q1)) (zset_ne (Ne.symm q2))) (by rw [zset_ne (Ne.symm q6)]; exact hp) hc hw (fun e he => by rw [zset_ne (Ne.symm (q7 e he))]; exact hes e he) hd) rfl rfl ⟨Nat.le_of_ble_eq_true rfl, Nat.le_of_ble_eq_true rfl⟩ (Nat.le_of_ble_eq_true rfl) (Nat.le_of_ble_eq_true rfl) (Nat.le_of_ble_eq_true rfl) ?_
    rintro _ M1 ⟨rfl, e1, e2, e3, e4⟩
    refine z_iload_n d_Qu_endPending_19 rfl ?_
    refine z_ireturn d_Qu_endPending_20 rfl ?_ (by decide) (by decide)
    first
      | exact ⟨rfl, by simp [h11]; exact e1, by simp [h11]; exact e2, by simp [h11]; exact e3, fun x x1 x2 x3 x4 => by rw [e4 x x1 x2 x3 x4, zset_ne x1]⟩
      | exact ⟨rfl, by simp [h11, zset_self], by simp [h11]; exact hl.kept (zset_ne (Ne.symm q1)) (zset_ne (Ne.symm q2)), by simp [h11]; rw [zset_ne (Ne.symm q6)]; exact hp, fun x x1 x2 x3 x4 => zset_ne x1⟩
