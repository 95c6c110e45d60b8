set_option maxHeartbeats 4000000 in
set_option maxRecDepth 100000 in
theorem t_Qu_removeFirst (g : ZG) (k : ZK) (R : Room) (post : Option Value → ZM → Prop) (n1 n2 : Nat) (M : ZM) (a la pa : Nat) (kd pe ho : Int32) (us : Int64) (ln tn : Int32) (tv : Int64) (tr : Value) (arr : Nat) (es : List Nat) (cap : Nat) (ws : List Value)  (ha : M a = some (.inr (1, fQ la pa kd pe ho us ln tn tv tr))) (hl : ALr M g.2.2.2.1 la arr es cap) (hp : M pa = some (.inl (1, ws))) (hc : cap ≤ 1000000) (hw : ws.length < 2 ^ 31) (hf : 2 ≤ R.frames) (hlo : 60 ≤ R.locals) (h1 : n1 ≤ R.cells) (h2 : n2 ≤ R.slots) (hp1 : es ≠ [] → post (some (.int tn)) M) (hp2 : ∀ M' : ZM, es = [] → M' a = some (.inr (1, fQ la pa (-1) pe ho us ln tn tv tr)) → ALr M' g.2.2.2.1 la arr [] cap → M' pa = some (.inl (1, List.replicate ws.length (.int 0))) → (∀ x, x ≠ a → x ≠ la → x ≠ arr → x ≠ pa → M' x = M x) → post (some (.int tn)) M') : ZW vcl tlx GT "MonitorQueues$Queue" b_Qu_removeFirst 1 (Option.some FieldType.int) "removeFirst" R g k post [some (.ref a)] 73 [] (M) n1 n2 := by
  obtain ⟨⟨mc, hla⟩, hr, hle, hz⟩ := id hl
  refine z_aload_n d_Qu_removeFirst_73 rfl ?_
  refine z_get d_Qu_removeFirst_74 zf_Qu_12 (ha) rfl ?_
  refine z_callV gt_good d_Qu_removeFirst_77 zv_Qu_67 (hla) rfl (fun l => c_AL_isEmpty l g M la arr (nI es.length) mc hla) rfl rfl ⟨by show 0 + 1 ≤ _; omega, by show 8 + (1 + 11) + 0 ≤ _; omega⟩ (Nat.le_of_ble_eq_true rfl) (by simpa using h1) (by simpa using h2) ?_
  rintro _ _ ⟨rfl, rfl⟩
  refine z_if_eq (tgt := 87) d_Qu_removeFirst_80 (by decide) (fun h80 => ?_) (fun h80 => ?_)
  · skip
    have hem : ¬ es.length = 0 := fun e => zif0 h80 (by rw [e]; rfl)
    refine z_aload_n d_Qu_removeFirst_87 rfl ?_
    refine z_get d_Qu_removeFirst_88 zf_Qu_70 (by first | exact ha | exact e1) rfl ?_
    refine z_ireturn d_Qu_removeFirst_91 rfl ?_ (by simpa using h1) (by simpa using h2)
    first | exact hp1 (fun e => by rw [e] at hem; exact hem rfl) | exact hp2 M1 (List.length_eq_zero_iff.mp hem) e1 e2 e3 e4
  · skip
    have hem : es.length = 0 := (nI_eq (by omega) (by decide)).mp (zif1 h80)
    refine z_aload_n d_Qu_removeFirst_83 rfl ?_
    refine z_callV gt_good d_Qu_removeFirst_84 zv_Qu_92 (ha) rfl (fun l => c_Qu_becomeEmpty l g M a la pa kd pe ho us ln tn tv tr arr es cap ws ha hl hp hc hw) rfl rfl ⟨by show 1 + 1 ≤ _; omega, by show 8 + (1 + 11) + 30 ≤ _; omega⟩ (Nat.le_of_ble_eq_true rfl) (by simpa using h1) (by simpa using h2) ?_
    rintro _ M1 ⟨rfl, e1, e2, e3, e4⟩
    refine z_aload_n d_Qu_removeFirst_87 rfl ?_
    refine z_get d_Qu_removeFirst_88 zf_Qu_70 (by first | exact ha | exact e1) rfl ?_
    refine z_ireturn d_Qu_removeFirst_91 rfl ?_ (by simpa using h1) (by simpa using h2)
    first | exact hp1 (fun e => by rw [e] at hem; exact hem rfl) | exact hp2 M1 (List.length_eq_zero_iff.mp hem) e1 e2 e3 e4
set_option maxHeartbeats 4000000 in
set_option maxRecDepth 100000 in
theorem t_Qu_dropLast (g : ZG) (k : ZK) (R : Room) (post : Option Value → ZM → Prop) (n1 n2 : Nat) (M : ZM) (a la pa : Nat) (kd pe ho : Int32) (us : Int64) (ln tn : Int32) (tv : Int64) (tr : Value) (arr : Nat) (es : List Nat) (cap : Nat) (ws : List Value) (lo1 lo2 : Option Value) (ha : M a = some (.inr (1, fQ la pa kd pe ho us ln tn tv tr))) (hl : ALr M g.2.2.2.1 la arr es cap) (hp : M pa = some (.inl (1, ws))) (hc : cap ≤ 1000000) (hw : ws.length < 2 ^ 31) (hf : 2 ≤ R.frames) (hlo : 60 ≤ R.locals) (h1 : n1 ≤ R.cells) (h2 : n2 ≤ R.slots) (hp1 : es ≠ [] → post none M) (hp2 : ∀ M' : ZM, es = [] → M' a = some (.inr (1, fQ la pa (-1) pe ho us ln tn tv tr)) → ALr M' g.2.2.2.1 la arr [] cap → M' pa = some (.inl (1, List.replicate ws.length (.int 0))) → (∀ x, x ≠ a → x ≠ la → x ≠ arr → x ≠ pa → M' x = M x) → post none M') : ZW vcl tlx GT "MonitorQueues$Queue" b_Qu_dropLast 3 none "dropLast" R g k post [some (.ref a), lo1, lo2] 56 [] (M) n1 n2 := by
  obtain ⟨⟨mc, hla⟩, hr, hle, hz⟩ := id hl
  refine z_aload_n d_Qu_dropLast_56 rfl ?_
  refine z_get d_Qu_dropLast_57 zf_Qu_12 (ha) rfl ?_
  refine z_callV gt_good d_Qu_dropLast_60 zv_Qu_67 (hla) rfl (fun l => c_AL_isEmpty l g M la arr (nI es.length) mc hla) rfl rfl ⟨by show 0 + 1 ≤ _; omega, by show 8 + (1 + 11) + 0 ≤ _; omega⟩ (Nat.le_of_ble_eq_true rfl) (by simpa using h1) (by simpa using h2) ?_
  rintro _ _ ⟨rfl, rfl⟩
  refine z_if_eq (tgt := 70) d_Qu_dropLast_63 (by decide) (fun h63 => ?_) (fun h63 => ?_)
  · skip
    have hem : ¬ es.length = 0 := fun e => zif0 h63 (by rw [e]; rfl)
    refine z_return d_Qu_dropLast_70 rfl ?_ (by simpa using h1) (by simpa using h2)
    first | exact hp1 (fun e => by rw [e] at hem; exact hem rfl) | exact hp2 M1 (List.length_eq_zero_iff.mp hem) e1 e2 e3 e4
  · skip
    have hem : es.length = 0 := (nI_eq (by omega) (by decide)).mp (zif1 h63)
    refine z_aload_n d_Qu_dropLast_66 rfl ?_
    refine z_callV gt_good d_Qu_dropLast_67 zv_Qu_92 (ha) rfl (fun l => c_Qu_becomeEmpty l g M a la pa kd pe ho us ln tn tv tr arr es cap ws ha hl hp hc hw) rfl rfl ⟨by show 1 + 1 ≤ _; omega, by show 8 + (1 + 11) + 30 ≤ _; omega⟩ (Nat.le_of_ble_eq_true rfl) (by simpa using h1) (by simpa using h2) ?_
    rintro _ M1 ⟨rfl, e1, e2, e3, e4⟩
    refine z_return d_Qu_dropLast_70 rfl ?_ (by simpa using h1) (by simpa using h2)
    first | exact hp1 (fun e => by rw [e] at hem; exact hem rfl) | exact hp2 M1 (List.length_eq_zero_iff.mp hem) e1 e2 e3 e4
set_option maxHeartbeats 4000000 in
set_option maxRecDepth 100000 in
theorem c_Qu_removeFirstN (l : Launch) (g : ZG) (M : ZM) (a la pa : Nat) (kd pe ho : Int32) (us : Int64) (ln tn : Int32) (tv : Int64) (arr e0 : Nat) (es : List Nat) (cap : Nat) (ws : List Value) (v0 : Int64) (ha : M a = some (.inr (1, fQ la pa kd pe ho us ln tn tv .null))) (hl : ALr M g.2.2.2.1 la arr (e0 :: es) cap) (hp : M pa = some (.inl (1, ws))) (hc : cap ≤ 1000000) (hw : ws.length < 2 ^ 31) (hes : ∀ e ∈ e0 :: es, ∃ x : Int64, M e = some (.inr (2, [.long x]))) (h0 : M e0 = some (.inr (2, [.long v0]))) : ZC vcl tlx GT l g y_Qu_removeFirst b_Qu_removeFirst 1 (Option.some FieldType.int) (ZRm 3 0 0) [.ref a] M (fun r M' => r = some (.int (ln - nI (e0 :: es).length + 1)) ∧ M' a = some (.inr (1, fQ la pa (if es = [] then -1 else kd) pe ho us ln (ln - nI (e0 :: es).length + 1) v0 .null)) ∧ ALr M' g.2.2.2.1 la arr es cap ∧ M' pa = some (.inl (1, if es = [] then List.replicate ws.length (.int 0) else ws)) ∧ (∀ x, x ≠ a → x ≠ la → x ≠ arr → x ≠ pa → M' x = M x)) := by
  refine ZC.of (by decide) (Nat.le_of_ble_eq_true rfl) rfl (fun k hz0 => ?_)
  have hln : (e0 :: es).length = es.length + 1 := rfl
  obtain ⟨⟨mc, hla⟩, hr, hle, hz⟩ := id hl
  have n1 : a ≠ la := zne ha hla (by intro h; cases h)
  have n2 : a ≠ arr := zne ha hr (by intro h; cases h)
  have n3 : pa ≠ la := zne hp hla (by intro h; cases h)
  have n4 : pa ≠ arr := zne hp hr (by simp)
  have n5 : a ≠ pa := zne ha hp (by intro h; cases h)
  obtain ⟨v0', hv0'⟩ := hes e0 List.mem_cons_self
  have n6 : ∀ e ∈ e0 :: es, a ≠ e := fun e he => by obtain ⟨x, hx⟩ := hes e he; exact zne ha hx (by intro h; cases h)
  refine z_aload_n d_Qu_removeFirst_0 rfl ?_
  refine z_get d_Qu_removeFirst_1 zf_Qu_12 (ha) rfl ?_
  refine z_callV gt_good d_Qu_removeFirst_4 zv_Qu_67 (hla) rfl (fun l => c_AL_isEmpty l g M la arr (nI (e0 :: es).length) mc hla) rfl rfl ⟨Nat.le_of_ble_eq_true rfl, Nat.le_of_ble_eq_true rfl⟩ (Nat.le_of_ble_eq_true rfl) (Nat.le_of_ble_eq_true rfl) (Nat.le_of_ble_eq_true rfl) ?_
  rintro _ _ ⟨rfl, rfl⟩
  refine z_if_eq (tgt := 13) d_Qu_removeFirst_7 (by decide) (fun h7 => ?_) (fun h7 => False.elim (h7 (if_neg (nI_ne0 (by omega) (by omega)))))
  refine z_aload_n d_Qu_removeFirst_13 rfl ?_
  refine z_aload_n d_Qu_removeFirst_14 rfl ?_
  refine z_get d_Qu_removeFirst_15 zf_Qu_64 (ha) rfl ?_
  refine z_aload_n d_Qu_removeFirst_18 rfl ?_
  refine z_get d_Qu_removeFirst_19 zf_Qu_12 (ha) rfl ?_
  refine z_callV gt_good d_Qu_removeFirst_22 zv_Qu_33 (hla) rfl (fun l => c_AL_size l g M la arr (nI (e0 :: es).length) mc hla) rfl rfl ⟨Nat.le_of_ble_eq_true rfl, Nat.le_of_ble_eq_true rfl⟩ (Nat.le_of_ble_eq_true rfl) (Nat.le_of_ble_eq_true rfl) (Nat.le_of_ble_eq_true rfl) ?_
  rintro _ _ ⟨rfl, rfl⟩
  refine z_isub d_Qu_removeFirst_25 ?_
  refine z_iconst (v := 1) d_Qu_removeFirst_26 (by decide) ?_
  refine z_iadd d_Qu_removeFirst_27 ?_
  refine z_put d_Qu_removeFirst_28 zp_Qu_70 (ha) rfl rfl ?_
  refine z_aload_n d_Qu_removeFirst_31 rfl ?_
  refine z_aload_n d_Qu_removeFirst_32 rfl ?_
  refine z_get d_Qu_removeFirst_33 zf_Qu_12 (zset_self _ _ _) rfl ?_
  refine z_iconst (v := 0) d_Qu_removeFirst_36 (by decide) ?_
  refine z_callV gt_good d_Qu_removeFirst_37 zv_Qu_73 (by rw [zset_ne (Ne.symm n1)]; exact hla) rfl (fun l => c_AL_get l g _ la arr (e0 :: es).length mc _ 0 e0 (by rw [zset_ne (Ne.symm n1)]; exact hla) (by rw [zset_ne (Ne.symm n2)]; exact hr) (by omega) (by omega) rfl) rfl rfl ⟨Nat.le_of_ble_eq_true rfl, Nat.le_of_ble_eq_true rfl⟩ (Nat.le_of_ble_eq_true rfl) (Nat.le_of_ble_eq_true rfl) (Nat.le_of_ble_eq_true rfl) ?_
  rintro _ _ ⟨rfl, rfl⟩
  refine z_cast (ci := 2) d_Qu_removeFirst_40 gw_202 (by rw [zset_ne (Ne.symm (n6 e0 List.mem_cons_self))]; exact h0) rfl rfl ?_
  refine z_get d_Qu_removeFirst_43 zf_Qu_77 (by rw [zset_ne (Ne.symm (n6 e0 List.mem_cons_self))]; exact h0) rfl ?_
  refine z_put d_Qu_removeFirst_46 zp_Qu_80 (zset_self _ _ _) rfl rfl ?_
  refine z_aload_n d_Qu_removeFirst_49 rfl ?_
  refine z_get d_Qu_removeFirst_50 zf_Qu_12 (zset_self _ _ _) rfl ?_
  refine z_iconst (v := 0) d_Qu_removeFirst_53 (by decide) ?_
  rw [zset_zset]
  refine z_callV gt_good d_Qu_removeFirst_54 zv_Qu_83 (by rw [zset_ne (Ne.symm n1)]; exact hla) rfl (fun l => c_AL_remove l g (zset M a (.inr (1, fQ la pa kd pe ho us ln (ln - nI (e0 :: es).length + 1) v0 .null))) la arr 0 (e0 :: es) cap (hl.kept (zset_ne (Ne.symm n1)) (zset_ne (Ne.symm n2))) hc (fun e he => by obtain ⟨x, hx⟩ := hes e he; exact (zObj.it hx).kept (zset_ne (Ne.symm (n6 e he)))) (by omega)) rfl rfl ⟨Nat.le_of_ble_eq_true rfl, Nat.le_of_ble_eq_true rfl⟩ (Nat.le_of_ble_eq_true rfl) (Nat.le_of_ble_eq_true rfl) (Nat.le_of_ble_eq_true rfl) ?_
  rintro _ M3 ⟨rfl, hl3, hk3⟩
  have h3a : M3 a = some (.inr (1, fQ la pa kd pe ho us ln (ln - nI (e0 :: es).length + 1) v0 .null)) := by rw [hk3 a n1 n2, zset_self]
  refine z_pop d_Qu_removeFirst_57 rfl ?_
  refine z_aload_n d_Qu_removeFirst_58 rfl ?_
  refine z_get d_Qu_removeFirst_59 zf_Qu_37 (h3a) rfl ?_
  refine z_ifnullN (tgt := 73) d_Qu_removeFirst_62 (by decide) ?_
  refine t_Qu_removeFirst g k _ _ _ _ M3 a la pa kd pe ho us ln (ln - nI (e0 :: es).length + 1) v0 .null arr es cap ws h3a ?_ ?_ hc hw (Nat.le_of_ble_eq_true rfl) (Nat.le_of_ble_eq_true rfl) (by simp) (by simp) (fun he => ?_) (fun M' he e1 e2 e3 e4 => ?_)
  · exact hl3
  · rw [hk3 pa n3 n4, zset_ne (Ne.symm n5)]; exact hp
  · exact ⟨rfl, by rw [if_neg he]; exact h3a, hl3, by rw [if_neg he, hk3 pa n3 n4, zset_ne (Ne.symm n5)]; exact hp, fun x x1 x2 x3 x4 => by rw [hk3 x x2 x3, zset_ne x1]⟩
  · exact ⟨rfl, by rw [if_pos he]; exact e1, by rw [he]; exact e2, by rw [if_pos he]; exact e3, fun x x1 x2 x3 x4 => by rw [e4 x x1 x2 x3 x4, hk3 x x2 x3, zset_ne x1]⟩
set_option maxHeartbeats 4000000 in
set_option maxRecDepth 100000 in
theorem c_Qu_removeFirstR (l : Launch) (g : ZG) (M : ZM) (a la pa : Nat) (kd pe ho : Int32) (us : Int64) (ln tn : Int32) (tv : Int64) (t : Nat) (d0 d1 d2 d3 d4 : Value) (arr e0 : Nat) (es : List Nat) (cap : Nat) (ws : List Value) (v0 : Int64) (ha : M a = some (.inr (1, fQ la pa kd pe ho us ln tn tv (.ref t)))) (hl : ALr M g.2.2.2.1 la arr (e0 :: es) cap) (hp : M pa = some (.inl (1, ws))) (hc : cap ≤ 1000000) (hw : ws.length < 2 ^ 31) (hes : ∀ e ∈ e0 :: es, ∃ x : Int64, M e = some (.inr (2, [.long x]))) (h0 : M e0 = some (.inr (2, [.long v0]))) (ht : M t = some (.inr (4, [d0, d1, d2, d3, d4]))) : ZC vcl tlx GT l g y_Qu_removeFirst b_Qu_removeFirst 1 (Option.some FieldType.int) (ZRm 3 0 0) [.ref a] M (fun r M' => r = some (.int (ln - nI (e0 :: es).length + 1)) ∧ M' a = some (.inr (1, fQ la pa (if es = [] then -1 else kd) pe ho us ln (ln - nI (e0 :: es).length + 1) v0 (.ref t))) ∧ ALr M' g.2.2.2.1 la arr es cap ∧ M' pa = some (.inl (1, if es = [] then List.replicate ws.length (.int 0) else ws)) ∧ M' t = some (.inr (4, [d0, d1, d2, d3, .int 1])) ∧ (∀ x, x ≠ a → x ≠ la → x ≠ arr → x ≠ pa → x ≠ t → M' x = M x)) := by
  refine ZC.of (by decide) (Nat.le_of_ble_eq_true rfl) rfl (fun k hz0 => ?_)
  have hln : (e0 :: es).length = es.length + 1 := rfl
  obtain ⟨⟨mc, hla⟩, hr, hle, hz⟩ := id hl
  have n1 : a ≠ la := zne ha hla (by intro h; cases h)
  have n2 : a ≠ arr := zne ha hr (by intro h; cases h)
  have n3 : pa ≠ la := zne hp hla (by intro h; cases h)
  have n4 : pa ≠ arr := zne hp hr (by simp)
  have n5 : a ≠ pa := zne ha hp (by intro h; cases h)
  obtain ⟨v0', hv0'⟩ := hes e0 List.mem_cons_self
  have n6 : ∀ e ∈ e0 :: es, a ≠ e := fun e he => by obtain ⟨x, hx⟩ := hes e he; exact zne ha hx (by intro h; cases h)
  have m1 : t ≠ a := zne ht ha (by simp)
  have m2 : t ≠ la := zne ht hla (by simp)
  have m3 : t ≠ arr := zne ht hr (by intro h; cases h)
  have m4 : t ≠ pa := zne ht hp (by intro h; cases h)
  refine z_aload_n d_Qu_removeFirst_0 rfl ?_
  refine z_get d_Qu_removeFirst_1 zf_Qu_12 (ha) rfl ?_
  refine z_callV gt_good d_Qu_removeFirst_4 zv_Qu_67 (hla) rfl (fun l => c_AL_isEmpty l g M la arr (nI (e0 :: es).length) mc hla) rfl rfl ⟨Nat.le_of_ble_eq_true rfl, Nat.le_of_ble_eq_true rfl⟩ (Nat.le_of_ble_eq_true rfl) (Nat.le_of_ble_eq_true rfl) (Nat.le_of_ble_eq_true rfl) ?_
  rintro _ _ ⟨rfl, rfl⟩
  refine z_if_eq (tgt := 13) d_Qu_removeFirst_7 (by decide) (fun h7 => ?_) (fun h7 => False.elim (h7 (if_neg (nI_ne0 (by omega) (by omega)))))
  refine z_aload_n d_Qu_removeFirst_13 rfl ?_
  refine z_aload_n d_Qu_removeFirst_14 rfl ?_
  refine z_get d_Qu_removeFirst_15 zf_Qu_64 (ha) rfl ?_
  refine z_aload_n d_Qu_removeFirst_18 rfl ?_
  refine z_get d_Qu_removeFirst_19 zf_Qu_12 (ha) rfl ?_
  refine z_callV gt_good d_Qu_removeFirst_22 zv_Qu_33 (hla) rfl (fun l => c_AL_size l g M la arr (nI (e0 :: es).length) mc hla) rfl rfl ⟨Nat.le_of_ble_eq_true rfl, Nat.le_of_ble_eq_true rfl⟩ (Nat.le_of_ble_eq_true rfl) (Nat.le_of_ble_eq_true rfl) (Nat.le_of_ble_eq_true rfl) ?_
  rintro _ _ ⟨rfl, rfl⟩
  refine z_isub d_Qu_removeFirst_25 ?_
  refine z_iconst (v := 1) d_Qu_removeFirst_26 (by decide) ?_
  refine z_iadd d_Qu_removeFirst_27 ?_
  refine z_put d_Qu_removeFirst_28 zp_Qu_70 (ha) rfl rfl ?_
  refine z_aload_n d_Qu_removeFirst_31 rfl ?_
  refine z_aload_n d_Qu_removeFirst_32 rfl ?_
  refine z_get d_Qu_removeFirst_33 zf_Qu_12 (zset_self _ _ _) rfl ?_
  refine z_iconst (v := 0) d_Qu_removeFirst_36 (by decide) ?_
  refine z_callV gt_good d_Qu_removeFirst_37 zv_Qu_73 (by rw [zset_ne (Ne.symm n1)]; exact hla) rfl (fun l => c_AL_get l g _ la arr (e0 :: es).length mc _ 0 e0 (by rw [zset_ne (Ne.symm n1)]; exact hla) (by rw [zset_ne (Ne.symm n2)]; exact hr) (by omega) (by omega) rfl) rfl rfl ⟨Nat.le_of_ble_eq_true rfl, Nat.le_of_ble_eq_true rfl⟩ (Nat.le_of_ble_eq_true rfl) (Nat.le_of_ble_eq_true rfl) (Nat.le_of_ble_eq_true rfl) ?_
  rintro _ _ ⟨rfl, rfl⟩
  refine z_cast (ci := 2) d_Qu_removeFirst_40 gw_202 (by rw [zset_ne (Ne.symm (n6 e0 List.mem_cons_self))]; exact h0) rfl rfl ?_
  refine z_get d_Qu_removeFirst_43 zf_Qu_77 (by rw [zset_ne (Ne.symm (n6 e0 List.mem_cons_self))]; exact h0) rfl ?_
  refine z_put d_Qu_removeFirst_46 zp_Qu_80 (zset_self _ _ _) rfl rfl ?_
  refine z_aload_n d_Qu_removeFirst_49 rfl ?_
  refine z_get d_Qu_removeFirst_50 zf_Qu_12 (zset_self _ _ _) rfl ?_
  refine z_iconst (v := 0) d_Qu_removeFirst_53 (by decide) ?_
  rw [zset_zset]
  refine z_callV gt_good d_Qu_removeFirst_54 zv_Qu_83 (by rw [zset_ne (Ne.symm n1)]; exact hla) rfl (fun l => c_AL_remove l g (zset M a (.inr (1, fQ la pa kd pe ho us ln (ln - nI (e0 :: es).length + 1) v0 (.ref t)))) la arr 0 (e0 :: es) cap (hl.kept (zset_ne (Ne.symm n1)) (zset_ne (Ne.symm n2))) hc (fun e he => by obtain ⟨x, hx⟩ := hes e he; exact (zObj.it hx).kept (zset_ne (Ne.symm (n6 e he)))) (by omega)) rfl rfl ⟨Nat.le_of_ble_eq_true rfl, Nat.le_of_ble_eq_true rfl⟩ (Nat.le_of_ble_eq_true rfl) (Nat.le_of_ble_eq_true rfl) (Nat.le_of_ble_eq_true rfl) ?_
  rintro _ M3 ⟨rfl, hl3, hk3⟩
  have h3a : M3 a = some (.inr (1, fQ la pa kd pe ho us ln (ln - nI (e0 :: es).length + 1) v0 (.ref t))) := by rw [hk3 a n1 n2, zset_self]
  refine z_pop d_Qu_removeFirst_57 rfl ?_
  refine z_aload_n d_Qu_removeFirst_58 rfl ?_
  refine z_get d_Qu_removeFirst_59 zf_Qu_37 (h3a) rfl ?_
  refine z_ifnull d_Qu_removeFirst_62 ?_
  refine z_aload_n d_Qu_removeFirst_65 rfl ?_
  refine z_get d_Qu_removeFirst_66 zf_Qu_37 (h3a) rfl ?_
  refine z_iconst (v := 1) d_Qu_removeFirst_69 (by decide) ?_
  refine z_put d_Qu_removeFirst_70 zp_Qu_86 (by rw [hk3 t m2 m3, zset_ne m1]; exact ht) rfl rfl ?_
  refine t_Qu_removeFirst g k _ _ _ _ (zset M3 t (.inr (4, [d0, d1, d2, d3, .int 1]))) a la pa kd pe ho us ln (ln - nI (e0 :: es).length + 1) v0 (.ref t) arr es cap ws (by rw [zset_ne (Ne.symm m1)]; exact h3a) ?_ ?_ hc hw (Nat.le_of_ble_eq_true rfl) (Nat.le_of_ble_eq_true rfl) (by simp) (by simp) (fun he => ?_) (fun M' he e1 e2 e3 e4 => ?_)
  · exact hl3.kept (zset_ne (Ne.symm m2)) (zset_ne (Ne.symm m3))
  · rw [zset_ne (Ne.symm m4), hk3 pa n3 n4, zset_ne (Ne.symm n5)]; exact hp
  · exact ⟨rfl, by rw [if_neg he, zset_ne (Ne.symm m1)]; exact h3a, hl3.kept (zset_ne (Ne.symm m2)) (zset_ne (Ne.symm m3)), by rw [if_neg he, zset_ne (Ne.symm m4), hk3 pa n3 n4, zset_ne (Ne.symm n5)]; exact hp, zset_self _ _ _, fun x x1 x2 x3 x4 x5 => by rw [zset_ne x5, hk3 x x2 x3, zset_ne x1]⟩
  · exact ⟨rfl, by rw [if_pos he]; exact e1, by rw [he]; exact e2, by rw [if_pos he]; exact e3, by rw [e4 t m1 m2 m3 m4, zset_self], fun x x1 x2 x3 x4 x5 => by rw [e4 x x1 x2 x3 x4, zset_ne x5, hk3 x x2 x3, zset_ne x1]⟩
