/-! THE LAW'S LOOP. -/
abbrev lwL (g : ZG) (x m out i0 : Nat) (l5 l6 l7 : Option Value) : List (Option Value) := [some (.ref (sB g)), some (.ref x), some (.ref m), some (.ref out), some (.int (nI i0)), l5, l6, l7]
abbrev LU (g : ZG) (k : ZK) (Qz : State → Prop) (L : List (Option Value)) (pc : Nat) (st : List Value) (M : ZM) (n1 n2 : Nat) : Prop := ZU vcl tlx GT "MonitorQueuesLaw" code 8 ret "law" room_1 g k Qz L pc st M n1 n2
abbrev lgv (a b : Int32) : Int64 := (a.toInt64 <<< ((32 : Int32).toInt64 &&& 63)) ||| (b.toInt64 &&& 4294967295)
/-- where a call's road comes back -/
def LNx (g : ZG) (k : ZK) (Qz : State → Prop) (x m out c : Nat) : Prop := ∀ (S : MS) (N : NS) (w : Int64) (M : ZM) (l5 l6 l7 : Option Value), SI (c + 1) S N → LW g.2.2.2.1 x m out S N w M → LU g k Qz (lwL g x m out (1 + 6 * c) l5 l6 l7) 808 [] M (300 + 430 * (c + 1)) (30000 + 6010 * (c + 1))
set_option maxHeartbeats 4000000 in
set_option maxRecDepth 100000 in
theorem br_put {g : ZG} {k : ZK} {Qz : State → Prop} {x m out c : Nat} {S : MS} {N : NS} {w : Int64} {M : ZM} {l5 l6 l7 : Option Value} (hI : SI c S N) (hc : c ≤ 511) (hL : LW g.2.2.2.1 x m out S N w M) (hi : 1 + 6 * c + 6 ≤ sLn g) (hb : sLn g ≤ 3073) (hx : LNx g k Qz x m out c) : LU g k Qz (lwL g x m out (1 + 6 * c) l5 l6 l7) 120 [] M (300 + 430 * c) (30000 + 6010 * c) := by
  obtain ⟨a, S', N', hI', h1, h2⟩ := lc_put (g := g) (x := x) (m := m) (out := out) (w := w) hI (by omega) (sX g (1 + 6 * c + 1)) (sX g (1 + 6 * c + 2)) (lgv (sX g (1 + 6 * c + 3)) (sX g (1 + 6 * c + 4))) (sX g (1 + 6 * c + 5))
  obtain ⟨fs, hxx⟩ := hL.x
  refine z_aload_n d_La_law_120 rfl ?_
  refine z_sc (j := 1) d_La_law_121 d_La_law_122 d_La_law_124 d_La_law_125 d_La_law_126 (by decide) rfl rfl (by omega) (by omega) ?_
  refine z_sc (j := 2) d_La_law_127 d_La_law_128 d_La_law_130 d_La_law_131 d_La_law_132 (by decide) rfl rfl (by omega) (by omega) ?_
  refine z_sc (j := 3) d_La_law_133 d_La_law_134 d_La_law_136 d_La_law_137 d_La_law_138 (by decide) rfl rfl (by omega) (by omega) ?_
  refine z_i2l d_La_law_139 rfl ?_
  refine z_bipush (v := 32) d_La_law_140 (by decide) ?_
  refine z_lshl d_La_law_142 rfl ?_
  refine z_sc (j := 4) d_La_law_143 d_La_law_144 d_La_law_146 d_La_law_147 d_La_law_148 (by decide) rfl rfl (by omega) (by omega) ?_
  refine z_i2l d_La_law_149 rfl ?_
  refine z_ldc2 d_La_law_150 gw_802 ?_
  refine z_land d_La_law_153 ?_
  refine z_lor d_La_law_154 ?_
  refine z_sc (j := 5) d_La_law_155 d_La_law_156 d_La_law_158 d_La_law_159 d_La_law_160 (by decide) rfl rfl (by omega) (by omega) ?_
  refine z_callV gt_good d_La_law_161 zv_La_29 hxx rfl (fun l => h1 l M hL) rfl rfl ⟨(Nat.le_of_ble_eq_true rfl), (Nat.le_of_ble_eq_true rfl)⟩ (Nat.le_of_ble_eq_true rfl) (show 300 + 430 * c + 70 ≤ 601024 by omega) (show 30000 + 6010 * c + 6000 ≤ 7293000 by omega) ?_
  rintro _ M1 ⟨rfl, hL1⟩
  obtain ⟨fs1, hmm⟩ := hL1.m
  refine z_aload_n d_La_law_164 rfl ?_
  refine z_sc (j := 1) d_La_law_165 d_La_law_166 d_La_law_168 d_La_law_169 d_La_law_170 (by decide) rfl rfl (by omega) (by omega) ?_
  refine z_sc (j := 2) d_La_law_171 d_La_law_172 d_La_law_174 d_La_law_175 d_La_law_176 (by decide) rfl rfl (by omega) (by omega) ?_
  refine z_sc (j := 3) d_La_law_177 d_La_law_178 d_La_law_180 d_La_law_181 d_La_law_182 (by decide) rfl rfl (by omega) (by omega) ?_
  refine z_i2l d_La_law_183 rfl ?_
  refine z_bipush (v := 32) d_La_law_184 (by decide) ?_
  refine z_lshl d_La_law_186 rfl ?_
  refine z_sc (j := 4) d_La_law_187 d_La_law_188 d_La_law_190 d_La_law_191 d_La_law_192 (by decide) rfl rfl (by omega) (by omega) ?_
  refine z_i2l d_La_law_193 rfl ?_
  refine z_ldc2 d_La_law_194 gw_802 ?_
  refine z_land d_La_law_197 ?_
  refine z_lor d_La_law_198 ?_
  refine z_sc (j := 5) d_La_law_199 d_La_law_200 d_La_law_202 d_La_law_203 d_La_law_204 (by decide) rfl rfl (by omega) (by omega) ?_
  refine z_callV gt_good d_La_law_205 zv_La_33 hmm rfl (fun l => h2 l M1 hL1) rfl rfl ⟨(Nat.le_of_ble_eq_true rfl), (Nat.le_of_ble_eq_true rfl)⟩ (Nat.le_of_ble_eq_true rfl) (show 300 + 430 * c + 70 + 0 ≤ 601024 by omega) (show 30000 + 6010 * c + 6000 + 0 ≤ 7293000 by omega) ?_
  rintro _ M2 ⟨rfl, hL2⟩
  refine z_icmp_eq (tgt := 808) d_La_law_208 (by decide) (fun _ => ?_) (fun h => absurd rfl h)
  refine z_widen (show 300 + 430 * c + 70 + 0 ≤ 300 + 430 * (c + 1) by omega) (show 30000 + 6010 * c + 6000 + 0 ≤ 30000 + 6010 * (c + 1) by omega) ?_
  exact hx S' N' w M2 _ _ _ hI' hL2
set_option maxHeartbeats 4000000 in
set_option maxRecDepth 100000 in
theorem br_next {g : ZG} {k : ZK} {Qz : State → Prop} {x m out c : Nat} {S : MS} {N : NS} {w : Int64} {M : ZM} {l5 l6 l7 : Option Value} (hI : SI c S N) (hc : c ≤ 511) (hL : LW g.2.2.2.1 x m out S N w M) (hi : 1 + 6 * c + 6 ≤ sLn g) (hb : sLn g ≤ 3073) (hx : LNx g k Qz x m out c) : LU g k Qz (lwL g x m out (1 + 6 * c) l5 l6 l7) 280 [] M (300 + 430 * c) (30000 + 6010 * c) := by
  obtain ⟨a, S', N', hI', h1, h2⟩ := lc_next (g := g) (x := x) (m := m) (out := out) (w := w) hI (by omega) (sX g (1 + 6 * c + 1)) (sX g (1 + 6 * c + 2))
  obtain ⟨fs, hxx⟩ := hL.x
  refine z_aload_n d_La_law_280 rfl ?_
  refine z_sc (j := 1) d_La_law_281 d_La_law_282 d_La_law_284 d_La_law_285 d_La_law_286 (by decide) rfl rfl (by omega) (by omega) ?_
  refine z_sc (j := 2) d_La_law_287 d_La_law_288 d_La_law_290 d_La_law_291 d_La_law_292 (by decide) rfl rfl (by omega) (by omega) ?_
  refine z_callV gt_good d_La_law_293 zv_La_42 hxx rfl (fun l => h1 l M hL) rfl rfl ⟨(Nat.le_of_ble_eq_true rfl), (Nat.le_of_ble_eq_true rfl)⟩ (Nat.le_of_ble_eq_true rfl) (show 300 + 430 * c + 70 ≤ 601024 by omega) (show 30000 + 6010 * c + 6000 ≤ 7293000 by omega) ?_
  rintro _ M1 ⟨rfl, hL1⟩
  obtain ⟨fs1, hmm⟩ := hL1.m
  refine z_aload_n d_La_law_296 rfl ?_
  refine z_sc (j := 1) d_La_law_297 d_La_law_298 d_La_law_300 d_La_law_301 d_La_law_302 (by decide) rfl rfl (by omega) (by omega) ?_
  refine z_sc (j := 2) d_La_law_303 d_La_law_304 d_La_law_306 d_La_law_307 d_La_law_308 (by decide) rfl rfl (by omega) (by omega) ?_
  refine z_callV gt_good d_La_law_309 zv_La_46 hmm rfl (fun l => h2 l M1 hL1) rfl rfl ⟨(Nat.le_of_ble_eq_true rfl), (Nat.le_of_ble_eq_true rfl)⟩ (Nat.le_of_ble_eq_true rfl) (show 300 + 430 * c + 70 + 0 ≤ 601024 by omega) (show 30000 + 6010 * c + 6000 + 0 ≤ 7293000 by omega) ?_
  rintro _ M2 ⟨rfl, hL2⟩
  refine z_icmp_eq (tgt := 808) d_La_law_312 (by decide) (fun _ => ?_) (fun h => absurd rfl h)
  refine z_widen (show 300 + 430 * c + 70 + 0 ≤ 300 + 430 * (c + 1) by omega) (show 30000 + 6010 * c + 6000 + 0 ≤ 30000 + 6010 * (c + 1) by omega) ?_
  exact hx S' N' w M2 _ _ _ hI' hL2
set_option maxHeartbeats 4000000 in
set_option maxRecDepth 100000 in
theorem br_take {g : ZG} {k : ZK} {Qz : State → Prop} {x m out c : Nat} {S : MS} {N : NS} {w : Int64} {M : ZM} {l5 l6 l7 : Option Value} (hI : SI c S N) (hc : c ≤ 511) (hL : LW g.2.2.2.1 x m out S N w M) (hi : 1 + 6 * c + 6 ≤ sLn g) (hb : sLn g ≤ 3073) (hx : LNx g k Qz x m out c) : LU g k Qz (lwL g x m out (1 + 6 * c) l5 l6 l7) 317 [] M (300 + 430 * c) (30000 + 6010 * c) := by
  obtain ⟨a, S', N', hI', h1, h2⟩ := lc_take (g := g) (x := x) (m := m) (out := out) (w := w) hI (by omega) (sX g (1 + 6 * c + 1))
  obtain ⟨fs, hxx⟩ := hL.x
  refine z_aload_n d_La_law_317 rfl ?_
  refine z_sc (j := 1) d_La_law_318 d_La_law_319 d_La_law_321 d_La_law_322 d_La_law_323 (by decide) rfl rfl (by omega) (by omega) ?_
  refine z_callV gt_good d_La_law_324 zv_La_47 hxx rfl (fun l => h1 l M hL) rfl rfl ⟨(Nat.le_of_ble_eq_true rfl), (Nat.le_of_ble_eq_true rfl)⟩ (Nat.le_of_ble_eq_true rfl) (show 300 + 430 * c + 70 ≤ 601024 by omega) (show 30000 + 6010 * c + 6000 ≤ 7293000 by omega) ?_
  rintro _ M1 ⟨rfl, hL1⟩
  obtain ⟨fs1, hmm⟩ := hL1.m
  refine z_aload_n d_La_law_327 rfl ?_
  refine z_sc (j := 1) d_La_law_328 d_La_law_329 d_La_law_331 d_La_law_332 d_La_law_333 (by decide) rfl rfl (by omega) (by omega) ?_
  refine z_callV gt_good d_La_law_334 zv_La_51 hmm rfl (fun l => h2 l M1 hL1) rfl rfl ⟨(Nat.le_of_ble_eq_true rfl), (Nat.le_of_ble_eq_true rfl)⟩ (Nat.le_of_ble_eq_true rfl) (show 300 + 430 * c + 70 + 0 ≤ 601024 by omega) (show 30000 + 6010 * c + 6000 + 0 ≤ 7293000 by omega) ?_
  rintro _ M2 ⟨rfl, hL2⟩
  refine z_icmp_eq (tgt := 808) d_La_law_337 (by decide) (fun _ => ?_) (fun h => absurd rfl h)
  refine z_widen (show 300 + 430 * c + 70 + 0 ≤ 300 + 430 * (c + 1) by omega) (show 30000 + 6010 * c + 6000 + 0 ≤ 30000 + 6010 * (c + 1) by omega) ?_
  exact hx S' N' w M2 _ _ _ hI' hL2
set_option maxHeartbeats 4000000 in
set_option maxRecDepth 100000 in
theorem br_trigger {g : ZG} {k : ZK} {Qz : State → Prop} {x m out c : Nat} {S : MS} {N : NS} {w : Int64} {M : ZM} {l5 l6 l7 : Option Value} (hI : SI c S N) (hc : c ≤ 511) (hL : LW g.2.2.2.1 x m out S N w M) (hi : 1 + 6 * c + 6 ≤ sLn g) (hb : sLn g ≤ 3073) (hx : LNx g k Qz x m out c) : LU g k Qz (lwL g x m out (1 + 6 * c) l5 l6 l7) 342 [] M (300 + 430 * c) (30000 + 6010 * c) := by
  obtain ⟨a, S', N', hI', h1, h2⟩ := lc_trigger (g := g) (x := x) (m := m) (out := out) (w := w) hI (by omega) (sX g (1 + 6 * c + 1)) (sX g (1 + 6 * c + 2)) (sX g (1 + 6 * c + 3))
  obtain ⟨fs, hxx⟩ := hL.x
  refine z_aload_n d_La_law_342 rfl ?_
  refine z_sc (j := 1) d_La_law_343 d_La_law_344 d_La_law_346 d_La_law_347 d_La_law_348 (by decide) rfl rfl (by omega) (by omega) ?_
  refine z_sc (j := 2) d_La_law_349 d_La_law_350 d_La_law_352 d_La_law_353 d_La_law_354 (by decide) rfl rfl (by omega) (by omega) ?_
  refine z_sc (j := 3) d_La_law_355 d_La_law_356 d_La_law_358 d_La_law_359 d_La_law_360 (by decide) rfl rfl (by omega) (by omega) ?_
  refine z_callV gt_good d_La_law_361 zv_La_52 hxx rfl (fun l => h1 l M hL) rfl rfl ⟨(Nat.le_of_ble_eq_true rfl), (Nat.le_of_ble_eq_true rfl)⟩ (Nat.le_of_ble_eq_true rfl) (show 300 + 430 * c + 70 ≤ 601024 by omega) (show 30000 + 6010 * c + 6000 ≤ 7293000 by omega) ?_
  rintro _ M1 ⟨rfl, hL1⟩
  obtain ⟨fs1, hmm⟩ := hL1.m
  refine z_aload_n d_La_law_364 rfl ?_
  refine z_sc (j := 1) d_La_law_365 d_La_law_366 d_La_law_368 d_La_law_369 d_La_law_370 (by decide) rfl rfl (by omega) (by omega) ?_
  refine z_sc (j := 2) d_La_law_371 d_La_law_372 d_La_law_374 d_La_law_375 d_La_law_376 (by decide) rfl rfl (by omega) (by omega) ?_
  refine z_sc (j := 3) d_La_law_377 d_La_law_378 d_La_law_380 d_La_law_381 d_La_law_382 (by decide) rfl rfl (by omega) (by omega) ?_
  refine z_callV gt_good d_La_law_383 zv_La_56 hmm rfl (fun l => h2 l M1 hL1) rfl rfl ⟨(Nat.le_of_ble_eq_true rfl), (Nat.le_of_ble_eq_true rfl)⟩ (Nat.le_of_ble_eq_true rfl) (show 300 + 430 * c + 70 + 0 ≤ 601024 by omega) (show 30000 + 6010 * c + 6000 + 0 ≤ 7293000 by omega) ?_
  rintro _ M2 ⟨rfl, hL2⟩
  refine z_icmp_eq (tgt := 808) d_La_law_386 (by decide) (fun _ => ?_) (fun h => absurd rfl h)
  refine z_widen (show 300 + 430 * c + 70 + 0 ≤ 300 + 430 * (c + 1) by omega) (show 30000 + 6010 * c + 6000 + 0 ≤ 30000 + 6010 * (c + 1) by omega) ?_
  exact hx S' N' w M2 _ _ _ hI' hL2
set_option maxHeartbeats 4000000 in
set_option maxRecDepth 100000 in
theorem br_started {g : ZG} {k : ZK} {Qz : State → Prop} {x m out c : Nat} {S : MS} {N : NS} {w : Int64} {M : ZM} {l5 l6 l7 : Option Value} (hI : SI c S N) (hc : c ≤ 511) (hL : LW g.2.2.2.1 x m out S N w M) (hi : 1 + 6 * c + 6 ≤ sLn g) (hb : sLn g ≤ 3073) (hx : LNx g k Qz x m out c) : LU g k Qz (lwL g x m out (1 + 6 * c) l5 l6 l7) 391 [] M (300 + 430 * c) (30000 + 6010 * c) := by
  obtain ⟨a, S', N', hI', h1, h2⟩ := lc_started (g := g) (x := x) (m := m) (out := out) (w := w) hI (by omega) (sX g (1 + 6 * c + 1))
  obtain ⟨fs, hxx⟩ := hL.x
  refine z_aload_n d_La_law_391 rfl ?_
  refine z_sc (j := 1) d_La_law_392 d_La_law_393 d_La_law_395 d_La_law_396 d_La_law_397 (by decide) rfl rfl (by omega) (by omega) ?_
  refine z_callV gt_good d_La_law_398 zv_La_57 hxx rfl (fun l => h1 l M hL) rfl rfl ⟨(Nat.le_of_ble_eq_true rfl), (Nat.le_of_ble_eq_true rfl)⟩ (Nat.le_of_ble_eq_true rfl) (show 300 + 430 * c + 70 ≤ 601024 by omega) (show 30000 + 6010 * c + 6000 ≤ 7293000 by omega) ?_
  rintro _ M1 ⟨rfl, hL1⟩
  obtain ⟨fs1, hmm⟩ := hL1.m
  refine z_aload_n d_La_law_401 rfl ?_
  refine z_sc (j := 1) d_La_law_402 d_La_law_403 d_La_law_405 d_La_law_406 d_La_law_407 (by decide) rfl rfl (by omega) (by omega) ?_
  refine z_callV gt_good d_La_law_408 zv_La_60 hmm rfl (fun l => h2 l M1 hL1) rfl rfl ⟨(Nat.le_of_ble_eq_true rfl), (Nat.le_of_ble_eq_true rfl)⟩ (Nat.le_of_ble_eq_true rfl) (show 300 + 430 * c + 70 + 0 ≤ 601024 by omega) (show 30000 + 6010 * c + 6000 + 0 ≤ 7293000 by omega) ?_
  rintro _ M2 ⟨rfl, hL2⟩
  refine z_icmp_eq (tgt := 808) d_La_law_411 (by decide) (fun _ => ?_) (fun h => absurd rfl h)
  refine z_widen (show 300 + 430 * c + 70 + 0 ≤ 300 + 430 * (c + 1) by omega) (show 30000 + 6010 * c + 6000 + 0 ≤ 30000 + 6010 * (c + 1) by omega) ?_
  exact hx S' N' w M2 _ _ _ hI' hL2
set_option maxHeartbeats 4000000 in
set_option maxRecDepth 100000 in
theorem br_end {g : ZG} {k : ZK} {Qz : State → Prop} {x m out c : Nat} {S : MS} {N : NS} {w : Int64} {M : ZM} {l5 l6 l7 : Option Value} (hI : SI c S N) (hc : c ≤ 511) (hL : LW g.2.2.2.1 x m out S N w M) (hi : 1 + 6 * c + 6 ≤ sLn g) (hb : sLn g ≤ 3073) (hx : LNx g k Qz x m out c) : LU g k Qz (lwL g x m out (1 + 6 * c) l5 l6 l7) 416 [] M (300 + 430 * c) (30000 + 6010 * c) := by
  obtain ⟨a, S', N', hI', h1, h2⟩ := lc_end (g := g) (x := x) (m := m) (out := out) (w := w) hI (by omega) (sX g (1 + 6 * c + 1))
  obtain ⟨fs, hxx⟩ := hL.x
  refine z_aload_n d_La_law_416 rfl ?_
  refine z_sc (j := 1) d_La_law_417 d_La_law_418 d_La_law_420 d_La_law_421 d_La_law_422 (by decide) rfl rfl (by omega) (by omega) ?_
  refine z_callV gt_good d_La_law_423 zv_La_61 hxx rfl (fun l => h1 l M hL) rfl rfl ⟨(Nat.le_of_ble_eq_true rfl), (Nat.le_of_ble_eq_true rfl)⟩ (Nat.le_of_ble_eq_true rfl) (show 300 + 430 * c + 70 ≤ 601024 by omega) (show 30000 + 6010 * c + 6000 ≤ 7293000 by omega) ?_
  rintro _ M1 ⟨rfl, hL1⟩
  obtain ⟨fs1, hmm⟩ := hL1.m
  refine z_aload_n d_La_law_426 rfl ?_
  refine z_sc (j := 1) d_La_law_427 d_La_law_428 d_La_law_430 d_La_law_431 d_La_law_432 (by decide) rfl rfl (by omega) (by omega) ?_
  refine z_callV gt_good d_La_law_433 zv_La_64 hmm rfl (fun l => h2 l M1 hL1) rfl rfl ⟨(Nat.le_of_ble_eq_true rfl), (Nat.le_of_ble_eq_true rfl)⟩ (Nat.le_of_ble_eq_true rfl) (show 300 + 430 * c + 70 + 0 ≤ 601024 by omega) (show 30000 + 6010 * c + 6000 + 0 ≤ 7293000 by omega) ?_
  rintro _ M2 ⟨rfl, hL2⟩
  refine z_icmp_eq (tgt := 808) d_La_law_436 (by decide) (fun _ => ?_) (fun h => absurd rfl h)
  refine z_widen (show 300 + 430 * c + 70 + 0 ≤ 300 + 430 * (c + 1) by omega) (show 30000 + 6010 * c + 6000 + 0 ≤ 30000 + 6010 * (c + 1) by omega) ?_
  exact hx S' N' w M2 _ _ _ hI' hL2
set_option maxHeartbeats 4000000 in
set_option maxRecDepth 100000 in
theorem br_rewrite {g : ZG} {k : ZK} {Qz : State → Prop} {x m out c : Nat} {S : MS} {N : NS} {w : Int64} {M : ZM} {l5 l6 l7 : Option Value} (hI : SI c S N) (hc : c ≤ 511) (hL : LW g.2.2.2.1 x m out S N w M) (hi : 1 + 6 * c + 6 ≤ sLn g) (hb : sLn g ≤ 3073) (hx : LNx g k Qz x m out c) : LU g k Qz (lwL g x m out (1 + 6 * c) l5 l6 l7) 441 [] M (300 + 430 * c) (30000 + 6010 * c) := by
  obtain ⟨a, S', N', hI', h1, h2⟩ := lc_rewrite (g := g) (x := x) (m := m) (out := out) (w := w) hI (by omega) (sX g (1 + 6 * c + 1)) (sX g (1 + 6 * c + 2)) (lgv (sX g (1 + 6 * c + 3)) (sX g (1 + 6 * c + 4)))
  obtain ⟨fs, hxx⟩ := hL.x
  refine z_aload_n d_La_law_441 rfl ?_
  refine z_sc (j := 1) d_La_law_442 d_La_law_443 d_La_law_445 d_La_law_446 d_La_law_447 (by decide) rfl rfl (by omega) (by omega) ?_
  refine z_sc (j := 2) d_La_law_448 d_La_law_449 d_La_law_451 d_La_law_452 d_La_law_453 (by decide) rfl rfl (by omega) (by omega) ?_
  refine z_sc (j := 3) d_La_law_454 d_La_law_455 d_La_law_457 d_La_law_458 d_La_law_459 (by decide) rfl rfl (by omega) (by omega) ?_
  refine z_i2l d_La_law_460 rfl ?_
  refine z_bipush (v := 32) d_La_law_461 (by decide) ?_
  refine z_lshl d_La_law_463 rfl ?_
  refine z_sc (j := 4) d_La_law_464 d_La_law_465 d_La_law_467 d_La_law_468 d_La_law_469 (by decide) rfl rfl (by omega) (by omega) ?_
  refine z_i2l d_La_law_470 rfl ?_
  refine z_ldc2 d_La_law_471 gw_802 ?_
  refine z_land d_La_law_474 ?_
  refine z_lor d_La_law_475 ?_
  refine z_callV gt_good d_La_law_476 zv_La_65 hxx rfl (fun l => h1 l M hL) rfl rfl ⟨(Nat.le_of_ble_eq_true rfl), (Nat.le_of_ble_eq_true rfl)⟩ (Nat.le_of_ble_eq_true rfl) (show 300 + 430 * c + 70 ≤ 601024 by omega) (show 30000 + 6010 * c + 6000 ≤ 7293000 by omega) ?_
  rintro _ M1 ⟨rfl, hL1⟩
  obtain ⟨fs1, hmm⟩ := hL1.m
  refine z_aload_n d_La_law_479 rfl ?_
  refine z_sc (j := 1) d_La_law_480 d_La_law_481 d_La_law_483 d_La_law_484 d_La_law_485 (by decide) rfl rfl (by omega) (by omega) ?_
  refine z_sc (j := 2) d_La_law_486 d_La_law_487 d_La_law_489 d_La_law_490 d_La_law_491 (by decide) rfl rfl (by omega) (by omega) ?_
  refine z_sc (j := 3) d_La_law_492 d_La_law_493 d_La_law_495 d_La_law_496 d_La_law_497 (by decide) rfl rfl (by omega) (by omega) ?_
  refine z_i2l d_La_law_498 rfl ?_
  refine z_bipush (v := 32) d_La_law_499 (by decide) ?_
  refine z_lshl d_La_law_501 rfl ?_
  refine z_sc (j := 4) d_La_law_502 d_La_law_503 d_La_law_505 d_La_law_506 d_La_law_507 (by decide) rfl rfl (by omega) (by omega) ?_
  refine z_i2l d_La_law_508 rfl ?_
  refine z_ldc2 d_La_law_509 gw_802 ?_
  refine z_land d_La_law_512 ?_
  refine z_lor d_La_law_513 ?_
  refine z_callV gt_good d_La_law_514 zv_La_69 hmm rfl (fun l => h2 l M1 hL1) rfl rfl ⟨(Nat.le_of_ble_eq_true rfl), (Nat.le_of_ble_eq_true rfl)⟩ (Nat.le_of_ble_eq_true rfl) (show 300 + 430 * c + 70 + 0 ≤ 601024 by omega) (show 30000 + 6010 * c + 6000 + 0 ≤ 7293000 by omega) ?_
  rintro _ M2 ⟨rfl, hL2⟩
  refine z_icmp_eq (tgt := 808) d_La_law_517 (by decide) (fun _ => ?_) (fun h => absurd rfl h)
  refine z_widen (show 300 + 430 * c + 70 + 0 ≤ 300 + 430 * (c + 1) by omega) (show 30000 + 6010 * c + 6000 + 0 ≤ 30000 + 6010 * (c + 1) by omega) ?_
  exact hx S' N' w M2 _ _ _ hI' hL2
set_option maxHeartbeats 4000000 in
set_option maxRecDepth 100000 in
theorem br_delay {g : ZG} {k : ZK} {Qz : State → Prop} {x m out c : Nat} {S : MS} {N : NS} {w : Int64} {M : ZM} {l5 l6 l7 : Option Value} (hI : SI c S N) (hc : c ≤ 511) (hL : LW g.2.2.2.1 x m out S N w M) (hi : 1 + 6 * c + 6 ≤ sLn g) (hb : sLn g ≤ 3073) (hx : LNx g k Qz x m out c) : LU g k Qz (lwL g x m out (1 + 6 * c) l5 l6 l7) 522 [] M (300 + 430 * c) (30000 + 6010 * c) := by
  obtain ⟨a, S', N', hI', h1, h2⟩ := lc_delay (g := g) (x := x) (m := m) (out := out) (w := w) hI (by omega) (sX g (1 + 6 * c + 1)) (lgv (sX g (1 + 6 * c + 2)) (sX g (1 + 6 * c + 3)))
  obtain ⟨fs, hxx⟩ := hL.x
  refine z_aload_n d_La_law_522 rfl ?_
  refine z_sc (j := 1) d_La_law_523 d_La_law_524 d_La_law_526 d_La_law_527 d_La_law_528 (by decide) rfl rfl (by omega) (by omega) ?_
  refine z_sc (j := 2) d_La_law_529 d_La_law_530 d_La_law_532 d_La_law_533 d_La_law_534 (by decide) rfl rfl (by omega) (by omega) ?_
  refine z_i2l d_La_law_535 rfl ?_
  refine z_bipush (v := 32) d_La_law_536 (by decide) ?_
  refine z_lshl d_La_law_538 rfl ?_
  refine z_sc (j := 3) d_La_law_539 d_La_law_540 d_La_law_542 d_La_law_543 d_La_law_544 (by decide) rfl rfl (by omega) (by omega) ?_
  refine z_i2l d_La_law_545 rfl ?_
  refine z_ldc2 d_La_law_546 gw_802 ?_
  refine z_land d_La_law_549 ?_
  refine z_lor d_La_law_550 ?_
  refine z_callV gt_good d_La_law_551 zv_La_70 hxx rfl (fun l => h1 l M hL) rfl rfl ⟨(Nat.le_of_ble_eq_true rfl), (Nat.le_of_ble_eq_true rfl)⟩ (Nat.le_of_ble_eq_true rfl) (show 300 + 430 * c + 420 ≤ 601024 by omega) (show 30000 + 6010 * c + 6000 ≤ 7293000 by omega) ?_
  rintro _ M1 ⟨rfl, hL1⟩
  obtain ⟨fs1, hmm⟩ := hL1.m
  refine z_aload_n d_La_law_554 rfl ?_
  refine z_sc (j := 1) d_La_law_555 d_La_law_556 d_La_law_558 d_La_law_559 d_La_law_560 (by decide) rfl rfl (by omega) (by omega) ?_
  refine z_sc (j := 2) d_La_law_561 d_La_law_562 d_La_law_564 d_La_law_565 d_La_law_566 (by decide) rfl rfl (by omega) (by omega) ?_
  refine z_i2l d_La_law_567 rfl ?_
  refine z_bipush (v := 32) d_La_law_568 (by decide) ?_
  refine z_lshl d_La_law_570 rfl ?_
  refine z_sc (j := 3) d_La_law_571 d_La_law_572 d_La_law_574 d_La_law_575 d_La_law_576 (by decide) rfl rfl (by omega) (by omega) ?_
  refine z_i2l d_La_law_577 rfl ?_
  refine z_ldc2 d_La_law_578 gw_802 ?_
  refine z_land d_La_law_581 ?_
  refine z_lor d_La_law_582 ?_
  refine z_callV gt_good d_La_law_583 zv_La_74 hmm rfl (fun l => h2 l M1 hL1) rfl rfl ⟨(Nat.le_of_ble_eq_true rfl), (Nat.le_of_ble_eq_true rfl)⟩ (Nat.le_of_ble_eq_true rfl) (show 300 + 430 * c + 420 + 0 ≤ 601024 by omega) (show 30000 + 6010 * c + 6000 + 0 ≤ 7293000 by omega) ?_
  rintro _ M2 ⟨rfl, hL2⟩
  refine z_icmp_eq (tgt := 808) d_La_law_586 (by decide) (fun _ => ?_) (fun h => absurd rfl h)
  refine z_widen (show 300 + 430 * c + 420 + 0 ≤ 300 + 430 * (c + 1) by omega) (show 30000 + 6010 * c + 6000 + 0 ≤ 30000 + 6010 * (c + 1) by omega) ?_
  exact hx S' N' w M2 _ _ _ hI' hL2
set_option maxHeartbeats 4000000 in
set_option maxRecDepth 100000 in
theorem br_cancel {g : ZG} {k : ZK} {Qz : State → Prop} {x m out c : Nat} {S : MS} {N : NS} {w : Int64} {M : ZM} {l5 l6 l7 : Option Value} (hI : SI c S N) (hc : c ≤ 511) (hL : LW g.2.2.2.1 x m out S N w M) (hi : 1 + 6 * c + 6 ≤ sLn g) (hb : sLn g ≤ 3073) (hx : LNx g k Qz x m out c) : LU g k Qz (lwL g x m out (1 + 6 * c) l5 l6 l7) 591 [] M (300 + 430 * c) (30000 + 6010 * c) := by
  obtain ⟨a, S', N', hI', h1, h2⟩ := lc_cancel (g := g) (x := x) (m := m) (out := out) (w := w) hI (by omega) (sX g (1 + 6 * c + 1))
  obtain ⟨fs, hxx⟩ := hL.x
  refine z_aload_n d_La_law_591 rfl ?_
  refine z_sc (j := 1) d_La_law_592 d_La_law_593 d_La_law_595 d_La_law_596 d_La_law_597 (by decide) rfl rfl (by omega) (by omega) ?_
  refine z_callV gt_good d_La_law_598 zv_La_75 hxx rfl (fun l => h1 l M hL) rfl rfl ⟨(Nat.le_of_ble_eq_true rfl), (Nat.le_of_ble_eq_true rfl)⟩ (Nat.le_of_ble_eq_true rfl) (show 300 + 430 * c + 420 ≤ 601024 by omega) (show 30000 + 6010 * c + 6000 ≤ 7293000 by omega) ?_
  rintro _ M1 ⟨rfl, hL1⟩
  obtain ⟨fs1, hmm⟩ := hL1.m
  refine z_aload_n d_La_law_601 rfl ?_
  refine z_sc (j := 1) d_La_law_602 d_La_law_603 d_La_law_605 d_La_law_606 d_La_law_607 (by decide) rfl rfl (by omega) (by omega) ?_
  refine z_callV gt_good d_La_law_608 zv_La_78 hmm rfl (fun l => h2 l M1 hL1) rfl rfl ⟨(Nat.le_of_ble_eq_true rfl), (Nat.le_of_ble_eq_true rfl)⟩ (Nat.le_of_ble_eq_true rfl) (show 300 + 430 * c + 420 + 0 ≤ 601024 by omega) (show 30000 + 6010 * c + 6000 + 0 ≤ 7293000 by omega) ?_
  rintro _ M2 ⟨rfl, hL2⟩
  refine z_icmp_eq (tgt := 808) d_La_law_611 (by decide) (fun _ => ?_) (fun h => absurd rfl h)
  refine z_widen (show 300 + 430 * c + 420 + 0 ≤ 300 + 430 * (c + 1) by omega) (show 30000 + 6010 * c + 6000 + 0 ≤ 30000 + 6010 * (c + 1) by omega) ?_
  exact hx S' N' w M2 _ _ _ hI' hL2
set_option maxHeartbeats 4000000 in
set_option maxRecDepth 100000 in
theorem br_tick {g : ZG} {k : ZK} {Qz : State → Prop} {x m out c : Nat} {S : MS} {N : NS} {w : Int64} {M : ZM} {l5 l6 l7 : Option Value} (hI : SI c S N) (hc : c ≤ 511) (hL : LW g.2.2.2.1 x m out S N w M) (hi : 1 + 6 * c + 6 ≤ sLn g) (hb : sLn g ≤ 3073) (hx : LNx g k Qz x m out c) : LU g k Qz (lwL g x m out (1 + 6 * c) l5 l6 l7) 616 [] M (300 + 430 * c) (30000 + 6010 * c) := by
  obtain ⟨a, S', N', hI', h1, h2⟩ := lc_tick (g := g) (x := x) (m := m) (out := out) (w := w) hI (by omega) (lgv (sX g (1 + 6 * c + 1)) (sX g (1 + 6 * c + 2)))
  obtain ⟨fs, hxx⟩ := hL.x
  refine z_aload_n d_La_law_616 rfl ?_
  refine z_sc (j := 1) d_La_law_617 d_La_law_618 d_La_law_620 d_La_law_621 d_La_law_622 (by decide) rfl rfl (by omega) (by omega) ?_
  refine z_i2l d_La_law_623 rfl ?_
  refine z_bipush (v := 32) d_La_law_624 (by decide) ?_
  refine z_lshl d_La_law_626 rfl ?_
  refine z_sc (j := 2) d_La_law_627 d_La_law_628 d_La_law_630 d_La_law_631 d_La_law_632 (by decide) rfl rfl (by omega) (by omega) ?_
  refine z_i2l d_La_law_633 rfl ?_
  refine z_ldc2 d_La_law_634 gw_802 ?_
  refine z_land d_La_law_637 ?_
  refine z_lor d_La_law_638 ?_
  refine z_callV gt_good d_La_law_639 zv_La_79 hxx rfl (fun l => h1 l M hL) rfl rfl ⟨(Nat.le_of_ble_eq_true rfl), (Nat.le_of_ble_eq_true rfl)⟩ (Nat.le_of_ble_eq_true rfl) (show 300 + 430 * c + 420 ≤ 601024 by omega) (show 30000 + 6010 * c + 6000 ≤ 7293000 by omega) ?_
  rintro _ M1 ⟨rfl, hL1⟩
  obtain ⟨fs1, hmm⟩ := hL1.m
  refine z_aload_n d_La_law_642 rfl ?_
  refine z_sc (j := 1) d_La_law_643 d_La_law_644 d_La_law_646 d_La_law_647 d_La_law_648 (by decide) rfl rfl (by omega) (by omega) ?_
  refine z_i2l d_La_law_649 rfl ?_
  refine z_bipush (v := 32) d_La_law_650 (by decide) ?_
  refine z_lshl d_La_law_652 rfl ?_
  refine z_sc (j := 2) d_La_law_653 d_La_law_654 d_La_law_656 d_La_law_657 d_La_law_658 (by decide) rfl rfl (by omega) (by omega) ?_
  refine z_i2l d_La_law_659 rfl ?_
  refine z_ldc2 d_La_law_660 gw_802 ?_
  refine z_land d_La_law_663 ?_
  refine z_lor d_La_law_664 ?_
  refine z_callV gt_good d_La_law_665 zv_La_83 hmm rfl (fun l => h2 l M1 hL1) rfl rfl ⟨(Nat.le_of_ble_eq_true rfl), (Nat.le_of_ble_eq_true rfl)⟩ (Nat.le_of_ble_eq_true rfl) (show 300 + 430 * c + 420 + 0 ≤ 601024 by omega) (show 30000 + 6010 * c + 6000 + 0 ≤ 7293000 by omega) ?_
  rintro _ M2 ⟨rfl, hL2⟩
  refine z_icmp_eq (tgt := 808) d_La_law_668 (by decide) (fun _ => ?_) (fun h => absurd rfl h)
  refine z_widen (show 300 + 430 * c + 420 + 0 ≤ 300 + 430 * (c + 1) by omega) (show 30000 + 6010 * c + 6000 + 0 ≤ 30000 + 6010 * (c + 1) by omega) ?_
  exact hx S' N' w M2 _ _ _ hI' hL2
set_option maxHeartbeats 4000000 in
set_option maxRecDepth 100000 in
theorem br_age {g : ZG} {k : ZK} {Qz : State → Prop} {x m out c : Nat} {S : MS} {N : NS} {w : Int64} {M : ZM} {l5 l6 l7 : Option Value} (hI : SI c S N) (hc : c ≤ 511) (hL : LW g.2.2.2.1 x m out S N w M) (hi : 1 + 6 * c + 6 ≤ sLn g) (hb : sLn g ≤ 3073) (hx : LNx g k Qz x m out c) : LU g k Qz (lwL g x m out (1 + 6 * c) l5 l6 l7) 726 [] M (300 + 430 * c) (30000 + 6010 * c) := by
  obtain ⟨a, S', N', hI', h1, h2⟩ := lc_age (g := g) (x := x) (m := m) (out := out) (w := w) hI (by omega) (lgv (sX g (1 + 6 * c + 1)) (sX g (1 + 6 * c + 2)))
  obtain ⟨fs, hxx⟩ := hL.x
  refine z_aload_n d_La_law_726 rfl ?_
  refine z_sc (j := 1) d_La_law_727 d_La_law_728 d_La_law_730 d_La_law_731 d_La_law_732 (by decide) rfl rfl (by omega) (by omega) ?_
  refine z_i2l d_La_law_733 rfl ?_
  refine z_bipush (v := 32) d_La_law_734 (by decide) ?_
  refine z_lshl d_La_law_736 rfl ?_
  refine z_sc (j := 2) d_La_law_737 d_La_law_738 d_La_law_740 d_La_law_741 d_La_law_742 (by decide) rfl rfl (by omega) (by omega) ?_
  refine z_i2l d_La_law_743 rfl ?_
  refine z_ldc2 d_La_law_744 gw_802 ?_
  refine z_land d_La_law_747 ?_
  refine z_lor d_La_law_748 ?_
  refine z_callV gt_good d_La_law_749 zv_La_89 hxx rfl (fun l => h1 l M hL) rfl rfl ⟨(Nat.le_of_ble_eq_true rfl), (Nat.le_of_ble_eq_true rfl)⟩ (Nat.le_of_ble_eq_true rfl) (show 300 + 430 * c + 70 ≤ 601024 by omega) (show 30000 + 6010 * c + 6000 ≤ 7293000 by omega) ?_
  rintro _ M1 ⟨rfl, hL1⟩
  obtain ⟨fs1, hmm⟩ := hL1.m
  refine z_aload_n d_La_law_752 rfl ?_
  refine z_sc (j := 1) d_La_law_753 d_La_law_754 d_La_law_756 d_La_law_757 d_La_law_758 (by decide) rfl rfl (by omega) (by omega) ?_
  refine z_i2l d_La_law_759 rfl ?_
  refine z_bipush (v := 32) d_La_law_760 (by decide) ?_
  refine z_lshl d_La_law_762 rfl ?_
  refine z_sc (j := 2) d_La_law_763 d_La_law_764 d_La_law_766 d_La_law_767 d_La_law_768 (by decide) rfl rfl (by omega) (by omega) ?_
  refine z_i2l d_La_law_769 rfl ?_
  refine z_ldc2 d_La_law_770 gw_802 ?_
  refine z_land d_La_law_773 ?_
  refine z_lor d_La_law_774 ?_
  refine z_callV gt_good d_La_law_775 zv_La_92 hmm rfl (fun l => h2 l M1 hL1) rfl rfl ⟨(Nat.le_of_ble_eq_true rfl), (Nat.le_of_ble_eq_true rfl)⟩ (Nat.le_of_ble_eq_true rfl) (show 300 + 430 * c + 70 + 0 ≤ 601024 by omega) (show 30000 + 6010 * c + 6000 + 0 ≤ 7293000 by omega) ?_
  rintro _ M2 ⟨rfl, hL2⟩
  refine z_icmp_eq (tgt := 808) d_La_law_778 (by decide) (fun _ => ?_) (fun h => absurd rfl h)
  refine z_widen (show 300 + 430 * c + 70 + 0 ≤ 300 + 430 * (c + 1) by omega) (show 30000 + 6010 * c + 6000 + 0 ≤ 30000 + 6010 * (c + 1) by omega) ?_
  exact hx S' N' w M2 _ _ _ hI' hL2
set_option maxHeartbeats 4000000 in
set_option maxRecDepth 100000 in
theorem br_count {g : ZG} {k : ZK} {Qz : State → Prop} {x m out c : Nat} {S : MS} {N : NS} {w : Int64} {M : ZM} {l5 l6 l7 : Option Value} (hI : SI c S N) (hc : c ≤ 511) (hL : LW g.2.2.2.1 x m out S N w M) (hi : 1 + 6 * c + 6 ≤ sLn g) (hb : sLn g ≤ 3073) (hx : LNx g k Qz x m out c) : LU g k Qz (lwL g x m out (1 + 6 * c) l5 l6 l7) 783 [] M (300 + 430 * c) (30000 + 6010 * c) := by
  obtain ⟨a, S', N', hI', h1, h2⟩ := lc_count (g := g) (x := x) (m := m) (out := out) (w := w) hI (by omega) (sX g (1 + 6 * c + 1))
  obtain ⟨fs, hxx⟩ := hL.x
  refine z_aload_n d_La_law_783 rfl ?_
  refine z_sc (j := 1) d_La_law_784 d_La_law_785 d_La_law_787 d_La_law_788 d_La_law_789 (by decide) rfl rfl (by omega) (by omega) ?_
  refine z_callV gt_good d_La_law_790 zv_La_93 hxx rfl (fun l => h1 l M hL) rfl rfl ⟨(Nat.le_of_ble_eq_true rfl), (Nat.le_of_ble_eq_true rfl)⟩ (Nat.le_of_ble_eq_true rfl) (show 300 + 430 * c + 70 ≤ 601024 by omega) (show 30000 + 6010 * c + 6000 ≤ 7293000 by omega) ?_
  rintro _ M1 ⟨rfl, hL1⟩
  obtain ⟨fs1, hmm⟩ := hL1.m
  refine z_aload_n d_La_law_793 rfl ?_
  refine z_sc (j := 1) d_La_law_794 d_La_law_795 d_La_law_797 d_La_law_798 d_La_law_799 (by decide) rfl rfl (by omega) (by omega) ?_
  refine z_callV gt_good d_La_law_800 zv_La_96 hmm rfl (fun l => h2 l M1 hL1) rfl rfl ⟨(Nat.le_of_ble_eq_true rfl), (Nat.le_of_ble_eq_true rfl)⟩ (Nat.le_of_ble_eq_true rfl) (show 300 + 430 * c + 70 + 0 ≤ 601024 by omega) (show 30000 + 6010 * c + 6000 + 0 ≤ 7293000 by omega) ?_
  rintro _ M2 ⟨rfl, hL2⟩
  refine z_icmp_eq (tgt := 808) d_La_law_803 (by decide) (fun _ => ?_) (fun h => absurd rfl h)
  refine z_widen (show 300 + 430 * c + 70 + 0 ≤ 300 + 430 * (c + 1) by omega) (show 30000 + 6010 * c + 6000 + 0 ≤ 30000 + 6010 * (c + 1) by omega) ?_
  exact hx S' N' w M2 _ _ _ hI' hL2
set_option maxHeartbeats 4000000 in
set_option maxRecDepth 100000 in
theorem br_unit {g : ZG} {k : ZK} {Qz : State → Prop} {x m out c : Nat} {S : MS} {N : NS} {w : Int64} {M : ZM} {l5 l6 l7 : Option Value} (hI : SI c S N) (hc : c ≤ 511) (hL : LW g.2.2.2.1 x m out S N w M) (hi : 1 + 6 * c + 6 ≤ sLn g) (hb : sLn g ≤ 3073) (hx : LNx g k Qz x m out c) : LU g k Qz (lwL g x m out (1 + 6 * c) l5 l6 l7) 673 [] M (300 + 430 * c) (30000 + 6010 * c) := by
  obtain ⟨fs, hxx⟩ := hL.x
  refine z_aload_n d_La_law_673 rfl ?_
  refine z_sc (j := 1) d_La_law_674 d_La_law_675 d_La_law_677 d_La_law_678 d_La_law_679 (by decide) rfl rfl (by omega) (by omega) ?_
  refine z_sc (j := 2) d_La_law_680 d_La_law_681 d_La_law_683 d_La_law_684 d_La_law_685 (by decide) rfl rfl (by omega) (by omega) ?_
  refine z_if_eq (tgt := 693) d_La_law_686 (by decide) (fun h686 => ?_) (fun h686 => ?_)
  · obtain ⟨a, S', N', hI', h1, h2⟩ := lc_unit (g := g) (x := x) (m := m) (out := out) (w := w) hI (by omega) (sX g (1 + 6 * c + 1)) 0
    refine z_iconst (v := 0) d_La_law_693 (by decide) ?_
    refine z_callV gt_good d_La_law_694 zv_La_84 hxx rfl (fun l => h1 l M hL) rfl rfl ⟨(Nat.le_of_ble_eq_true rfl), (Nat.le_of_ble_eq_true rfl)⟩ (Nat.le_of_ble_eq_true rfl) (show 300 + 430 * c + 70 ≤ 601024 by omega) (show 30000 + 6010 * c + 6000 ≤ 7293000 by omega) ?_
    rintro _ M1 ⟨rfl, hL1⟩
    obtain ⟨fs1, hmm⟩ := hL1.m
    refine z_aload_n d_La_law_697 rfl ?_
    refine z_sc (j := 1) d_La_law_698 d_La_law_699 d_La_law_701 d_La_law_702 d_La_law_703 (by decide) rfl rfl (by omega) (by omega) ?_
    refine z_sc (j := 2) d_La_law_704 d_La_law_705 d_La_law_707 d_La_law_708 d_La_law_709 (by decide) rfl rfl (by omega) (by omega) ?_
    refine z_if_eq (tgt := 717) d_La_law_710 (by decide) (fun _ => ?_) (fun h => absurd h686 h)
    refine z_iconst (v := 0) d_La_law_717 (by decide) ?_
    refine z_callV gt_good d_La_law_718 zv_La_88 hmm rfl (fun l => h2 l M1 hL1) rfl rfl ⟨(Nat.le_of_ble_eq_true rfl), (Nat.le_of_ble_eq_true rfl)⟩ (Nat.le_of_ble_eq_true rfl) (show 300 + 430 * c + 70 + 0 ≤ 601024 by omega) (show 30000 + 6010 * c + 6000 + 0 ≤ 7293000 by omega) ?_
    rintro _ M2 ⟨rfl, hL2⟩
    refine z_icmp_eq (tgt := 808) d_La_law_721 (by decide) (fun _ => ?_) (fun h => absurd rfl h)
    refine z_widen (show 300 + 430 * c + 70 + 0 ≤ 300 + 430 * (c + 1) by omega) (show 30000 + 6010 * c + 6000 + 0 ≤ 30000 + 6010 * (c + 1) by omega) ?_
    exact hx S' N' w M2 _ _ _ hI' hL2
  · obtain ⟨a, S', N', hI', h1, h2⟩ := lc_unit (g := g) (x := x) (m := m) (out := out) (w := w) hI (by omega) (sX g (1 + 6 * c + 1)) 1
    refine z_iconst (v := 1) d_La_law_689 (by decide) ?_
    refine z_goto (tgt := 694) d_La_law_690 (by decide) ?_
    refine z_callV gt_good d_La_law_694 zv_La_84 hxx rfl (fun l => h1 l M hL) rfl rfl ⟨(Nat.le_of_ble_eq_true rfl), (Nat.le_of_ble_eq_true rfl)⟩ (Nat.le_of_ble_eq_true rfl) (show 300 + 430 * c + 70 ≤ 601024 by omega) (show 30000 + 6010 * c + 6000 ≤ 7293000 by omega) ?_
    rintro _ M1 ⟨rfl, hL1⟩
    obtain ⟨fs1, hmm⟩ := hL1.m
    refine z_aload_n d_La_law_697 rfl ?_
    refine z_sc (j := 1) d_La_law_698 d_La_law_699 d_La_law_701 d_La_law_702 d_La_law_703 (by decide) rfl rfl (by omega) (by omega) ?_
    refine z_sc (j := 2) d_La_law_704 d_La_law_705 d_La_law_707 d_La_law_708 d_La_law_709 (by decide) rfl rfl (by omega) (by omega) ?_
    refine z_if_eq (tgt := 717) d_La_law_710 (by decide) (fun h => absurd h h686) (fun _ => ?_)
    refine z_iconst (v := 1) d_La_law_713 (by decide) ?_
    refine z_goto (tgt := 718) d_La_law_714 (by decide) ?_
    refine z_callV gt_good d_La_law_718 zv_La_88 hmm rfl (fun l => h2 l M1 hL1) rfl rfl ⟨(Nat.le_of_ble_eq_true rfl), (Nat.le_of_ble_eq_true rfl)⟩ (Nat.le_of_ble_eq_true rfl) (show 300 + 430 * c + 70 + 0 ≤ 601024 by omega) (show 30000 + 6010 * c + 6000 + 0 ≤ 7293000 by omega) ?_
    rintro _ M2 ⟨rfl, hL2⟩
    refine z_icmp_eq (tgt := 808) d_La_law_721 (by decide) (fun _ => ?_) (fun h => absurd rfl h)
    refine z_widen (show 300 + 430 * c + 70 + 0 ≤ 300 + 430 * (c + 1) by omega) (show 30000 + 6010 * c + 6000 + 0 ≤ 30000 + 6010 * (c + 1) by omega) ?_
    exact hx S' N' w M2 _ _ _ hI' hL2
theorem lcmp_self (x : Int64) : lg_cmp x x = 0 := by
  simp [lg_cmp]
set_option maxHeartbeats 4000000 in
set_option maxRecDepth 100000 in
theorem br_get {g : ZG} {k : ZK} {Qz : State → Prop} {x m out c : Nat} {S : MS} {N : NS} {w : Int64} {M : ZM} {l5 l6 l7 : Option Value} (hI : SI c S N) (hc : c ≤ 511) (hL : LW g.2.2.2.1 x m out S N w M) (hi : 1 + 6 * c + 6 ≤ sLn g) (hb : sLn g ≤ 3073) (hx : LNx g k Qz x m out c) (hlt : k.2.1.stackTraces = false) : LU g k Qz (lwL g x m out (1 + 6 * c) l5 l6 l7) 213 [] M (300 + 430 * c) (30000 + 6010 * c) := by
  obtain ⟨a, bv, w', S', N', hI', h1, h2, h3, h4⟩ := lc_get (g := g) (x := x) (m := m) (out := out) (w := w) hI (by omega) (sX g (1 + 6 * c + 1)) (sX g (1 + 6 * c + 2))
  refine z_aload_n d_La_law_213 rfl ?_
  refine z_sc (j := 1) d_La_law_214 d_La_law_215 d_La_law_217 d_La_law_218 d_La_law_219 (by decide) rfl rfl (by omega) (by omega) ?_
  refine z_sc (j := 2) d_La_law_220 d_La_law_221 d_La_law_223 d_La_law_224 d_La_law_225 (by decide) rfl rfl (by omega) (by omega) ?_
  refine z_aload_n d_La_law_226 rfl ?_
  refine z_callSW (n := 4) gt_good d_La_law_227 gw_494 gw_495 gw_35 gw_496 ⟨by decide, by decide⟩ (by decide +kernel) (h1 k.2.1 M hlt hL) rfl rfl ⟨(Nat.le_of_ble_eq_true rfl), (Nat.le_of_ble_eq_true rfl)⟩ (Nat.le_of_ble_eq_true rfl) (show 300 + 430 * c + 80 ≤ 601024 by omega) (show 30000 + 6010 * c + 6010 ≤ 7293000 by omega) ?_
  rintro _ M1 ⟨rfl, hL1⟩
  obtain ⟨fs1, hmm⟩ := hL1.m
  refine z_istore d_La_law_230 (by decide) rfl ?_
  refine z_aload_n d_La_law_232 rfl ?_
  refine z_sc (j := 1) d_La_law_233 d_La_law_234 d_La_law_236 d_La_law_237 d_La_law_238 (by decide) rfl rfl (by omega) (by omega) ?_
  refine z_sc (j := 2) d_La_law_239 d_La_law_240 d_La_law_242 d_La_law_243 d_La_law_244 (by decide) rfl rfl (by omega) (by omega) ?_
  refine z_callV gt_good d_La_law_245 zv_La_37 hmm rfl (fun l => h2 l M1 hL1) rfl rfl ⟨(Nat.le_of_ble_eq_true rfl), (Nat.le_of_ble_eq_true rfl)⟩ (Nat.le_of_ble_eq_true rfl) (show 300 + 430 * c + 80 + 0 ≤ 601024 by omega) (show 30000 + 6010 * c + 6010 + 0 ≤ 7293000 by omega) ?_
  rintro _ M2 ⟨rfl, hL2⟩
  obtain ⟨fs2, hmm2⟩ := hL2.m
  refine z_lstore d_La_law_248 (by decide) rfl ?_
  refine z_aload_n d_La_law_250 rfl ?_
  refine z_callV gt_good d_La_law_251 zv_La_38 hmm2 rfl (fun l => h3 l M2 hL2) rfl rfl ⟨(Nat.le_of_ble_eq_true rfl), (Nat.le_of_ble_eq_true rfl)⟩ (Nat.le_of_ble_eq_true rfl) (show 300 + 430 * c + 80 + 0 + 0 ≤ 601024 by omega) (show 30000 + 6010 * c + 6010 + 0 + 0 ≤ 7293000 by omega) ?_
  rintro _ M3 ⟨rfl, hL3⟩
  refine z_iload d_La_law_254 rfl ?_
  refine z_icmp_eq (tgt := 261) d_La_law_256 (by decide) (fun _ => ?_) (fun h => absurd rfl h)
  refine z_iload d_La_law_261 rfl ?_
  refine z_if_ne (tgt := 277) d_La_law_263 (by decide) (fun h263 => ?_) (fun h263 => ?_)
  · refine z_goto (tgt := 808) d_La_law_277 (by decide) ?_
    refine z_widen (show 300 + 430 * c + 80 + 0 + 0 ≤ 300 + 430 * (c + 1) by omega) (show 30000 + 6010 * c + 6010 + 0 + 0 ≤ 30000 + 6010 * (c + 1) by omega) ?_
    exact hx S' N' w' M3 _ _ _ hI' hL3
  · refine z_aload_n d_La_law_266 rfl ?_
    refine z_iconst (v := nI 0) d_La_law_267 (by decide) ?_
    refine z_lald d_La_law_268 hL3.o rfl (by decide) rfl ?_
    refine z_lload d_La_law_269 rfl ?_
    refine z_lcmp d_La_law_271 ?_
    rw [h4 h263]
    refine z_if_eq (tgt := 277) d_La_law_272 (by decide) (fun _ => ?_) (fun h => absurd (lcmp_self bv) h)
    refine z_goto (tgt := 808) d_La_law_277 (by decide) ?_
    refine z_widen (show 300 + 430 * c + 80 + 0 + 0 ≤ 300 + 430 * (c + 1) by omega) (show 30000 + 6010 * c + 6010 + 0 + 0 ≤ 30000 + 6010 * (c + 1) by omega) ?_
    exact hx S' N' w' M3 _ _ _ hI' hL3
