def zcopy (vs0 vs1 : List Value) (sp dp n : Nat) : List Value := (List.range vs1.length).map (fun j => if dp ≤ j ∧ j < dp + n then vs0.getD (sp + (j - dp)) .null else vs1.getD j .null)
theorem zcopy_len (vs0 vs1 : List Value) (sp dp n : Nat) : (zcopy vs0 vs1 sp dp n).length = vs1.length := by simp [zcopy]
theorem zarrV_congr {c : ClassId} {N : Nat} {f f' : Nat → Value} (h : ∀ j, j < N → f j = f' j) : arrV c N f = arrV c N f' := by
  unfold arrV
  congr 1
  apply Array.ext
  · simp
  · intro i h1 h2
    simp only [Array.getElem_ofFn]
    exact h i (by simpa using h1)
theorem zcopied (c0 c1 : ClassId) (vs0 vs1 : List Value) {sp dp n : Nat} (hs : sp + n ≤ vs0.length) : (zarr c1 vs1).storeRun dp ((zarr c0 vs0).stretch sp n) = zarr c1 (zcopy vs0 vs1 sp dp n) := by
  rw [zarr_arrV c1 vs1, zarr_arrV c0 vs0, zarr_arrV c1 (zcopy vs0 vs1 sp dp n), zcopy_len]
  refine (va_copied (fun v : Value => v) c0 c1 (fun j => vs0.getD j .null) (fun j => vs1.getD j .null) hs).trans (zarrV_congr fun j hj => ?_)
  simp only [va_cpy, zcopy, List.getD_eq_getElem?_getD, List.getElem?_map]
  rw [List.getElem?_range hj]
  rfl
theorem znn (z : Nat) (h : z < 2 ^ 31) : (nI z).toInt = (z : Int) := nI_toInt h
section ZJ
variable {cl : List vw_C} {tl : List FieldType} {Ts : List Cond} {own : String} {cc : ByteArray} {nL : Nat} {ret : Option FieldType} {nm : String} {R : Room} {g : ZG} {k : ZK} {post : Option Value → ZM → Prop} {Qz : State → Prop} {L L' : List (Option Value)} {pc : Nat} {st : List Value} {M : ZM} {n1 n2 : Nat}
def zElems (cl : List vw_C) (M : ZM) (vs : List Value) : Prop := ∀ v ∈ vs, v = .null ∨ ∃ (b ci : Nat) (fs : List Value) (r : vw_C), v = .ref b ∧ M b = some (.inr (ci, fs)) ∧ cl[ci]? = some r ∧ (r.1, "java/lang/Object") ∈ zCa
theorem z_copy {a0 a1 ix sp dp n : Nat} {vs0 vs1 : List Value} (hd : decode cc pc = .ok (.invokestatic ix, 3)) (hlk : Cond.methodLink own ix arraycopyName ∈ Ts) (hnat : Cond.native arraycopyName ∈ Ts) (hstat : Cond.static arraycopyName ∈ Ts) (hini : Cond.initialized "java/lang/System" ∈ Ts) (ht : tl[0]? = some (.object "java/lang/Object")) (hM0 : M a0 = some (.inl (0, vs0))) (hM1 : M a1 = some (.inl (0, vs1))) (h4 : sp + n ≤ vs0.length) (h5 : dp + n ≤ vs1.length) (h6 : vs0.length < 2 ^ 31) (h7 : vs1.length < 2 ^ 31) (h8 : 0 < vs1.length) (hel : zElems cl M vs0) (hf : 1 ≤ R.frames) (hlo : (st.map fun v => v.category).sum + (nativeFrameWords "java/lang/System" "arraycopy" 5 + 11) ≤ R.locals)
    (h : ZU cl tl Ts own cc nL ret nm R g k Qz L (pc + 3) st (zset M a1 (.inl (0, zcopy vs0 vs1 sp dp n))) n1 n2) : ZU cl tl Ts own cc nL ret nm R g k Qz L pc (.int (nI n) :: .int (nI dp) :: .ref a1 :: .int (nI sp) :: .ref a0 :: st) M n1 n2 := by
  intro X ls H locs hl hL hP hS
  have hts := X.2.2.2.2.1
  obtain ⟨ce0, hc0, hcls0, hsl0, hns0, hun0⟩ := hP.cellW hM0
  have hc1 : H[a1]? = some (zarr (g.2.1 0) vs1) := hP.cell hM1 h8
  obtain ⟨hz, hA⟩ := hP.arr hM1 h8
  obtain ⟨r0, kA, comp, r1, r2, r3, r4⟩ := X.2.2.2.2.2.2.2.2.1.2.1 0 _ ht
  obtain ⟨kE, hkE, -⟩ := Vm.findClass_spec r3
  have hcs : (nI sp).toNatClampNeg = sp := nI_clamp (by omega)
  have hcd : (nI dp).toNatClampNeg = dp := nI_clamp (by omega)
  have hcn : (nI n).toNatClampNeg = n := nI_clamp (by omega)
  intro T hT Y
  obtain ⟨vm', Y', step⟩ := Y.arraycopy X.1 X.2.2.2.1 (hts _ hlk) (hts _ hnat) (hts _ hstat) (hts _ hini) (src := a0) (dst := a1) (cs := ce0) (cd := zarr (g.2.1 0) vs1) (srcPos := nI sp) (destPos := nI dp) (n := nI n) (by rw [hT]; exact hc0) (by rw [hT]; exact hc1)
    hns0 (fun _ h => by cases h) hun0 (fun h => by cases h) (by rw [hcls0]; exact r1) r1 r2 r2 rfl (nI_pos (by omega)) (nI_pos (by omega)) (nI_pos (by omega))
    (by rw [znn sp (by omega), znn n (by omega), hsl0]; simp; omega)
    (by rw [znn dp (by omega), znn n (by omega)]; simp [zarr]; omega)
    (fun vm₁ hal i hi => by
      rw [hcn] at hi
      rw [hcs]
      have hlt : sp + i < vs0.length := by omega
      have e : ce0.slots.getD (sp + i) .null = vs0[sp + i] := by
        rw [hsl0]
        simp [Array.getD, hlt]
      rw [e]
      rcases hel _ (List.getElem_mem hlt) with q | ⟨b, ci, fs, r, q, qM, qc, qa⟩
      · rw [q]
        exact ⟨rfl, trivial⟩
      · rw [q]
        obtain ⟨cellV, g1, g2, g3⟩ := hP.recv X.2.2.2.2.2.2.2.2.1 qM qc
        obtain ⟨kC, hkC, -⟩ := Vm.findClass_spec g3
        obtain ⟨kC', hkC', -⟩ := hal.2.2 _ _ hkC
        obtain ⟨kE', hkE', -⟩ := hal.2.2 _ _ hkE
        refine ⟨rfl, cellV, (show T.heap[b]? = some cellV by rw [hT]; exact g1), (fun q h => by rw [h] at g2; cases g2), ⟨kC', hkC'⟩, ⟨kE', hkE'⟩, ?_⟩
        show vm₁.assignable _ _ = true
        rw [hal.assignable]
        obtain ⟨c0, t1, f1, f2, f3⟩ := Cond.castable_spec (va_Nw.use (A := k.2.2.2.2.2.1) rfl (X.2.2.2.2.2.2.2.2.1.2.2.2.1 _ qa))
        cases g3.symm.trans f1
        cases r3.symm.trans f2
        exact f3)
    (g := F0 k.2.2.2.2.1 pc ls (.int (nI n) :: .int (nI dp) :: .ref a1 :: .int (nI sp) :: .ref a0 :: st)) rfl (by rw [X.2.2.1]; show ls.size = nL; rw [hl.2.1, hL]) (rest := st) rfl (by rw [X.2.1]; exact hd) hf (by show 2 * 0 + _ + _ ≤ _; omega)
  have e1 : copied ce0 (zarr (g.2.1 0) vs1) (nI sp) (nI dp) (nI n) = zarr (g.2.1 0) (zcopy vs0 vs1 sp dp n) := by
    have := zcopied (g.2.1 0) (g.2.1 0) vs0 vs1 (dp := dp) h4
    rw [← this]
    show (zarr (g.2.1 0) vs1).storeRun (nI dp).toNatClampNeg (ce0.stretch (nI sp).toNatClampNeg (nI n).toNatClampNeg) = _
    rw [hcs, hcd, hcn]
    have est : ce0.stretch sp n = (zarr (g.2.1 0) vs0).stretch sp n := by
      unfold Cell.stretch
      rw [hsl0]
      rfl
    rw [est]
  rw [e1] at Y' step
  have hlt : a1 < H.size := (Array.getElem?_eq_some_iff.mp hc1).1
  have hheap : ((T.setVm vm').setCell a1 (zarr (g.2.1 0) (zcopy vs0 vs1 sp dp n))).heap = H.setIfInBounds a1 (zarr (g.2.1 0) (zcopy vs0 vs1 sp dp n)) := by rw [← hT]; rfl
  have oq : ∀ q : Nat, q ≠ a1 → (H.setIfInBounds a1 (zarr (g.2.1 0) (zcopy vs0 vs1 sp dp n)))[q]? = H[q]? := fun q hq => by simp [Array.getElem?_setIfInBounds, Ne.symm hq]
  obtain ⟨t, b1, b2⟩ := h X ls _ _ hl hL (hP.set hz hA ⟨_, (show (H.setIfInBounds a1 _)[a1]? = some (zarr _ _) by simp [Array.getElem?_setIfInBounds, hlt]), Or.inl rfl⟩ (fun q hq _ => oq q hq)) ⟨by simp; exact hS.1, fun q g1 g2 => by
      rw [oq q (fun e => g2 (by rw [e]; exact hA))]
      exact hS.2.1 q g1 g2, fun q hq => by
      rcases List.mem_append.mp hq with h | h
      · exact hS.2.2 q h
      · obtain ⟨z, -, hz⟩ := List.mem_map.mp h
        rw [← hz]
        exact hA⟩ _ hheap Y'
  exact ⟨t, step t b1, b2⟩
theorem z_mmax {x y : Int32} {ix : Nat} (hd : decode cc pc = .ok (.invokestatic ix, 3)) (hlk : Cond.methodLink own ix Lib.Math.max.name ∈ Ts) (hst : Cond.static Lib.Math.max.name ∈ Ts) (hini : Cond.initialized "java/lang/Math" ∈ Ts) (hco : Cond.code Lib.Math.max.name Lib.Math.max.code 2 (some .int) ∈ Ts) (hf : 1 ≤ R.frames) (hlo : (st.map fun v => v.category).sum + 13 ≤ R.locals) (hc1 : n1 ≤ R.cells) (hc2 : n2 ≤ R.slots) (h : ZU cl tl Ts own cc nL ret nm R g k Qz L (pc + 3) (.int (if x < y then y else x) :: st) M n1 n2) : ZU cl tl Ts own cc nL ret nm R g k Qz L pc (.int y :: .int x :: st) M n1 n2 := by
  intro X ls H locs hl hL hP hS
  have hts := X.2.2.2.2.1
  exact va_mmax X.1 X.2.1 (by rw [X.2.2.1, hl.2.1, hL]) X.2.2.2.1 (hts _ hlk) (hts _ hst) (hts _ hini) (hts _ hco) hf hlo hc1 hc2 hd (h X ls H locs hl hL hP hS)
theorem z_mmin {x y : Int32} {ix : Nat} (hd : decode cc pc = .ok (.invokestatic ix, 3)) (hlk : Cond.methodLink own ix Lib.Math.min.name ∈ Ts) (hst : Cond.static Lib.Math.min.name ∈ Ts) (hini : Cond.initialized "java/lang/Math" ∈ Ts) (hco : Cond.code Lib.Math.min.name Lib.Math.min.code 2 (some .int) ∈ Ts) (hf : 1 ≤ R.frames) (hlo : (st.map fun v => v.category).sum + 13 ≤ R.locals) (hc1 : n1 ≤ R.cells) (hc2 : n2 ≤ R.slots) (h : ZU cl tl Ts own cc nL ret nm R g k Qz L (pc + 3) (.int (if y < x then y else x) :: st) M n1 n2) : ZU cl tl Ts own cc nL ret nm R g k Qz L pc (.int y :: .int x :: st) M n1 n2 := by
  intro X ls H locs hl hL hP hS
  have hts := X.2.2.2.2.1
  exact va_mmin X.1 X.2.1 (by rw [X.2.2.1, hl.2.1, hL]) X.2.2.2.1 (hts _ hlk) (hts _ hst) (hts _ hini) (hts _ hco) hf hlo hc1 hc2 hd (h X ls H locs hl hL hP hS)
/-- the array's own Class object, the same twice -/
theorem z_getC {a ix : Nat} {vs : List Value} (hd : decode cc pc = .ok (.invokevirtual ix, 3)) (hlk : Cond.methodLink own ix ⟨"java/lang/Object", "getClass", "()Ljava/lang/Class;"⟩ ∈ Ts) (hsel : Cond.selects "[Ljava/lang/Object;" ⟨"java/lang/Object", "getClass", "()Ljava/lang/Class;"⟩ ⟨"java/lang/Object", "getClass", "()Ljava/lang/Class;"⟩ ∈ Ts) (hin : Cond.instanceMethod ⟨"java/lang/Object", "getClass", "()Ljava/lang/Class;"⟩ ∈ Ts) (hnat : Cond.native ⟨"java/lang/Object", "getClass", "()Ljava/lang/Class;"⟩ ∈ Ts) (hM : M a = some (.inl (0, vs))) (ht : tl[0]? = some (.object "java/lang/Object")) (hf : 1 ≤ R.frames) (hlo : (st.map fun v => v.category).sum + 14 ≤ R.locals)
    (h : ZU cl tl Ts own cc nL ret nm R g k Qz L (pc + 3) (.ref g.2.2.2.2.1 :: st) M n1 n2) : ZU cl tl Ts own cc nL ret nm R g k Qz L pc (.ref a :: st) M n1 n2 := by
  intro X ls H locs hl hL hP hS
  have hts := X.2.2.2.2.1
  have hmi := X.2.2.2.2.2.2.2.2.1.2.2.2.2.2
  have hra := (X.2.2.2.2.2.2.2.2.1.2.1 0 _ ht).2
  obtain ⟨ce, c1, c2, c3, c4, c5⟩ := hP.cellW hM
  have c4' : ce.vm.isStatics = false := by
    cases hv : ce.vm with
    | statics q => exact absurd hv (c4 q)
    | _ => rfl
  exact va_getC X.1 X.2.1 (by rw [X.2.2.1, hl.2.1, hL]) X.2.2.2.1 (hts _ hlk) (va_Dc.use X.2.2.2.2.2.2.2.2.1.2.2.2.2.1) (hts _ hsel) (hts _ hin) (hts _ hnat) hmi ⟨ce, c1, c4', by rw [c2]; exact va_nmO hra (by decide)⟩ hf hlo hd (h X ls H locs hl hL hP hS)
theorem z_ldcM {ix : Nat} (hd : decode cc pc = .ok (.ldc ix, 2)) (hlk : Cond.classLink own ix "[Ljava/lang/Object;" ∈ Ts) (h : ZU cl tl Ts own cc nL ret nm R g k Qz L (pc + 2) (.ref g.2.2.2.2.1 :: st) M n1 n2) : ZU cl tl Ts own cc nL ret nm R g k Qz L pc st M n1 n2 :=
  fun X ls H locs hl hL hP hS => va_ldcM X.1 X.2.1 X.2.2.2.1 (X.2.2.2.2.1 _ hlk) X.2.2.2.2.2.2.2.2.1.2.2.2.2.2 hd (h X ls H locs hl hL hP hS)
theorem z_irem {x y : Int32} (hd : decode cc pc = .ok (.irem, 1)) (hne : ¬ y = 0) (h : ZU cl tl Ts own cc nL ret nm R g k Qz L (pc + 1) (.int (x - x / y * y) :: st) M n1 n2) : ZU cl tl Ts own cc nL ret nm R g k Qz L pc (.int y :: .int x :: st) M n1 n2 :=
  fun X ls H locs hl hL hP hS => lv_irem X.1 X.2.1 hd hne (h X ls H locs hl hL hP hS)
theorem z_zast {a t j : Nat} {vs : List Value} {x : Int32} (hd : decode cc pc = .ok (.bastore, 1)) (hM : M a = some (.inl (t, vs))) (ht : tl[t]? = some .boolean) (hj : j < 2 ^ 31) (hlt : j < vs.length) (hx : narrow .boolean (.int x) = .int x) (h : ZU cl tl Ts own cc nL ret nm R g k Qz L (pc + 1) st (zset M a (.inl (t, vs.set j (.int x)))) n1 n2) : ZU cl tl Ts own cc nL ret nm R g k Qz L pc (.int x :: .int (nI j) :: .ref a :: st) M n1 n2 := by
  intro X ls H locs hl hL hP hS
  exact W.zast X.1 X.2.1 (hP.cell hM hlt) (zarr_of (X.2.2.2.2.2.2.2.2.1.2.1 t _ ht).1 vs) (fun q => by cases q) (zinb hj hlt) rfl rfl hd fun H' e1 e2 e3 => h X ls H' _ hl hL (hP.setA hM hlt hj (by rw [← hx]; exact e1) e3) (hS.put e2 e3 (hP.arr hM hlt).2)
theorem z_tableOut {dflt lo hi : Int} {offs : Array Int} {len : Nat} {x : Int32} {tgt : Nat} (hd : decode cc pc = .ok (.tableswitch dflt lo hi offs, len)) (hx : x.toInt < lo ∨ hi < x.toInt) (ht : (pc : Int) + dflt = (tgt : Int)) (h : ZU cl tl Ts own cc nL ret nm R g k Qz L tgt st M n1 n2) : ZU cl tl Ts own cc nL ret nm R g k Qz L pc (.int x :: st) M n1 n2 :=
  fun X ls H locs hl hL hP hS => lv_tableOut X.1 X.2.1 hd hx ht (h X ls H locs hl hL hP hS)
theorem z_tableIn {dflt lo hi : Int} {offs : Array Int} {len : Nat} {x : Int32} {off : Int} {tgt : Nat} (hd : decode cc pc = .ok (.tableswitch dflt lo hi offs, len)) (h1 : ¬ x.toInt < lo) (h2 : ¬ hi < x.toInt) (ho : offs[(x.toInt - lo).toNat]? = some off) (ht : (pc : Int) + off = (tgt : Int)) (h : ZU cl tl Ts own cc nL ret nm R g k Qz L tgt st M n1 n2) : ZU cl tl Ts own cc nL ret nm R g k Qz L pc (.int x :: st) M n1 n2 :=
  fun X ls H locs hl hL hP hS => lv_tableIn X.1 X.2.1 hd h1 h2 ho ht (h X ls H locs hl hL hP hS)
theorem z_acmpR_eq {x y : Nat} {off : Int} {tgt : Nat} (hd : decode cc pc = .ok (.if_acmp .eq off, 3)) (ht : (pc : Int) + off = (tgt : Int)) (h1 : x = y → ZU cl tl Ts own cc nL ret nm R g k Qz L tgt st M n1 n2) (h2 : ¬ x = y → ZU cl tl Ts own cc nL ret nm R g k Qz L (pc + 3) st M n1 n2) : ZU cl tl Ts own cc nL ret nm R g k Qz L pc (.ref y :: .ref x :: st) M n1 n2 :=
  z_acmp_eq (x := some x) (y := some y) hd ht (fun q => h1 (Option.some.inj q)) (fun q => h2 (fun e => q (congrArg some e)))
theorem z_acmpR_ne {x y : Nat} {off : Int} {tgt : Nat} (hd : decode cc pc = .ok (.if_acmp .ne off, 3)) (ht : (pc : Int) + off = (tgt : Int)) (h1 : ¬ x = y → ZU cl tl Ts own cc nL ret nm R g k Qz L tgt st M n1 n2) (h2 : x = y → ZU cl tl Ts own cc nL ret nm R g k Qz L (pc + 3) st M n1 n2) : ZU cl tl Ts own cc nL ret nm R g k Qz L pc (.ref y :: .ref x :: st) M n1 n2 :=
  z_acmp_ne (x := some x) (y := some y) hd ht (fun q => h1 (fun e => q (congrArg some e))) (fun q => h2 (Option.some.inj q))
end ZJ
