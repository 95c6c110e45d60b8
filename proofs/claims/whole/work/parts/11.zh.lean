def ZF (cl : List vw_C) (Ts : List Cond) (own : String) (ix ci i : Nat) : Prop := ∃ (C : String) (T : u_T) (N : Nat) (ref : String), cl[ci]? = some (C, T, N) ∧ i < N ∧ (∀ w ∈ u_ws C T N, w ∈ Ts) ∧ Cond.fieldLink own ix ref (T i).2.1 (T i).2.2.1 ∈ Ts ∧ (ref = (T i).1 ∨ Cond.sameField ref (T i).1 (T i).2.1 (T i).2.2.1 ∈ Ts)
def ZL (T : u_T) (N : Nat) (ty0 : Nat → FieldType) : Prop := (∀ k, k < N → parseFieldDescriptor (T k).2.2.1 = some (ty0 k)) ∧ ∀ a, a < N → ∀ b, b < N → a ≠ b → (T a).2.1 ≠ (T b).2.1
def ZFp (cl : List vw_C) (Ts : List Cond) (own : String) (ix ci i : Nat) (fin : Bool) (ty : FieldType) : Prop := ∃ (C : String) (T : u_T) (N : Nat) (ref : String) (ty0 : Nat → FieldType), cl[ci]? = some (C, T, N) ∧ i < N ∧ (∀ w ∈ u_ws C T N, w ∈ Ts) ∧ Cond.fieldLink own ix ref (T i).2.1 (T i).2.2.1 ∈ Ts ∧ (ref = (T i).1 ∨ Cond.sameField ref (T i).1 (T i).2.1 (T i).2.2.1 ∈ Ts) ∧ ZL T N ty0 ∧ (T i).2.2.2 = fin ∧ ty0 i = ty ∧ (fin = true → (T i).1 = own)
theorem zsame {Ts : List Cond} {s : State} {args : Array Value} {ref o n d : String} (hts : ∀ w ∈ Ts, w.before args s = true) (h : ref = o ∨ Cond.sameField ref o n d ∈ Ts) (x : ClassId × Class × Nat × Field) (hx : s.fieldFound? o n d = some x) : s.fieldFound? ref n d = some x := by
  rcases h with rfl | h
  · exact hx
  · exact u_same (hts _ h) x hx
section ZH
variable {cl : List vw_C} {tl : List FieldType} {Ts : List Cond} {own : String} {cc : ByteArray} {nL : Nat} {ret : Option FieldType} {nm : String} {R : Room} {g : ZG} {k : ZK} {post : Option Value → ZM → Prop} {Qz : State → Prop} {L L' : List (Option Value)} {pc : Nat} {st : List Value} {M : ZM} {n1 n2 : Nat}
theorem ZX.va_K {cl : List vw_C} {tl : List FieldType} {Ts : List Cond} {own : String} {cc : ByteArray} {nL : Nat} {ret : Option FieldType} {nm : String} {g : ZG} {k : ZK} (X : ZX cl tl Ts own cc nL ret nm g k) : va_K g.1 cl [] k.2.2.2.1 := ⟨X.2.2.2.2.2.2.2.2.1.1, fun k q h => by simp at h⟩
theorem z_get {a ix ci i : Nat} {fs : List Value} {v : Value} (hd : decode cc pc = .ok (.getfield ix, 3)) (hf : ZF cl Ts own ix ci i) (hM : M a = some (.inr (ci, fs))) (hv : fs[i]? = some v) (h : ZU cl tl Ts own cc nL ret nm R g k Qz L (pc + 3) (v :: st) M n1 n2) : ZU cl tl Ts own cc nL ret nm R g k Qz L pc (.ref a :: st) M n1 n2 := by
  intro X ls H locs hl hL hP hS
  obtain ⟨C, T, N, ref, hc, hi, hin, hlk, hsm⟩ := hf
  have hts := X.2.2.2.2.1
  obtain ⟨r, h1, h2, cell, q1, q2, q3, q4⟩ := hP.1 a _ hM
  have hr : r = (C, T, N) := Option.some.inj (h1.symm.trans hc)
  subst hr
  obtain ⟨hS', hfc, kC, hkC, hkind⟩ := X.va_K.1 ci _ hc
  obtain ⟨cf, kf, fi, f, hi', hsl⟩ := hS' i hi
  refine W.getf X.1 X.2.1 X.2.2.2.1 (hts _ hlk) (zsame hts hsm _ hi') (u_facts hfc hkC (u_lays hts hin hi) hi').1 q1 (by rw [q3]; exact fun h => by cases h) (v := v) ?_ rfl rfl hd (h X ls H locs hl hL hP hS)
  rw [hsl, q4 i hi]
  simp [vp_V, hv]
theorem z_put {a ix ci i : Nat} {fs : List Value} {v : Value} {ty : FieldType} (hd : decode cc pc = .ok (.putfield ix, 3)) (hf : ZFp cl Ts own ix ci i false ty) (hM : M a = some (.inr (ci, fs))) (hn : narrow ty v = v) (hfit : fits ty v = true) (h : ZU cl tl Ts own cc nL ret nm R g k Qz L (pc + 3) st (zset M a (.inr (ci, fs.set i v))) n1 n2) : ZU cl tl Ts own cc nL ret nm R g k Qz L pc (v :: .ref a :: st) M n1 n2 := by
  intro X ls H locs hl hL hP hS
  obtain ⟨C, T, N, ref, ty0, hc, hi, hin, hlk, hsm, ⟨hty, hnm⟩, hfin, hti, -⟩ := hf
  have hts := X.2.2.2.2.1
  have hap := va_apart (own := own) hts hin ty0 hty hnm X.va_K hc
  obtain ⟨hz, hA⟩ := hP.obj hM
  obtain ⟨r, h1, h2, cell, q1, q2, q3, q4⟩ := hP.1 a _ hM
  have hr : r = (C, T, N) := Option.some.inj (h1.symm.trans hc)
  subst hr
  obtain ⟨hS', hfc, kC, hkC, hkind⟩ := X.va_K.1 ci _ hc
  obtain ⟨cf, kf, fi, f, hi', hsl⟩ := hS' i hi
  have hlay := hts _ (hin _ (u_in_lay hi))
  unfold u_lay at hlay
  rw [if_neg (by rw [hfin]; decide)] at hlay
  have hst := (u_facts hfc hkC (u_lays hts hin hi) hi').1
  have h6 := u_store hfc hkC hkind hlay hi' (by rw [hty i hi, hti]) hn hfit
  refine W.putK X.1 X.2.1 (f := f) ⟨X.2.2.2.1, hts _ hlk, ⟨_, _, _, zsame hts hsm _ hi'⟩, hst⟩ (by rw [q2]; exact h6) q1 q3 (by rw [hsl]; exact k2_hasslot (q4 i hi)) rfl rfl hd fun H' e1 e2 e3 => ?_
  rw [hsl] at e1 ⊢
  have hil : i < fs.length := by simp at h2; omega
  exact h X ls H' _ hl hL (hP.set hz hA ⟨_, hc, by simpa using h2, t_OB.to (V := updV (vp_V fs) i v) ⟨_, e1, q2, q3, t_set q4 hap hi v⟩ (fun j _ => vp_updV_set hil v j)⟩ (fun q hq _ => e3 q hq)) (hS.put e2 e3 hA)
theorem z_putF {a ix ci i : Nat} {fs : List Value} {v : Value} {ty : FieldType} (hd : decode cc pc = .ok (.putfield ix, 3)) (hf : ZFp cl Ts own ix ci i true ty) (hnm2 : nm = "<init>") (hM : M a = some (.inr (ci, fs))) (hn : narrow ty v = v) (hfit : fits ty v = true) (h : ZU cl tl Ts own cc nL ret nm R g k Qz L (pc + 3) st (zset M a (.inr (ci, fs.set i v))) n1 n2) : ZU cl tl Ts own cc nL ret nm R g k Qz L pc (v :: .ref a :: st) M n1 n2 := by
  intro X ls H locs hl hL hP hS
  obtain ⟨C, T, N, ref, ty0, hc, hi, hin, hlk, hsm, ⟨hty, hnm⟩, hfin, hti, hdecl⟩ := hf
  have hts := X.2.2.2.2.1
  have hap := va_apart (own := own) hts hin ty0 hty hnm X.va_K hc
  obtain ⟨hz, hA⟩ := hP.obj hM
  obtain ⟨r, h1, h2, cell, q1, q2, q3, q4⟩ := hP.1 a _ hM
  have hr : r = (C, T, N) := Option.some.inj (h1.symm.trans hc)
  subst hr
  obtain ⟨hS', hfc, kC, hkC, hkind⟩ := X.va_K.1 ci _ hc
  obtain ⟨cf, kf, fi, f, hi', hsl⟩ := hS' i hi
  have hlay := hts _ (hin _ (u_in_lay hi))
  unfold u_lay at hlay
  rw [if_pos hfin] at hlay
  have hst := (u_facts hfc hkC (u_lays hts hin hi) hi').1
  have hcf : k.2.2.2.2.1.cls = cf := by
    obtain ⟨_, _, c', _, _, _, -, -, hf', -, -, -, hown2, -⟩ := Cond.laysFinal_spec hlay
    have e1 : c' = cf := by have := hi'.symm.trans hf'; simp at this; exact this.1.symm
    rw [hdecl rfl] at hown2
    rw [← e1]; exact Option.some.inj (X.2.2.2.1.symm.trans hown2)
  have h6 := u_fits hfc hkC hkind (Or.inr hlay) hi' (by rw [hty i hi, hti]) hn hfit
  refine W.putFinK X.1 X.2.1 X.2.2.2.1 (hts _ hlk) (zsame hts hsm _ hi') hst hcf (X.2.2.2.2.2.2.2.1.trans hnm2) (by rw [q2]; exact h6) q1 q3 (by rw [hsl]; exact k2_hasslot (q4 i hi)) rfl rfl hd fun H' e1 e2 e3 => ?_
  rw [hsl] at e1 ⊢
  have hil : i < fs.length := by simp at h2; omega
  exact h X ls H' _ hl hL (hP.set hz hA ⟨_, hc, by simpa using h2, t_OB.to (V := updV (vp_V fs) i v) ⟨_, e1, q2, q3, t_set q4 hap hi v⟩ (fun j _ => vp_updV_set hil v j)⟩ (fun q hq _ => e3 q hq)) (hS.put e2 e3 hA)
theorem zS_push {A : Nat → Prop} {H0 H H1 : Heap} {locs : List Loc} (hS : va_S A H0 H locs) (z1 : H1.size = H.size + 1) (o1 : ∀ q : Nat, q < H.size → H1[q]? = H[q]?) : va_S A H0 H1 locs :=
  ⟨Nat.le_trans hS.1 (by omega), fun x h1 h2 => (o1 x (Nat.lt_of_lt_of_le h1 hS.1)).trans (hS.2.1 x h1 h2), hS.2.2⟩
theorem zP.push {cl : List vw_C} {g : ZG} {M : ZM} {H H1 : Heap} (hP : zP cl g M H) {e : ZE} (hA : g.2.2.1 H.size) (o1 : ∀ q : Nat, q < H.size → H1[q]? = H[q]?) (he : zat cl g H.size e H1) : zP cl g (zset M H.size e) H1 :=
  hP.set (fun q => by have := hP.lt hP.2.2; omega) hA he (fun q _ hm => by
    cases hq : M q with
    | none => exact absurd hq hm
    | some e => exact o1 q (hP.lt hq))
def ZN (cl : List vw_C) (Ts : List Cond) (own : String) (ix ci : Nat) (fs : List Value) : Prop := ∃ (C : String) (T : u_T) (N : Nat) (ty0 : Nat → FieldType), cl[ci]? = some (C, T, N) ∧ (∀ w ∈ u_ws C T N, w ∈ Ts) ∧ ZL T N ty0 ∧ Cond.classLink own ix C ∈ Ts ∧ Cond.instantiable C N ∈ Ts ∧ Cond.initialized C ∈ Ts ∧ fs.length = N ∧ ∀ j, j < N → defaultValue (ty0 j) = vp_V fs j
theorem z_new {ix ci : Nat} {fs : List Value} (hd : decode cc pc = .ok (.new ix, 3)) (hf : ZN cl Ts own ix ci fs) (hc1 : n1 + 1 ≤ R.cells) (hc2 : n2 + fs.length ≤ R.slots) (h : ∀ q : Nat, M q = none → ZU cl tl Ts own cc nL ret nm R g k Qz L (pc + 3) (.ref q :: st) (zset M q (.inr (ci, fs))) (n1 + 1) (n2 + fs.length)) : ZU cl tl Ts own cc nL ret nm R g k Qz L pc st M n1 n2 := by
  intro X ls H locs hl hL hP hS
  obtain ⟨C, T, N, ty0, hc, hin, ⟨hty, hnm⟩, hlk, hins, hini, hlen, hfs⟩ := hf
  subst hlen
  have hts := X.2.2.2.2.1
  have hKn := X.va_K.1 ci _ hc
  refine W.newcK X.1 X.2.1 X.2.2.2.1 (hts _ hlk) (hts _ hins) (hts _ hini) rfl hd hc1 hc2 hKn.2.1 rfl fun H1 kC hkC e1 z1 o1 => ?_
  exact h H.size (hP.fresh (Nat.le_refl _)) X ls H1 locs hl hL (hP.push (X.2.2.2.2.2.2.2.2.2.1 _ hS.1) o1 ⟨_, hc, rfl, (u_born ty0 hts hin hKn hkC e1 hty).to hfs⟩) (zS_push hS z1 o1)
theorem z_newarr {t N : Nat} {at0 : ArrayType} {ty : FieldType} {n : Int32} (hd : decode cc pc = .ok (.newarray at0, 2)) (hty : newarray.typeOf at0 = ty) (hw : Cond.arrayClass ty ∈ Ts) (ht : tl[t]? = some ty) (hra : ∀ (U : State) (c : ClassId), va_RA U c ty → U.vm.findClass ("[" ++ ty.toString) = some c) (hn : n = nI N) (hN : N < 2 ^ 26) (hc1 : n1 + 1 ≤ R.cells) (hc2 : n2 + N ≤ R.slots) (hb : componentBytes ty ≤ 8) (h : ∀ q : Nat, M q = none → ZU cl tl Ts own cc nL ret nm R g k Qz L (pc + 2) (.ref q :: st) (zset M q (.inl (t, List.replicate N (defaultValue ty)))) (n1 + 1) (n2 + N)) : ZU cl tl Ts own cc nL ret nm R g k Qz L pc (.int n :: st) M n1 n2 := by
  intro X ls H locs hl hL hP hS
  subst hty
  subst hn
  have hts := X.2.2.2.2.1
  obtain ⟨r1, r2⟩ := X.2.2.2.2.2.2.2.2.1.2.1 t _ ht
  have hbb : N * componentBytes (newarray.typeOf at0) ≤ 536870912 := Nat.le_trans (Nat.mul_le_mul (Nat.le_of_lt hN) hb) (by decide)
  refine va_newaK X.1 X.2.1 (hts _ hw) rfl hd rfl (nI_pos (by omega)) (nI_clamp (by omega)) hbb hc1 hc2 rfl fun H1 cA e1 z1 o1 hAr hNm => ?_
  have hcA : cA = g.2.1 t := Option.some.inj (hNm.symm.trans (hra _ _ r2))
  subst hcA
  refine h H.size (hP.fresh (Nat.le_refl _)) X ls H1 locs hl hL (hP.push (X.2.2.2.2.2.2.2.2.2.1 _ hS.1) o1 ?_) (zS_push hS z1 o1)
  refine ⟨_, ?_, Or.inl rfl⟩
  rw [e1, ← arrV_new]
  simp [zarr]
theorem z_anew {t N ix : Nat} {C : String} {n : Int32} (hd : decode cc pc = .ok (.anewarray ix, 3)) (hlk : Cond.classLink own ix C ∈ Ts) (hov : C ∈ zOv) (ht : tl[t]? = some (.object C)) (hn : n = nI N) (hN : N < 2 ^ 27) (hc1 : n1 + 1 ≤ R.cells) (hc2 : n2 + N ≤ R.slots) (h : ∀ q : Nat, M q = none → ZU cl tl Ts own cc nL ret nm R g k Qz L (pc + 3) (.ref q :: st) (zset M q (.inl (t, List.replicate N .null))) (n1 + 1) (n2 + N)) : ZU cl tl Ts own cc nL ret nm R g k Qz L pc (.int n :: st) M n1 n2 := by
  intro X ls H locs hl hL hP hS
  subst hn
  have hts := X.2.2.2.2.1
  obtain ⟨r1, kA', comp', r2, r3, r4, r5⟩ := X.2.2.2.2.2.2.2.2.1.2.1 t _ ht
  have hcl : (nI N).toNatClampNeg = N := nI_clamp (by omega)
  refine W.anew X.1 X.2.1 X.2.2.2.1 (hts _ hlk) (va_AO.use (X.2.2.2.2.2.2.2.2.1.2.2.1 C hov)) rfl hd rfl (nI_pos (by omega)) (by rw [hcl]; omega) hc1 (by rw [hcl]; exact hc2) fun cA kA comp f1 f2 f3 f4 => ?_
  have hcA : cA = g.2.1 t := Option.some.inj (f1.symm.trans r5)
  subst hcA
  rw [hcl]
  generalize hH1 : H.push ({ cls := g.2.1 t, slots := Array.replicate N .null, vm := .none } : Cell) = H1
  have z1 : H1.size = H.size + 1 := by rw [← hH1, Array.size_push]
  have o1 : ∀ q : Nat, q < H.size → H1[q]? = H[q]? := fun q hq => by rw [← hH1, Array.getElem?_push, if_neg (Nat.ne_of_lt hq)]
  refine h H.size (hP.fresh (Nat.le_refl _)) X ls H1 locs hl hL (hP.push (X.2.2.2.2.2.2.2.2.2.1 _ hS.1) o1 ?_) (zS_push hS z1 o1)
  refine ⟨_, ?_, Or.inl rfl⟩
  rw [← hH1, Array.getElem?_push_size]
  simp [zarr]
theorem z_alen {a t : Nat} {vs : List Value} {ty : FieldType} (hd : decode cc pc = .ok (.arraylength, 1)) (hM : M a = some (.inl (t, vs))) (ht : tl[t]? = some ty) (h : ZU cl tl Ts own cc nL ret nm R g k Qz L (pc + 1) (.int (nI vs.length) :: st) M n1 n2) : ZU cl tl Ts own cc nL ret nm R g k Qz L pc (.ref a :: st) M n1 n2 := by
  intro X ls H locs hl hL hP hS
  obtain ⟨ce, c1, c2, c3, c4, c5⟩ := hP.cellW hM
  have hz := (X.2.2.2.2.2.2.2.2.1.2.1 t _ ht).1 0 (fun _ => .null)
  exact W.alen (n := nI vs.length) X.1 X.2.1 c1 ⟨c4, by rw [c2]; exact hz.2⟩ (by rw [c3]; simp [nI]) rfl rfl hd (h X ls H locs hl hL hP hS)
theorem zin {c : ClassId} {vs : List Value} {j : Nat} {v : Value} (hj : j < 2 ^ 31) (hv : vs[j]? = some v) : ¬ (nI j < 0 ∨ (zarr c vs).slots.size ≤ (nI j).toNatClampNeg) ∧ (zarr c vs).slots[(nI j).toNatClampNeg]? = some v := by
  have hlt := (List.getElem?_eq_some_iff.mp hv).1
  rw [nI_clamp hj]
  refine ⟨fun q => ?_, by simpa [zarr] using hv⟩
  rcases q with q | q
  · exact nI_pos hj q
  · simp [zarr] at q; omega
theorem z_iald {a t j : Nat} {vs : List Value} {v : Value} (hd : decode cc pc = .ok (.iaload, 1)) (hM : M a = some (.inl (t, vs))) (ht : tl[t]? = some .int) (hj : j < 2 ^ 31) (hv : vs[j]? = some v) (h : ZU cl tl Ts own cc nL ret nm R g k Qz L (pc + 1) (v :: st) M n1 n2) : ZU cl tl Ts own cc nL ret nm R g k Qz L pc (.int (nI j) :: .ref a :: st) M n1 n2 := by
  intro X ls H locs hl hL hP hS
  obtain ⟨q1, q2⟩ := zin (c := g.2.1 t) hj hv
  exact W.iald (v := v) X.1 X.2.1 (hP.cell hM (List.getElem?_eq_some_iff.mp hv).1) (zarr_of (X.2.2.2.2.2.2.2.2.1.2.1 t _ ht).1 vs) (fun q => by cases q) q1 q2 rfl rfl hd (h X ls H locs hl hL hP hS)
theorem z_lald {a t j : Nat} {vs : List Value} {v : Value} (hd : decode cc pc = .ok (.laload, 1)) (hM : M a = some (.inl (t, vs))) (ht : tl[t]? = some .long) (hj : j < 2 ^ 31) (hv : vs[j]? = some v) (h : ZU cl tl Ts own cc nL ret nm R g k Qz L (pc + 1) (v :: st) M n1 n2) : ZU cl tl Ts own cc nL ret nm R g k Qz L pc (.int (nI j) :: .ref a :: st) M n1 n2 := by
  intro X ls H locs hl hL hP hS
  obtain ⟨q1, q2⟩ := zin (c := g.2.1 t) hj hv
  exact W.lald (v := v) X.1 X.2.1 (hP.cell hM (List.getElem?_eq_some_iff.mp hv).1) (zarr_of (X.2.2.2.2.2.2.2.2.1.2.1 t _ ht).1 vs) (fun q => by cases q) q1 q2 rfl rfl hd (h X ls H locs hl hL hP hS)
theorem z_zald {a t j : Nat} {vs : List Value} {v : Value} (hd : decode cc pc = .ok (.baload, 1)) (hM : M a = some (.inl (t, vs))) (ht : tl[t]? = some .boolean) (hj : j < 2 ^ 31) (hv : vs[j]? = some v) (h : ZU cl tl Ts own cc nL ret nm R g k Qz L (pc + 1) (v :: st) M n1 n2) : ZU cl tl Ts own cc nL ret nm R g k Qz L pc (.int (nI j) :: .ref a :: st) M n1 n2 := by
  intro X ls H locs hl hL hP hS
  obtain ⟨q1, q2⟩ := zin (c := g.2.1 t) hj hv
  exact W.zald (v := v) X.1 X.2.1 (hP.cell hM (List.getElem?_eq_some_iff.mp hv).1) (zarr_of (X.2.2.2.2.2.2.2.2.1.2.1 t _ ht).1 vs) (fun q => by cases q) q1 q2 rfl rfl hd (h X ls H locs hl hL hP hS)
theorem z_bald {a t j : Nat} {vs : List Value} {v : Value} (hd : decode cc pc = .ok (.baload, 1)) (hM : M a = some (.inl (t, vs))) (ht : tl[t]? = some .byte) (hj : j < 2 ^ 31) (hv : vs[j]? = some v) (h : ZU cl tl Ts own cc nL ret nm R g k Qz L (pc + 1) (v :: st) M n1 n2) : ZU cl tl Ts own cc nL ret nm R g k Qz L pc (.int (nI j) :: .ref a :: st) M n1 n2 := by
  intro X ls H locs hl hL hP hS
  obtain ⟨q1, q2⟩ := zin (c := g.2.1 t) hj hv
  exact W.bald (v := v) X.1 X.2.1 (hP.cell hM (List.getElem?_eq_some_iff.mp hv).1) (zarr_of (X.2.2.2.2.2.2.2.2.1.2.1 t _ ht).1 vs) (fun q => by cases q) q1 q2 rfl rfl hd (h X ls H locs hl hL hP hS)
theorem z_aald {a t j : Nat} {vs : List Value} {v : Value} {ty : FieldType} (hd : decode cc pc = .ok (.aaload, 1)) (hM : M a = some (.inl (t, vs))) (ht : tl[t]? = some ty) (hty : ty.isReference = true) (hj : j < 2 ^ 31) (hv : vs[j]? = some v) (h : ZU cl tl Ts own cc nL ret nm R g k Qz L (pc + 1) (v :: st) M n1 n2) : ZU cl tl Ts own cc nL ret nm R g k Qz L pc (.int (nI j) :: .ref a :: st) M n1 n2 := by
  intro X ls H locs hl hL hP hS
  obtain ⟨q1, q2⟩ := zin (c := g.2.1 t) hj hv
  exact W.aald (v := v) X.1 X.2.1 (hP.cell hM (List.getElem?_eq_some_iff.mp hv).1) (zarr_of (X.2.2.2.2.2.2.2.2.1.2.1 t _ ht).1 vs) hty (fun q => by cases q) q1 q2 rfl rfl hd (h X ls H locs hl hL hP hS)
theorem zP.setA {cl : List vw_C} {g : ZG} {M : ZM} {H H' : Heap} {a t j : Nat} {vs : List Value} {x : Value} (hP : zP cl g M H) (hM : M a = some (.inl (t, vs))) (hlt : j < vs.length) (hj : j < 2 ^ 31) (e1 : H'[a]? = some ((zarr (g.2.1 t) vs).setSlot (nI j).toNatClampNeg x)) (e3 : ∀ q, q ≠ a → H'[q]? = H[q]?) : zP cl g (zset M a (.inl (t, vs.set j x))) H' := by
  obtain ⟨hz, hA⟩ := hP.arr hM hlt
  refine hP.set hz hA ?_ (fun q hq _ => e3 q hq)
  refine ⟨_, ?_, Or.inl rfl⟩
  rw [e1, nI_clamp hj, zarr_set]
theorem zinb {c : ClassId} {vs : List Value} {j : Nat} (hj : j < 2 ^ 31) (hlt : j < vs.length) : ¬ (nI j < 0 ∨ (zarr c vs).slots.size ≤ (nI j).toNatClampNeg) := (zin hj (List.getElem?_eq_getElem hlt)).1
theorem z_iast {a t j : Nat} {vs : List Value} {x : Int32} (hd : decode cc pc = .ok (.iastore, 1)) (hM : M a = some (.inl (t, vs))) (ht : tl[t]? = some .int) (hj : j < 2 ^ 31) (hlt : j < vs.length) (h : ZU cl tl Ts own cc nL ret nm R g k Qz L (pc + 1) st (zset M a (.inl (t, vs.set j (.int x)))) n1 n2) : ZU cl tl Ts own cc nL ret nm R g k Qz L pc (.int x :: .int (nI j) :: .ref a :: st) M n1 n2 := by
  intro X ls H locs hl hL hP hS
  exact W.iast X.1 X.2.1 (hP.cell hM hlt) (zarr_of (X.2.2.2.2.2.2.2.2.1.2.1 t _ ht).1 vs) (fun q => by cases q) (zinb hj hlt) rfl rfl hd fun H' e1 e2 e3 => h X ls H' _ hl hL (hP.setA hM hlt hj e1 e3) (hS.put e2 e3 (hP.arr hM hlt).2)
theorem z_last {a t j : Nat} {vs : List Value} {x : Int64} (hd : decode cc pc = .ok (.lastore, 1)) (hM : M a = some (.inl (t, vs))) (ht : tl[t]? = some .long) (hj : j < 2 ^ 31) (hlt : j < vs.length) (h : ZU cl tl Ts own cc nL ret nm R g k Qz L (pc + 1) st (zset M a (.inl (t, vs.set j (.long x)))) n1 n2) : ZU cl tl Ts own cc nL ret nm R g k Qz L pc (.long x :: .int (nI j) :: .ref a :: st) M n1 n2 := by
  intro X ls H locs hl hL hP hS
  exact W.last X.1 X.2.1 (hP.cell hM hlt) (zarr_of (X.2.2.2.2.2.2.2.2.1.2.1 t _ ht).1 vs) (fun q => by cases q) (zinb hj hlt) rfl rfl hd fun H' e1 e2 e3 => h X ls H' _ hl hL (hP.setA hM hlt hj e1 e3) (hS.put e2 e3 (hP.arr hM hlt).2)
theorem z_aast {a t j v ci : Nat} {vs fs : List Value} {C : String} {r : vw_C} (hd : decode cc pc = .ok (.aastore, 1)) (hM : M a = some (.inl (t, vs))) (ht : tl[t]? = some (.object C)) (hj : j < 2 ^ 31) (hlt : j < vs.length) (hv : M v = some (.inr (ci, fs))) (hc : cl[ci]? = some r) (hca : r.1 = C ∨ (r.1, C) ∈ zCa) (h : ZU cl tl Ts own cc nL ret nm R g k Qz L (pc + 1) st (zset M a (.inl (t, vs.set j (.ref v)))) n1 n2) : ZU cl tl Ts own cc nL ret nm R g k Qz L pc (.ref v :: .int (nI j) :: .ref a :: st) M n1 n2 := by
  intro X ls H locs hl hL hP hS
  obtain ⟨r', hr', -, cellV, g1, g2, g3, -⟩ := hP.1 v _ hv
  have hcls := (X.va_K.1 ci r hc).2
  obtain ⟨kA, comp, k1, k2, k3, -⟩ := (X.2.2.2.2.2.2.2.2.1.2.1 t _ ht).2
  obtain ⟨kE, hkE, -⟩ := Vm.findClass_spec k3
  have hasg : k.2.2.2.1.vm.assignable (g.1.1 ci) comp = true := by
    rcases hca with e | hw
    · subst e
      have : comp = g.1.1 ci := Option.some.inj (k3.symm.trans hcls.1)
      rw [this]
      exact va_assign hcls
    · obtain ⟨c0, t1, f1, f2, f3⟩ := Cond.castable_spec (va_Nw.use (A := k.2.2.2.2.2.1) rfl (X.2.2.2.2.2.2.2.2.1.2.2.2.1 _ hw))
      cases hcls.1.symm.trans f1
      cases k3.symm.trans f2
      exact f3
  obtain ⟨kC, hkC, -⟩ := hcls.2
  have hin := zinb (c := g.2.1 t) hj hlt
  exact W.aast X.1 X.2.1 (hP.cell hM hlt) (fun q h => by cases h) (fun h => by cases h) k1 k2 rfl hkE ⟨fun q => hin (Or.inl q), Nat.not_le.mp fun q => hin (Or.inr q)⟩ g1 (fun q h => by rw [g3] at h; cases h) (by rw [g2]; exact hkC) (by rw [g2]; exact hasg) rfl rfl hd fun H' e1 e2 e3 => h X ls H' _ hl hL (hP.setA hM hlt hj e1 e3) (hS.put e2 e3 (hP.arr hM hlt).2)
theorem z_aastN {a t j : Nat} {vs : List Value} {C : String} (hd : decode cc pc = .ok (.aastore, 1)) (hM : M a = some (.inl (t, vs))) (ht : tl[t]? = some (.object C)) (hj : j < 2 ^ 31) (hlt : j < vs.length) (h : ZU cl tl Ts own cc nL ret nm R g k Qz L (pc + 1) st (zset M a (.inl (t, vs.set j .null))) n1 n2) : ZU cl tl Ts own cc nL ret nm R g k Qz L pc (.null :: .int (nI j) :: .ref a :: st) M n1 n2 := by
  intro X ls H locs hl hL hP hS
  exact va_WaastN (C := C) X.1 X.2.1 (hP.cell hM hlt) (zarr_of (X.2.2.2.2.2.2.2.2.1.2.1 t _ ht).1 vs) (fun h => by cases h) (zinb hj hlt) rfl rfl hd fun H' e1 e2 e3 => h X ls H' _ hl hL (hP.setA hM hlt hj e1 e3) (hS.put e2 e3 (hP.arr hM hlt).2)
theorem zP.recv {cl : List vw_C} {tl : List FieldType} {g : ZG} {M : ZM} {H : Heap} {s : State} {a ci : Nat} {fs : List Value} {r : vw_C} (hP : zP cl g M H) (hK : zK cl tl g s) (hM : M a = some (.inr (ci, fs))) (hc : cl[ci]? = some r) : ∃ cell : Cell, H[a]? = some cell ∧ cell.vm.isStatics = false ∧ s.vm.findClass r.1 = some cell.cls := by
  obtain ⟨r', h1, -, cell, g1, g2, g3, -⟩ := hP.1 a _ hM
  exact ⟨cell, g1, by rw [g3]; rfl, by rw [g2]; exact (hK.1 ci r hc).2.1⟩
theorem z_cast {a ix ci : Nat} {fs : List Value} {r : vw_C} {C : String} (hd : decode cc pc = .ok (.checkcast ix, 3)) (hlk : Cond.classLink own ix C ∈ Ts) (hM : M a = some (.inr (ci, fs))) (hc : cl[ci]? = some r) (hC : r.1 = C) (h : ZU cl tl Ts own cc nL ret nm R g k Qz L (pc + 3) (.ref a :: st) M n1 n2) : ZU cl tl Ts own cc nL ret nm R g k Qz L pc (.ref a :: st) M n1 n2 := by
  intro X ls H locs hl hL hP hS
  subst hC
  exact va_castS X.1 X.2.1 X.2.2.2.1 (X.2.2.2.2.1 _ hlk) (X.va_K.1 ci r hc).2 (hP.recv X.2.2.2.2.2.2.2.2.1 hM hc) hd (h X ls H locs hl hL hP hS)
theorem z_castN {ix : Nat} (hd : decode cc pc = .ok (.checkcast ix, 3)) (h : ZU cl tl Ts own cc nL ret nm R g k Qz L (pc + 3) (.null :: st) M n1 n2) : ZU cl tl Ts own cc nL ret nm R g k Qz L pc (.null :: st) M n1 n2 :=
  fun X ls H locs hl hL hP hS => lv_castN X.1 X.2.1 hd (h X ls H locs hl hL hP hS)
theorem z_objInit {a ix : Nat} (hd : decode cc pc = .ok (.invokespecial ix, 3)) (hlk : Cond.methodLink own ix Lib.objectInit ∈ Ts) (hin : Cond.instanceMethod Lib.objectInit ∈ Ts) (hco : Cond.code Lib.objectInit ⟨#[0xb1]⟩ 1 none ∈ Ts) (hf : 1 ≤ R.frames) (hlo : (st.map fun v => v.category).sum + 12 ≤ R.locals) (h : ZU cl tl Ts own cc nL ret nm R g k Qz L (pc + 3) st M n1 n2) : ZU cl tl Ts own cc nL ret nm R g k Qz L pc (.ref a :: st) M n1 n2 := by
  intro X ls H locs hl hL hP hS
  have hts := X.2.2.2.2.1
  exact W.objInit X.1 X.2.1 X.2.2.2.1 (hts _ hlk) (hts _ hin) (hts _ hco) rfl (by rw [X.2.2.1]; show ls.size = nL; rw [hl.2.1, hL]) rfl hd hf (by show 2 * 0 + _ + 12 ≤ _; omega) (h X ls H locs hl hL hP hS)
theorem z_gets {ix : Nat} (hd : decode cc pc = .ok (.getstatic ix, 3)) (hlk : Cond.fieldLink own ix "java/util/ArrayList" "DEFAULTCAPACITY_EMPTY_ELEMENTDATA" "[Ljava/lang/Object;" ∈ Ts) (h : ZU cl tl Ts own cc nL ret nm R g k Qz L (pc + 3) (.ref g.2.2.2.1 :: st) M n1 n2) : ZU cl tl Ts own cc nL ret nm R g k Qz L pc st M n1 n2 := by
  intro X ls H locs hl hL hP hS
  exact va_gets X.1 X.2.1 X.2.2.2.2.2.2.2.2.2.2.1.1 hS X.2.2.2.1 (X.2.2.2.2.1 _ hlk) (fun _ h => h) hd (h X ls H locs hl hL hP hS)
theorem z_ldc {ix : Nat} {v : Int32} (hd : decode cc pc = .ok (.ldc ix, 2)) (hw : Cond.constant own ix v ∈ Ts) (h : ZU cl tl Ts own cc nL ret nm R g k Qz L (pc + 2) (.int v :: st) M n1 n2) : ZU cl tl Ts own cc nL ret nm R g k Qz L pc st M n1 n2 :=
  fun X ls H locs hl hL hP hS => lv_ldc X.1 X.2.1 X.2.2.2.1 (X.2.2.2.2.1 _ hw) hd (h X ls H locs hl hL hP hS)
theorem z_ldc2 {ix : Nat} {v : Int64} (hd : decode cc pc = .ok (.ldc2_w ix, 3)) (hw : Cond.constantLong own ix v ∈ Ts) (h : ZU cl tl Ts own cc nL ret nm R g k Qz L (pc + 3) (.long v :: st) M n1 n2) : ZU cl tl Ts own cc nL ret nm R g k Qz L pc st M n1 n2 :=
  fun X ls H locs hl hL hP hS => lv_ldc2 X.1 X.2.1 X.2.2.2.1 (X.2.2.2.2.1 _ hw) hd (h X ls H locs hl hL hP hS)
/-! calls -/
theorem z_run {p : Program} {l : Launch} {e : Env} {s : State} {m : MethodId} {args a : Array Value} {below : List Frame} {meth : Method} {c : Code} {H : Heap} {locs : List Loc} {Q : State → Prop} {mc ms : Nat} {ls : Array Slot} {st0 rest : List Value} {cl : List vw_C} {g : ZG} {R : Room} {n1 n2 pc : Nat} {postc : Option Value → ZM → Prop}
    (hr : va_Run p l e R s m args below meth c H locs n1 n2 mc ms (F0 m pc ls st0) rest (zQ cl g postc a) g.2.2.1) (hS : va_S g.2.2.1 s.heap H locs)
    (h : ∀ (v : Option Value) (M' : ZM), postc v M' → ∀ (H1 : Heap) (locs1 : List Loc), zP cl g M' H1 → va_S g.2.2.1 s.heap H1 locs1 → W p l e R s m args below meth c H1 locs1 (n1 + mc) (n2 + ms) Q (F0 m (pc + 3) ls (v.toList ++ rest))) : W p l e R s m args below meth c H locs n1 n2 Q (F0 m pc ls st0) := by
  intro T hT X
  obtain ⟨v, st₀, t, T', L, h0, X', hL, e1, e2, ⟨⟨v', M', hv, hp, hP⟩, hz, hk⟩, st⟩ := hr T hT X
  cases hv
  rw [h0] at hz hk
  obtain ⟨t2, a1, b1⟩ := h v M' hp T'.heap (locs ++ L) (by rw [e1]; exact hP)
    ⟨Nat.le_trans hS.1 (by rw [e1]; exact hz), fun q h1 h2 => by rw [e1, hk q (Nat.lt_of_lt_of_le h1 hS.1) h2]; exact hS.2.1 q h1 h2, fun q hq => by
      rcases List.mem_append.mp hq with h | h
      · exact hS.2.2 q h
      · exact hL q h⟩ T' rfl X'
  exact ⟨t2, st t2 a1, b1⟩
theorem zblind {cl : List vw_C} {tl : List FieldType} {g : ZG} {M : ZM} {av : List Value} : FrameBlind (va_Pc av (zPre cl tl g M)) := fun a U f mk q => by
  obtain ⟨q0, q1, q2, q3, q4⟩ := q
  exact ⟨q0, q1, zK.moved (u := U) (U := U.calling f mk a) (Vm.Alike.refl U.vm) q2, q3, zE.moved (u := U) (U := U.calling f mk a) (State.WarmedH.refl U) q4⟩
theorem zpre {cl : List vw_C} {tl : List FieldType} {Ts : List Cond} {own : String} {cc : ByteArray} {nL : Nat} {ret : Option FieldType} {nm : String} {g : ZG} {k : ZK} {M : ZM} {H : Heap} {locs : List Loc} {av : List Value} (X : ZX cl tl Ts own cc nL ret nm g k) (hP : zP cl g M H) (hS : va_S g.2.2.1 k.2.2.2.1.heap H locs) : ∀ U : State, U.heap = H → k.2.2.2.1.WarmedH U.vm → va_Pc av (zPre cl tl g M) av.toArray U := by
  intro U hU hW
  refine ⟨rfl, by rw [hU]; exact hP, zK.moved hW.alike X.2.2.2.2.2.2.2.2.1, fun q hq => X.2.2.2.2.2.2.2.2.2.1 q (Nat.le_trans hS.1 (by rw [← hU]; exact hq)), ?_⟩
  rw [hU]
  exact (zE.moved hW X.2.2.2.2.2.2.2.2.2.2).kept hS.2.1
def ZV (Ts : List Cond) (own : String) (ix : Nat) (C : String) (y : MethodName) (cc : ByteArray) (nL : Nat) (ret : Option FieldType) (n : Nat) : Prop :=
  Cond.methodLink own ix y ∈ Ts ∧ Cond.instanceMethod y ∈ Ts ∧ Cond.selects C y y ∈ Ts ∧ Cond.initialized C ∈ Ts ∧ Cond.code y cc nL ret ∈ Ts ∧ y.cls = C ∧ y.cls ≠ "java/lang/invoke/MethodHandle" ∧ y.cls ≠ "java/lang/invoke/VarHandle" ∧ (parseMethodDescriptor y.desc).map (fun d => d.parameters.length) = some n
def ZS (Ts : List Cond) (own : String) (ix : Nat) (y : MethodName) (cc : ByteArray) (nL : Nat) (ret : Option FieldType) (n : Nat) : Prop :=
  Cond.methodLink own ix y ∈ Ts ∧ Cond.static y ∈ Ts ∧ Cond.initialized y.cls ∈ Ts ∧ Cond.code y cc nL ret ∈ Ts ∧ y.cls ≠ "java/lang/invoke/MethodHandle" ∧ y.cls ≠ "java/lang/invoke/VarHandle" ∧ (parseMethodDescriptor y.desc).map (fun d => d.parameters.length) = some n
def ZI (Ts : List Cond) (own : String) (ix : Nat) (y : MethodName) (cc : ByteArray) (nL : Nat) (n : Nat) : Prop :=
  Cond.methodLink own ix y ∈ Ts ∧ Cond.instanceMethod y ∈ Ts ∧ Cond.initialized y.cls ∈ Ts ∧ Cond.code y cc nL none ∈ Ts ∧ y.name = "<init>" ∧ y.cls ≠ "java/lang/invoke/MethodHandle" ∧ y.cls ≠ "java/lang/invoke/VarHandle" ∧ (parseMethodDescriptor y.desc).map (fun d => d.parameters.length) = some n
theorem zgood {Ts : List Cond} (hG : GoodIn Ts Ts) {c : Cond} (hc : c ∈ Ts) {ws : List Cond} (hw : ∀ w ∈ ws, w ∈ Ts) : GoodIn Ts (ws ++ (c :: Ts)) := fun w h => by
  rcases List.mem_append.mp h with h | h
  · exact hG w (hw w h)
  · rcases List.mem_cons.mp h with rfl | h
    · exact hG w hc
    · exact hG w h
theorem z_callV {ix ci b n : Nat} {fs : List Value} {C : String} {T : u_T} {N : Nat} {y : MethodName} {cc' : ByteArray} {nL' : Nat} {ret' : Option FieldType} {R' : Room} {As rest st0 : List Value} {postc : Option Value → ZM → Prop} (hG : GoodIn Ts Ts) (hd : decode cc pc = .ok (.invokevirtual ix, 3)) (hw : ZV Ts own ix C y cc' nL' ret' n) (hM : M b = some (.inr (ci, fs))) (hc : cl[ci]? = some (C, T, N))
    (hct : ∀ l : Launch, ZC cl tl Ts l g y cc' nL' ret' R' (.ref b :: As) M postc) (hst : st0 = As.reverse ++ .ref b :: rest) (hn : As.length = n) (hR : R'.frames + 1 ≤ R.frames ∧ 8 + (nL' + 11) + R'.locals ≤ R.locals) (hrest : (rest.map fun v => v.category).sum ≤ 8) (hc1 : n1 + R'.cells ≤ R.cells) (hc2 : n2 + R'.slots ≤ R.slots)
    (h : ∀ (v : Option Value) (M' : ZM), postc v M' → ZU cl tl Ts own cc nL ret nm R g k Qz L (pc + 3) (v.toList ++ rest) M' (n1 + R'.cells) (n2 + R'.slots)) : ZU cl tl Ts own cc nL ret nm R g k Qz L pc st0 M n1 n2 := by
  intro X ls H locs hl hL hP hS
  subst hst
  obtain ⟨w1, w2, w3, w4, w5, w6, w7, w8, w9⟩ := hw
  have hts := X.2.2.2.2.1
  have hgood : GoodIn Ts (wsV own ix C y (Cond.code y cc' nL' ret' :: Ts)) := zgood hG w5 (fun w h => by
    simp only [List.mem_cons, List.not_mem_nil, or_false] at h
    rcases h with rfl | rfl | rfl | rfl <;> assumption)
  exact z_run (va_runV (As := As) (rest := rest) ⟨X.1, X.2.1, X.2.2.1, X.2.2.2.1, hts⟩ (hct k.2.1) (cwV n hts hgood rfl rfl rfl ⟨w6, w7, w8, w9⟩ hR) ⟨zblind, hP.recv X.2.2.2.2.2.2.2.2.1 hM hc, zpre X hP hS⟩ rfl hn (by rw [← hL]; exact hl.2.1) rfl (lv_room hrest) hd ⟨hc1, hc2⟩) hS (fun v M' hp H1 locs1 hP1 hS1 => h v M' hp X ls H1 locs1 hl hL hP1 hS1)
theorem z_callS {ix n : Nat} {y : MethodName} {cc' : ByteArray} {nL' : Nat} {ret' : Option FieldType} {R' : Room} {As rest st0 : List Value} {postc : Option Value → ZM → Prop} (hG : GoodIn Ts Ts) (hd : decode cc pc = .ok (.invokestatic ix, 3)) (hw : ZS Ts own ix y cc' nL' ret' n)
    (hct : ∀ l : Launch, ZC cl tl Ts l g y cc' nL' ret' R' As M postc) (hst : st0 = As.reverse ++ rest) (hn : As.length = n) (hR : R'.frames + 1 ≤ R.frames ∧ 8 + (nL' + 11) + R'.locals ≤ R.locals) (hrest : (rest.map fun v => v.category).sum ≤ 8) (hc1 : n1 + R'.cells ≤ R.cells) (hc2 : n2 + R'.slots ≤ R.slots)
    (h : ∀ (v : Option Value) (M' : ZM), postc v M' → ZU cl tl Ts own cc nL ret nm R g k Qz L (pc + 3) (v.toList ++ rest) M' (n1 + R'.cells) (n2 + R'.slots)) : ZU cl tl Ts own cc nL ret nm R g k Qz L pc st0 M n1 n2 := by
  intro X ls H locs hl hL hP hS
  subst hst
  obtain ⟨w1, w2, w3, w4, w5, w6, w7⟩ := hw
  have hts := X.2.2.2.2.1
  have hgood : GoodIn Ts (va_wsS own ix y (Cond.code y cc' nL' ret' :: Ts)) := zgood hG w4 (fun w h => by
    simp only [List.mem_cons, List.not_mem_nil, or_false] at h
    rcases h with rfl | rfl | rfl <;> assumption)
  exact z_run (va_runS (As := As) (rest := rest) ⟨X.1, X.2.1, X.2.2.1, X.2.2.2.1, hts⟩ (hct k.2.1) (va_cwS n hts hgood rfl rfl rfl ⟨w5, w6, w7⟩ hR) ⟨zblind, zpre X hP hS⟩ rfl hn (by rw [← hL]; exact hl.2.1) rfl (lv_room hrest) hd ⟨hc1, hc2⟩) hS (fun v M' hp H1 locs1 hP1 hS1 => h v M' hp X ls H1 locs1 hl hL hP1 hS1)
theorem z_callI {ix b n : Nat} {y : MethodName} {cc' : ByteArray} {nL' : Nat} {R' : Room} {As rest st0 : List Value} {postc : Option Value → ZM → Prop} (hG : GoodIn Ts Ts) (hd : decode cc pc = .ok (.invokespecial ix, 3)) (hw : ZI Ts own ix y cc' nL' n)
    (hct : ∀ l : Launch, ZC cl tl Ts l g y cc' nL' none R' (.ref b :: As) M postc) (hst : st0 = As.reverse ++ .ref b :: rest) (hn : As.length = n) (hR : R'.frames + 1 ≤ R.frames ∧ 8 + (nL' + 11) + R'.locals ≤ R.locals) (hrest : (rest.map fun v => v.category).sum ≤ 8) (hc1 : n1 + R'.cells ≤ R.cells) (hc2 : n2 + R'.slots ≤ R.slots)
    (h : ∀ (v : Option Value) (M' : ZM), postc v M' → ZU cl tl Ts own cc nL ret nm R g k Qz L (pc + 3) (v.toList ++ rest) M' (n1 + R'.cells) (n2 + R'.slots)) : ZU cl tl Ts own cc nL ret nm R g k Qz L pc st0 M n1 n2 := by
  intro X ls H locs hl hL hP hS
  subst hst
  obtain ⟨w1, w2, w3, w4, w5, w6, w7, w8⟩ := hw
  have hts := X.2.2.2.2.1
  have hgood : GoodIn Ts (Cond.code y cc' nL' none :: Ts) := zgood (ws := []) hG w4 (fun w h => by cases h)
  exact z_run (va_runI (As := As) (rest := rest) ⟨X.1, X.2.1, X.2.2.1, X.2.2.2.1, hts⟩ (hct k.2.1) (cwI n hts hgood rfl rfl rfl (hts _ w3) (hts _ w1) (hts _ w2) w5 ⟨w6, w7, w8⟩ hR) ⟨zblind, zpre X hP hS⟩ rfl hn (by rw [← hL]; exact hl.2.1) rfl (lv_room hrest) hd ⟨hc1, hc2⟩) hS (fun v M' hp H1 locs1 hP1 hS1 => h v M' hp X ls H1 locs1 hl hL hP1 hS1)
end ZH
