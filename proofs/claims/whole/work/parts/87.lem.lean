/-! THE SCRIPT, AND THE LAW'S TWO SMALL METHODS. -/
abbrev sB (g : ZG) : Nat := g.2.2.2.2.2.1
abbrev sLn (g : ZG) : Nat := g.2.2.2.2.2.2.1
abbrev sX (g : ZG) : Nat → Int32 := g.2.2.2.2.2.2.2
theorem ZC.mono {cl : List vw_C} {tl : List FieldType} {Ts : List Cond} {l : Launch} {g : ZG} {y : MethodName} {cc : ByteArray} {nL : Nat} {ret : Option FieldType} {R : Room} {av : List Value} {M : ZM} {post post' : Option Value → ZM → Prop} (h : ZC cl tl Ts l g y cc nL ret R av M post) (hp : ∀ v M', post v M' → post' v M') : ZC cl tl Ts l g y cc nL ret R av M post' := by
  intro p e h1 h2 h3 s m args below h4 h5 hP hK
  obtain ⟨n, o, q1, q2, q3, ⟨⟨v, N', ho, hpp, hP'⟩, hF⟩, hr⟩ := h p e h1 h2 h3 s m args below h4 h5 hP hK
  exact ⟨n, o, q1, q2, q3, ⟨⟨v, N', ho, hp v N' hpp, hP'⟩, hF⟩, hr⟩
/-- a contract of a method with an exception table -/
def ZCW (cl : List vw_C) (tl : List FieldType) (Ts : List Cond) (l : Launch) (g : ZG) (y : MethodName) (cc : ByteArray) (nL : Nat) (ret : Option FieldType) (hh : List (Nat × Nat × Nat × Nat)) (R : Room) (av : List Value) (M : ZM) (post : Option Value → ZM → Prop) : Prop :=
  Met l y (Cond.codeWith y cc nL ret hh :: Ts) R (va_Pc av (zPre cl tl g M)) (zQ cl g post) R.cells R.slots g.2.2.1
theorem ZCW.of {cl : List vw_C} {tl : List FieldType} {Ts : List Cond} {l : Launch} {g : ZG} {y : MethodName} {cc : ByteArray} {nL : Nat} {ret : Option FieldType} {hh : List (Nat × Nat × Nat × Nat)} {R : Room} {av : List Value} {M : ZM} {post : Option Value → ZM → Prop} {L : List (Option Value)}
    (hy : plainName y.cls = true) (hlen : (lg_sl av).length ≤ nL) (hL : zinit av nL = L) (h : ∀ k : ZK, k.2.1 = l → k.2.2.2.2.2.2.2.2.exceptionTable.toList.map (fun h => (h.startPc, h.endPc, h.handlerPc, h.catchType)) = hh → M g.2.2.2.1 = some (.inl (0, [])) → ZW cl tl Ts y.cls cc nL ret y.name R g k post L 0 [] M 0 0) : ZCW cl tl Ts l g y cc nL ret hh R av M post := by
  refine va_MetW (ws' := Ts) (hh := hh) (cc := cc) (maxL := nL) (ret := ret) hy rfl ?_
  intro p e s m args below meth c s₁ B hml hv
  obtain ⟨rfl, hP, hK, hA, hE⟩ := hv
  have hts := atoms_spec (ws := Cond.codeWith y cc nL ret hh :: Ts) B.pre
  obtain ⟨hl, hn⟩ := zl_entry av hlen
  obtain ⟨m9, methY, cY, hn9, hmY, hcY, -, -, hx, -⟩ := Cond.codeWith_spec (hts _ List.mem_cons_self)
  cases B.named.symm.trans hn9
  cases B.method.symm.trans hmY
  cases (Stand.of_body B).code.symm.trans hcY
  rw [lg_entry_eq]
  subst hL
  exact h (p, l, e, s, m, av.toArray, below, meth, c) rfl hx hP.2.2 ⟨B.exec, B.bytes, hml, findClass_of_methodNamed B.named, fun w hw => hts w (List.mem_cons_of_mem _ hw), B.notSynchronized, B.returns, (name_of_methodNamed B.named B.method).1, hK, hA, hE⟩ _ _ _ hl hn hP va_S.rf
/-- a static call of a method with an exception table -/
theorem zcallS {p : Program} {l : Launch} {e : Env} {R : Room} {s : State} {m : MethodId} {args : Array Value} {below : List Frame} {meth : Method} {c : Code} {T : State} {locs : List Loc} {cells slots : Nat} (X : Stand p l e R s m args below meth c T locs cells slots) (hexec : p.tables.exec = Jvm.exec) {own : String} {index : Nat} {y : MethodName} {bytes : ByteArray} {maxL : Nat} {ret : Option FieldType} {hh : List (Nat × Nat × Nat × Nat)}
    (hown : s.vm.findClass own = some m.cls) (hlink : (Cond.methodLink own index y).before args s = true) (hstat : (Cond.static y).before args s = true) (hinit : (Cond.initialized y.cls).before args s = true)
    (hcode : (Cond.codeWith y bytes maxL ret hh).before args s = true) (hy : y.cls ≠ "java/lang/invoke/MethodHandle" ∧ y.cls ≠ "java/lang/invoke/VarHandle")
    {W : Nat} {Pre : Pt → Array Value → Prop} {Post : Pt → Array Value → Option Value → Pt → Prop} (hK : Back l R p e below s args y 3 W Pre Post)
    {g : JFrame} (hg : g.method = m) (hsize : g.locals.size = c.maxLocals) {argsL rest : List Value} (hlen : ∀ sig, parseMethodDescriptor y.desc = some sig → argsL.length = sig.parameters.length)
    (hstack : g.stack = argsL.reverse ++ rest) (hW : 2 * g.monitorRoom + (rest.map fun v => v.category).sum ≤ W) (hdg : decode c.code g.pc = .ok (.invokestatic index, 3))
    (hpre : ∀ vm₁, s.WarmedH vm₁ → Pre ⟨T.setVm vm₁, locs, cells, slots⟩ argsL.toArray) :
    ∃ (v : Option Value) (vm₁ : Vm) (B : Pt), s.WarmedH vm₁ ∧ Stand p l e R s m args below meth c B.U B.locs B.cells B.slots ∧ Post ⟨T.setVm vm₁, locs, cells, slots⟩ argsL.toArray v B ∧
      ∀ target, Steps p.tables e below (B.U.setTop { g with pc := g.pc + 3, stack := v.toList ++ rest }) target → Steps p.tables e below (T.setTop g) target := by
  obtain ⟨mk, methM, cM, hnamed, hmethM, -, -, -, -, -, -, hsigM⟩ := Cond.codeWith_spec hcode
  have hstatic : methM.isStatic = true := Cond.static_spec hnamed hmethM hstat
  obtain ⟨kP, hkP, -⟩ := className_of_methodNamed hnamed
  have hinitP : kP.init = .initialized := Cond.initialized_spec (findClass_of_methodNamed hnamed) hkP hinit
  obtain ⟨vm₁, X₁, hstep₁⟩ := X.invokestatic hexec hown hlink hnamed hmethM hstatic hkP hinitP hy (g := g) hg (argsL := argsL) (rest := rest) (hlen _ hsigM) hstack hdg
  obtain ⟨v, B, X', hpost, hsteps⟩ := hK m meth c ⟨T.setVm vm₁, locs, cells, slots⟩ { g with stack := rest } (.invokestatic index) mk argsL.toArray X₁ hg hsize hdg hW (X₁.named hnamed) (hpre vm₁ X₁.warmed)
  exact ⟨v, vm₁, B, X₁.warmed, X', hpost, fun target h => hstep₁ _ fun acts => by rw [doInvoke_state]; exact hsteps.trans h⟩
section ZLA
variable {cl : List vw_C} {tl : List FieldType} {Ts : List Cond} {own : String} {cc : ByteArray} {nL : Nat} {ret : Option FieldType} {nm : String} {R : Room} {g : ZG} {k : ZK} {post : Option Value → ZM → Prop} {Qz : State → Prop} {L L' : List (Option Value)} {pc : Nat} {st : List Value} {M : ZM} {n1 n2 : Nat}
theorem z_xld {j : Nat} (hd : decode cc pc = .ok (.iaload, 1)) (hj : j < sLn g) (hb : sLn g < 2 ^ 31) (h : ZU cl tl Ts own cc nL ret nm R g k Qz L (pc + 1) (.int (sX g j) :: st) M n1 n2) : ZU cl tl Ts own cc nL ret nm R g k Qz L pc (.int (nI j) :: .ref (sB g) :: st) M n1 n2 := by
  intro X ls H locs hl hL hP hS
  obtain ⟨-, hX, hA⟩ := X.2.2.2.2.2.2.2.2.2.2.1
  obtain ⟨scr, h1, -⟩ := id hX
  refine va_sld X.1 X.2.1 hX (Array.getElem?_eq_some_iff.mp h1).1 hA hS (vp_in_nI hj hb) hd ?_
  rw [nI_clamp (by omega)]
  exact h X ls H locs hl hL hP hS
theorem z_xlen (hd : decode cc pc = .ok (.arraylength, 1)) (h : ZU cl tl Ts own cc nL ret nm R g k Qz L (pc + 1) (.int (nI (sLn g)) :: st) M n1 n2) : ZU cl tl Ts own cc nL ret nm R g k Qz L pc (.ref (sB g) :: st) M n1 n2 := by
  intro X ls H locs hl hL hP hS
  obtain ⟨-, hX, hA⟩ := X.2.2.2.2.2.2.2.2.2.2.1
  obtain ⟨scr, h1, -⟩ := id hX
  exact va_slen X.1 X.2.1 hX (Array.getElem?_eq_some_iff.mp h1).1 hA hS hd (h X ls H locs hl hL hP hS)
/-- script[i + j] -/
theorem z_sc {nj : Int} {j i0 : Nat} (d1 : decode cc pc = .ok (.aload_n 0, 1)) (d2 : decode cc (pc + 1) = .ok (.iload 4, 2)) (d3 : decode cc (pc + 3) = .ok (.iconst nj, 1)) (d4 : decode cc (pc + 4) = .ok (.iadd, 1)) (d5 : decode cc (pc + 5) = .ok (.iaload, 1)) (hnj : Int32.ofInt nj = nI j) (l0 : L[0]? = some (some (.ref (sB g)))) (l4 : L[4]? = some (some (.int (nI i0)))) (hj : i0 + j < sLn g) (hb : sLn g < 2 ^ 31) (h : ZU cl tl Ts own cc nL ret nm R g k Qz L (pc + 6) (.int (sX g (i0 + j)) :: st) M n1 n2) : ZU cl tl Ts own cc nL ret nm R g k Qz L pc st M n1 n2 := by
  refine z_aload_n d1 l0 ?_
  refine z_iload d2 l4 ?_
  refine z_iconst (v := nI j) d3 hnj ?_
  refine z_iadd d4 ?_
  rw [nI_add]
  exact z_xld d5 hj hb h
theorem z_callSW {ix n : Nat} {y : MethodName} {cc' : ByteArray} {nL' : Nat} {ret' : Option FieldType} {hh : List (Nat × Nat × Nat × Nat)} {R' : Room} {As rest st0 : List Value} {postc : Option Value → ZM → Prop} (hG : GoodIn Ts Ts) (hd : decode cc pc = .ok (.invokestatic ix, 3)) (w1 : Cond.methodLink own ix y ∈ Ts) (w2 : Cond.static y ∈ Ts) (w3 : Cond.initialized y.cls ∈ Ts) (w4 : Cond.codeWith y cc' nL' ret' hh ∈ Ts) (hy : y.cls ≠ "java/lang/invoke/MethodHandle" ∧ y.cls ≠ "java/lang/invoke/VarHandle") (hpd : (parseMethodDescriptor y.desc).map (fun d => d.parameters.length) = some n)
    (hct : ZCW cl tl Ts k.2.1 g y cc' nL' ret' hh R' As M postc) (hst : st0 = As.reverse ++ rest) (hn : As.length = n) (hR : R'.frames + 1 ≤ R.frames ∧ 8 + (nL' + 11) + R'.locals ≤ R.locals) (hrest : (rest.map fun v => v.category).sum ≤ 8) (hc1 : n1 + R'.cells ≤ R.cells) (hc2 : n2 + R'.slots ≤ R.slots)
    (h : ∀ (v : Option Value) (M' : ZM), postc v M' → ZU cl tl Ts own cc nL ret nm R g k Qz L (pc + 3) (v.toList ++ rest) M' (n1 + R'.cells) (n2 + R'.slots)) : ZU cl tl Ts own cc nL ret nm R g k Qz L pc st0 M n1 n2 := by
  intro X ls H locs hl hL hP hS
  subst hst
  have hts := X.2.2.2.2.1
  have hgood : GoodIn Ts (Cond.codeWith y cc' nL' ret' hh :: Ts) := zgood (ws := []) hG w4 (fun w h => by cases h)
  have hK : Back k.2.1 R k.1 k.2.2.1 k.2.2.2.2.2.2.1 k.2.2.2.1 k.2.2.2.2.2.1 y 3 8 (PreOf R R'.cells R'.slots (va_Pc As (zPre cl tl g M))) (PostOf (zQ cl g postc) R'.cells R'.slots g.2.2.1) := va_backW (hh := hh) (bytes := cc') (maxL := nL') (ret := ret') hct zblind rfl rfl hR.1 hR.2 (pay_in hts hgood) List.mem_cons_self (fun a' U hW => word_at hW (Or.inl (by first | rfl | simp [Cond.onTables, Cond.keeps, Cond.steady])) (hts _ w3))
  refine z_run (mc := R'.cells) (ms := R'.slots) (a := As.toArray) (rest := rest) (fun T hT Y => ?_) hS (fun v M' hp H1 locs1 hP1 hS1 => h v M' hp X ls H1 locs1 hl hL hP1 hS1)
  obtain ⟨v, vm₁, ⟨U', l2, c2, s2⟩, hW₁, X', ⟨g', mk, t, Lx, e1, e2, hq, q1, hLx, q2, q3⟩, stp⟩ := zcallS Y X.1 (hh := hh) (bytes := cc') (maxL := nL') (ret := ret') X.2.2.2.1 (hts _ w1) (hts _ w2) (hts _ w3) (hts _ w4) hy hK (g := F0 k.2.2.2.2.1 pc ls (As.reverse ++ rest)) rfl (by rw [X.2.2.1, hl.2.1, hL]) (argsL := As) (rest := rest) (fun sig h => by rw [h] at hpd; exact hn.trans (Option.some.inj hpd).symm) rfl (lv_room hrest) (by rw [X.2.1]; exact hd)
    (fun vm₁ hW₁ => ⟨hc1, hc2, zpre X hP hS (T.setVm vm₁) hT hW₁⟩)
  dsimp only [Pt.U, Pt.locs, Pt.cells, Pt.slots] at X' e1 e2 q1 q2 q3 stp
  subst q1; subst q2; subst q3
  exact ⟨v, (T.setVm vm₁).calling g' mk As.toArray, t, U', Lx, hT, X', hLx, e1, e2, hq, stp⟩
end ZLA
