/-- a call whose callee throws -/
theorem z_callT {p : Program} {l : Launch} {e : Env} {R : Room} {s : State} {m : MethodId} {args : Array Value} {below : List Frame} {meth : Method} {c : Code} {T : State} {locs : List Loc} {cells slots : Nat}
    (X : Stand p l e R s m args below meth c T locs cells slots) (hexec : p.tables.exec = Jvm.exec) {own C : String} {index : Nat} {y : MethodName} {bytes : ByteArray} {maxL : Nat} {ret : Option FieldType}
    (hown : s.vm.findClass own = some m.cls) (hlink : (Cond.methodLink own index y).before args s = true) (hinst : (Cond.instanceMethod y).before args s = true) (hsel : (Cond.selects C y y).before args s = true)
    (hcode : (Cond.code y bytes maxL ret).before args s = true) (hy : y.cls ≠ "java/lang/invoke/MethodHandle" ∧ y.cls ≠ "java/lang/invoke/VarHandle")
    {W : Nat} {Pre : Pt → Array Value → Prop} {Post : Pt → Array Value → Addr → Pt → Prop} (hK : BackT l R p e below s args y 3 W Pre Post)
    {b : Addr} {cellB : Cell} (hcell : T.heap[b]? = some cellB) (hobj : cellB.vm.isStatics = false) (hcls : s.vm.findClass C = some cellB.cls)
    {g : JFrame} (hg : g.method = m) (hsize : g.locals.size = c.maxLocals) {argsL rest : List Value} (hlen : ∀ sig, parseMethodDescriptor y.desc = some sig → argsL.length = sig.parameters.length)
    (hstack : g.stack = argsL.reverse ++ .ref b :: rest) (hW : 2 * g.monitorRoom + (rest.map fun v => v.category).sum ≤ W) (hdg : decode c.code g.pc = .ok (.invokevirtual index, 3))
    (hpre : ∀ vm₁, s.WarmedH vm₁ → Pre ⟨T.setVm vm₁, locs, cells, slots⟩ (Value.ref b :: argsL).toArray) :
    ∃ (v : Addr) (vm₁ : Vm) (B : Pt), s.WarmedH vm₁ ∧ Stand p l e R s m args below meth c B.U B.locs B.cells B.slots ∧ Post ⟨T.setVm vm₁, locs, cells, slots⟩ (Value.ref b :: argsL).toArray v B ∧ Steps p.tables e below (T.setTop g) ((B.U.setTop { g with stack := rest }).pushFrame (.throwing v)) := by
  obtain ⟨mk, methM, hnamed, hmethM, hstM, habM⟩ := Cond.instanceMethod_spec hinst
  obtain ⟨methM', cM, hmethM', -, -, -, -, -, -, hsigM⟩ := Cond.code_spec hnamed hcode
  cases hmethM.symm.trans hmethM'
  obtain ⟨c2, r2, m2, q1, q2, q3, q4, kP, hkP, hkPi⟩ := Cond.selects_spec hsel
  cases hcls.symm.trans q1
  cases (State.methodFound?_of_named hnamed hy).symm.trans q2
  cases hnamed.symm.trans q3
  obtain ⟨vm₁, X₁, hstep₁⟩ := X.invokevirtual hexec hown hlink hnamed hmethM hstM hkP hkPi hy (a := b) (cell := cellB) hcell
    (fun z h => by rw [h] at hobj; cases hobj) (by rw [Launch.admits_selectMethod X.admits]; exact q4) hmethM habM hkP hkPi (g := g) hg (argsL := argsL) (rest := rest) (hlen _ hsigM) hstack hdg
  obtain ⟨v, B, X', hpost, hsteps⟩ := hK m meth c ⟨T.setVm vm₁, locs, cells, slots⟩ { g with stack := rest } (.invokevirtual index) mk (Value.ref b :: argsL).toArray X₁ hg hsize hdg hW (X₁.named hnamed) (hpre vm₁ X₁.warmed)
  exact ⟨v, vm₁, B, X₁.warmed, X', hpost, hstep₁ _ fun acts => by rw [doInvoke_state]; exact hsteps⟩
/-- a call of a method that throws NoSuchElementException, caught in the caller -/
theorem z_callVC {cl : List vw_C} {tl : List FieldType} {Ts : List Cond} {own : String} {cc : ByteArray} {nL : Nat} {ret : Option FieldType} {nm : String} {R : Room} {g : ZG} {k : ZK} {Qz : State → Prop} {L : List (Option Value)} {pc : Nat} {M : ZM} {n1 n2 : Nat} {ix ci b n : Nat} {fs : List Value} {C : String} {T0 : u_T} {N : Nat} {y : MethodName} {cc' : ByteArray} {nL' : Nat} {ret' : Option FieldType} {R' : Room} {As rest st0 : List Value} {postc : ZM → Prop} {x0 : ExceptionTableEntry}
    (hG : GoodIn Ts Ts) (hd : decode cc pc = .ok (.invokevirtual ix, 3)) (hw : ZV Ts own ix C y cc' nL' ret' n) (hM : M b = some (.inr (ci, fs))) (hc : cl[ci]? = some (C, T0, N))
    (hct : ZCT cl tl Ts k.2.1 g y cc' nL' ret' R' (.ref b :: As) M postc) (hst : st0 = As.reverse ++ .ref b :: rest) (hn : As.length = n) (hR : R'.frames + 1 ≤ R.frames ∧ 8 + (nL' + 11) + R'.locals ≤ R.locals) (hrest : (rest.map fun v => v.category).sum ≤ 8) (hc1 : n1 + R'.cells ≤ R.cells) (hc2 : n2 + R'.slots ≤ R.slots)
    (hxt : k.2.2.2.2.2.2.2.2.exceptionTable.toList = [x0]) (hcov : covers x0 pc = true) (h0 : x0.catchType ≠ 0) (hlk : Cond.classLink own x0.catchType zNse ∈ Ts)
    (h : ∀ (v : Nat) (M' : ZM), postc M' → ZU cl tl Ts own cc nL ret nm R g k Qz L x0.handlerPc [.ref v] M' (n1 + R'.cells) (n2 + R'.slots)) : ZU cl tl Ts own cc nL ret nm R g k Qz L pc st0 M n1 n2 := by
  intro X ls H locs hl hL hP hS T hT Y
  subst hst
  obtain ⟨w1, w2, w3, w4, w5, w6, w7, w8, w9⟩ := hw
  have hts := X.2.2.2.2.1
  have hgood : GoodIn Ts (wsV own ix C y (Cond.code y cc' nL' ret' :: Ts)) := zgood hG w5 (fun w h => by
    simp only [List.mem_cons, List.not_mem_nil, or_false] at h
    rcases h with rfl | rfl | rfl | rfl <;> assumption)
  obtain ⟨⟨-, -, hfr, hlo, hws, hcw, hcode, hini, hy, hlen, hlk2⟩, hin, hse⟩ := cwV (bytes := cc') (maxL := nL') (ret := ret') (rm := R') (mc := R'.cells) (ms := R'.slots) n hts hgood rfl rfl rfl ⟨w6, w7, w8, w9⟩ hR
  obtain ⟨cellB, hcB, hoB, hclB⟩ := hP.recv X.2.2.2.2.2.2.2.2.1 hM hc
  have hK : BackT k.2.1 R k.1 k.2.2.1 k.2.2.2.2.2.2.1 k.2.2.2.1 k.2.2.2.2.2.1 y 3 8 (PreOf R R'.cells R'.slots (va_Pc (.ref b :: As) (zPre cl tl g M))) (fun A a x B => ∃ (g' : JFrame) (mk : MethodId) (t : State) (Lx : List Loc), B.U.heap = t.heap ∧ B.U.vm = t.vm ∧ zQT cl g postc a (A.U.calling g' mk a) (.threw x) t ∧ B.locs = A.locs ++ Lx ∧ (∀ q ∈ Lx, g.2.2.1 q.base) ∧ B.cells = A.cells + R'.cells ∧ B.slots = A.slots + R'.slots) := by
    refine BackT.of_free (S := headSpec (Cond.code y cc' nL' ret' :: Ts) R') (P := va_Pc (.ref b :: As) (zPre cl tl g M)) (K := fun _ _ _ _ _ => True) (Q := fun a st o t => zQT cl g postc a st o t ∧ ∃ L, FrameEndT st o t L R'.cells R'.slots ∧ ∀ q ∈ L, g.2.2.1 q.base) (bytes := cc') (maxL := nL') (ret := ret')
      (E := fun a st o t L kk nn => kk = R'.cells ∧ nn = R'.slots ∧ ∀ q ∈ L, g.2.2.1 q.base) hct hfr hlo ?_ ?_ (fun _ _ _ _ _ _ _ _ _ => trivial) ?_ ?_
    · intro m' meth' c' A a Y' hp
      exact ⟨atoms_intro fun w hw => hws w hw _ _ Y'.warmed, hws _ hcw _ _ Y'.warmed, word_at Y'.warmed (Or.inl (by first | rfl | simp [Cond.onTables, Cond.keeps, Cond.steady])) hini, hp.1, hp.2.1⟩
    · intro m' meth' c' A a gg mk Y' hp
      exact zblind _ _ _ _ hp.2.2
    · intro a st o t ⟨hq, Lx, hF, hLx⟩
      exact ⟨Lx, R'.cells, R'.slots, hF, rfl, rfl, hLx⟩
    · intro m' meth' c' A a gg mk v t Lx kk nn Y' hp hq hF ⟨e1, e2, hLx⟩
      subst e1; subst e2
      exact ⟨gg, mk, t, Lx, rfl, rfl, hq.1, rfl, hLx, rfl, rfl⟩
  obtain ⟨v, vm₁, ⟨U', l2, c2, s2⟩, hW₁, X', ⟨g', mk, t, Lx, e1, e2, ⟨⟨x, M', cell, ho, hpc, hP1, hcell, hfc, hvm⟩, hz, hkp⟩, q1, hLx, q2, q3⟩, st⟩ := z_callT Y X.1 (C := C) (bytes := cc') (maxL := nL') (ret := ret') X.2.2.2.1 hlk2 hin hse hcode hy hK (by rw [hT]; exact hcB) hoB hclB (g := F0 k.2.2.2.2.1 pc ls (As.reverse ++ .ref b :: rest)) rfl (by rw [X.2.2.1, hl.2.1, hL]) (argsL := As) (rest := rest) (fun sig h => hn.trans (hlen sig h)) rfl (lv_room hrest) (by rw [X.2.1]; exact hd)
    (fun vm₁ hW₁ => ⟨hc1, hc2, zpre X hP hS (T.setVm vm₁) hT hW₁⟩)
  dsimp only [Pt.U, Pt.locs, Pt.cells, Pt.slots] at X' e1 e2 q1 q2 q3 st
  subst q1; subst q2; subst q3
  cases ho
  have hpl : k.2.2.1.platform.magicAccessors = ({} : Platform).magicAccessors := by rw [X'.admits.platform]
  obtain ⟨cN, hfN, hcl⟩ := Cond.classLink_spec X.2.2.2.1 (hts _ hlk) k.2.2.1.platform hpl
  obtain ⟨hg₁, hwarm, hready⟩ := State.classEntry (e := k.2.2.1) X'.warmed hcl
  have hfs : k.2.2.2.1.vm.findClass zNse = some cell.cls := by
    have hh : ((T.setVm vm₁).calling g' mk (Value.ref b :: As).toArray).vm = vm₁ := rfl
    rw [hh, hW₁.alike.findClass] at hfc
    exact hfc
  have hcN : cell.cls = cN := Option.some.inj (hfs.symm.trans hfN)
  obtain ⟨c3, c4, hc3, hc4, hasg⟩ := Cond.castable_spec (va_Nw.use (A := k.2.2.2.2.2.1) rfl X.2.2.2.2.2.2.2.2.2.2.2.2.2.2.1)
  cases hfs.symm.trans hc3
  cases hfs.symm.trans hc4
  subst hcN
  obtain ⟨kN, hkN, -⟩ := Vm.findClass_spec hfs
  have hkN' : ∃ kk, (U'.vm.noted k.2.2.2.2.1.cls x0.catchType (.cls cell.cls)).classes[cell.cls]? = some kk := by
    obtain ⟨k', hk', -⟩ := hwarm.alike.2.2 _ _ hkN
    exact ⟨k', hk'⟩
  have hsz : (U'.vm.noted k.2.2.2.2.1.cls x0.catchType (.cls cell.cls)).classes.size ≤ U'.vm.classes.size := by
    no_record
  have X2 := X'.noted hwarm
  obtain ⟨t2, a1, b1⟩ := h v M' hpc X ls U'.heap (locs ++ Lx) hl hL (by rw [e1]; exact hP1) ⟨Nat.le_trans hS.1 (by rw [e1, ← hT]; exact hz), fun q h1 h2 => by
      rw [e1, hkp q (by show q < T.heap.size; rw [hT]; exact Nat.lt_of_lt_of_le h1 hS.1) h2]
      show T.heap[q]? = _
      rw [hT]
      exact hS.2.1 q h1 h2, fun q hq => by
      rcases List.mem_append.mp hq with h | h
      · exact hS.2.2 q h
      · exact hLx q h⟩ (U'.setVm (U'.vm.noted k.2.2.2.2.1.cls x0.catchType (.cls cell.cls))) rfl X2
  refine ⟨t2, st.trans ?_, b1⟩
  refine zcaught (g := { F0 k.2.2.2.2.1 pc ls (As.reverse ++ .ref b :: rest) with stack := rest }) (c := k.2.2.2.2.2.2.2.2) X'.here (fun Q E d acts => zfind (meth := k.2.2.2.2.2.2.2.1) (code := k.2.2.2.2.2.2.2.2) ?_ X'.code hxt hcov h0 ?_ ?_ ?_ ?_ hkN' hkN' ?_ Q E d acts) a1
  · rw [Stand.throwing_vm]
    exact X'.method'
  · rw [Stand.throwing_vm]
    exact hg₁
  · rw [Stand.throwing_vm]
    exact hsz
  · rw [Stand.throwing_heap, e1]
    exact hcell
  · intro kk
    rw [hvm]
    simp
  · rw [hwarm.alike.assignable]
    exact hasg
