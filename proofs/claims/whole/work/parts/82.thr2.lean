/-- a method that ends in a throw -/
def MQT (below : List Frame) (Qc : Array Value → State → Outcome → State → Prop) (a : Array Value) (s : State) (mc ms : Nat) (free : Addr → Prop) : State → Prop := fun t => ∃ o, t.status = .running ∧ Ended t below o ∧ Qc a s o t ∧ ∃ L, FrameEndT s o t L mc ms ∧ ∀ q ∈ L, free q.base
def zNse : String := "java/util/NoSuchElementException"
def zQT (cl : List vw_C) (g : ZG) (post : ZM → Prop) : Array Value → State → Outcome → State → Prop := fun _ st oc t => (∃ (x : Nat) (M' : ZM) (cell : Cell), oc = .threw x ∧ post M' ∧ zP cl g M' t.heap ∧ t.heap[x]? = some cell ∧ st.vm.findClass zNse = some cell.cls ∧ cell.vm = .none) ∧ va_F g.2.2.1 st t
def ZCT (cl : List vw_C) (tl : List FieldType) (Ts : List Cond) (l : Launch) (g : ZG) (y : MethodName) (cc : ByteArray) (nL : Nat) (ret : Option FieldType) (R : Room) (av : List Value) (M : ZM) (post : ZM → Prop) : Prop :=
  MetFree l y (headSpec (Cond.code y cc nL ret :: Ts) R) (va_Pc av (zPre cl tl g M)) (fun _ _ _ _ _ => True) (fun a st o t => zQT cl g post a st o t ∧ ∃ L, FrameEndT st o t L R.cells R.slots ∧ ∀ q ∈ L, g.2.2.1 q.base)
theorem ZCT.of {cl : List vw_C} {tl : List FieldType} {Ts : List Cond} {l : Launch} {g : ZG} {y : MethodName} {cc : ByteArray} {nL : Nat} {ret : Option FieldType} {R : Room} {av : List Value} {M : ZM} {post : ZM → Prop} {L : List (Option Value)}
    (hy : plainName y.cls = true) (hlen : (lg_sl av).length ≤ nL) (hL : zinit av nL = L) (h : ∀ k : ZK, k.2.1 = l → k.2.2.2.2.2.2.2.2.exceptionTable.isEmpty = true → M g.2.2.2.1 = some (.inl (0, [])) → ZU cl tl Ts y.cls cc nL ret y.name R g k (MQT k.2.2.2.2.2.2.1 (zQT cl g post) k.2.2.2.2.2.1 k.2.2.2.1 R.cells R.slots g.2.2.1) L 0 [] M 0 0) : ZCT cl tl Ts l g y cc nL ret R av M post := by
  refine MetFree.of_bodyS (code := cc) (maxLocals := nL) (ret := ret) hy ?_ ?_
  · intro args s m h hn
    obtain ⟨meth, c, h1, h2, h3, h4, h5, h6, -, -⟩ := Cond.code_spec hn (atoms_spec (ws := Cond.code y cc nL ret :: Ts) h _ List.mem_cons_self)
    exact ⟨meth, c, h1, h2, h3, h4, h5, h6⟩
  · intro p e s m args below meth c s₁ B hml hv _
    obtain ⟨rfl, hP, hK, hA, hE⟩ := hv
    have hts := atoms_spec (ws := Cond.code y cc nL ret :: Ts) B.pre
    obtain ⟨hl, hn⟩ := zl_entry av hlen
    have hh0 : s₁.heap = s.heap := by rw [B.state]; rfl
    subst hL
    have hW := h (p, l, e, s, m, av.toArray, below, meth, c) rfl (B.noHandlers (hts _ List.mem_cons_self)) hP.2.2 ⟨B.exec, B.bytes, hml, findClass_of_methodNamed B.named, fun w hw => hts w (List.mem_cons_of_mem _ hw), B.notSynchronized, B.returns, (name_of_methodNamed B.named B.method).1, hK, hA, hE⟩ _ _ _ hl hn hP va_S.rf
    rw [← lg_entry_eq] at hW
    obtain ⟨t, a1, o, b1, b2, b3⟩ := hW s₁ hh0 (Stand.of_body B)
    exact ⟨t, o, a1, b1, b2, ⟨b3.1, b3.2⟩⟩
theorem zq_words : ∀ w ∈ Bundle.ownAtomsX "MonitorQueues" 76 "java/util/NoSuchElementException" 13 b_Ne_init ["java/lang/RuntimeException", "java/lang/Exception"], w ∈ GT ∨ (∃ x ∈ ([⟨"java/lang/RuntimeException", "<init>", "(Ljava/lang/String;)V"⟩, ⟨"java/lang/Exception", "<init>", "(Ljava/lang/String;)V"⟩, ⟨"java/lang/Throwable", "<init>", "(Ljava/lang/String;)V"⟩] : List MethodName), w = .declares x) ∨ w = .castable "java/util/NoSuchElementException" "java/util/NoSuchElementException" ∨ (∃ x ∈ ([("UNASSIGNED_STACK", "[Ljava/lang/StackTraceElement;"), ("SUPPRESSED_SENTINEL", "Ljava/util/List;")] : List (String × String)), w = .laysStatic "java/lang/Throwable" x.1 x.2 ∨ w = .isRef (.static "java/lang/Throwable" x.1 x.2)) := by
  decide +kernel
theorem z_words {cl : List vw_C} {tl : List FieldType} {own : String} {cc : ByteArray} {nL : Nat} {ret : Option FieldType} {nm : String} {g : ZG} {k : ZK} (X : ZX cl tl GT own cc nL ret nm g k) : ∀ w ∈ Bundle.ownAtomsX "MonitorQueues" 76 "java/util/NoSuchElementException" 13 b_Ne_init ["java/lang/RuntimeException", "java/lang/Exception"], w.before k.2.2.2.2.2.1 k.2.2.2.1 = true := by
  intro w hw
  obtain ⟨h0, h1, h2, h3, h4, h5⟩ := X.2.2.2.2.2.2.2.2.2.2
  rcases zq_words w hw with h | ⟨x, hx, rfl⟩ | rfl | ⟨x, hx, h⟩
  · exact X.2.2.2.2.1 w h
  · exact va_tabs rfl rfl (h3 x hx)
  · exact va_tabs rfl rfl h4
  · simp only [List.mem_cons, List.not_mem_nil, or_false] at hx
    rcases hx with rfl | rfl
    · rcases h with rfl | rfl
      · exact h1.lays _
      · exact h1.isRef _
    · rcases h with rfl | rfl
      · exact h2.lays _
      · exact h2.isRef _
/-- new NoSuchElementException(text), thrown -/
theorem z_throw {cl : List vw_C} {tl : List FieldType} {cc : ByteArray} {nL : Nat} {ret : Option FieldType} {nm : String} {R : Room} {g : ZG} {k : ZK} {post : ZM → Prop} {L : List (Option Value)} {pc : Nat} {M : ZM} {n1 n2 sx : Nat} {text : String}
    (hd0 : decode cc pc = .ok (.new 72, 3)) (hd3 : decode cc (pc + 3) = .ok (.dup, 1)) (hd4 : decode cc (pc + 4) = .ok (.ldc sx, 2)) (hd6 : decode cc (pc + 6) = .ok (.invokespecial 76, 3)) (hd9 : decode cc (pc + 9) = .ok (.athrow, 1)) (hs : (sx, text) ∈ zSr)
    (hl : k.2.1.stackTraces = false) (hx : k.2.2.2.2.2.2.2.2.exceptionTable.isEmpty = true) (hf : 6 ≤ R.frames) (hlo : 100 ≤ R.locals) (hc1 : n1 + 1 ≤ R.cells) (hc2 : n2 + 6 ≤ R.slots) (hp : post M) : ZU cl tl GT "MonitorQueues" cc nL ret nm R g k (MQT k.2.2.2.2.2.2.1 (zQT cl g post) k.2.2.2.2.2.1 k.2.2.2.1 R.cells R.slots g.2.2.1) L pc [] M n1 n2 := by
  intro X ls H locs hl0 hL hP hS T hT Y
  have hts := X.2.2.2.2.1
  have hex := X.1
  have hb := X.2.1
  have htr : k.2.2.1.platform.stackTraces = false := by rw [Y.admits.platform]; exact hl
  have hown := X.2.2.2.1
  obtain ⟨vm₁, cX, kX, hfX, hkX, -, -, X₁, st1⟩ := Y.newCold hex (own := "MonitorQueues") (C := zNse) (index := 72) (n := 6) hown (hts _ (by decide +kernel)) (hts _ (by decide +kernel)) (hts _ (by decide +kernel)) (g := F0 k.2.2.2.2.1 pc ls []) rfl (by rw [hb]; exact hd0) hc1 hc2
  have hE := X.2.2.2.2.2.2.2.2.2.2
  have hconst : (Cond.stringRef "MonitorQueues" sx text).before k.2.2.2.2.2.1 k.2.2.2.1 = true := hE.2.2.2.2.2 (sx, text) hs
  obtain ⟨-, -, -, sa, -, -, -, -, -, hev⟩ := Cond.stringRef_spec hown hconst
  generalize hT1 : (T.setVm vm₁).pushCell { cls := cX, slots := kX.instanceTypes.map defaultValue, vm := .none } = T1 at X₁ st1
  have hcellA : T1.heap[T.heap.size]? = some (freshCell cX kX) := by rw [← hT1]; exact State.heap_pushCell_size _ _
  have hold : ∀ q : Nat, q < T.heap.size → T1.heap[q]? = T.heap[q]? := fun q hq => by rw [← hT1]; simp [State.pushCell, Array.getElem?_push, Nat.ne_of_lt hq]
  have hsz1 : T1.heap.size = T.heap.size + 1 := by rw [← hT1]; simp [State.pushCell]
  have hsz : k.2.2.2.1.heap.size ≤ T.heap.size := by rw [hT]; exact hS.1
  obtain ⟨U, L1, hsteps, hrun, hend, hW, hsame, hbase, hkeep, hUsz, ce, hce, hcls, hvm⟩ := z_ctorT X₁ hex htr (own := "MonitorQueues") (cls := "java/util/NoSuchElementException") (names := ["java/lang/RuntimeException", "java/lang/Exception"]) (ic := 76) (ix := 13) (rx := b_Ne_init) (by decide +kernel) (by decide +kernel) (by decide +kernel) (by decide +kernel)
    hown (by decide +kernel) (by decide +kernel) (z_words X) (fun cf kk i f a hff hst => by
      obtain ⟨c, k2, i2, f2, a2, cell, v, h1, h2, h3, h4, h5, h6, h7, h8, h9, h10, h11, h12⟩ := hE.2.1
      rw [h2] at hff
      cases hff
      rw [h4] at hst
      cases hst
      have hlt : a < k.2.2.2.1.heap.size := (Array.getElem?_eq_some_iff.mp h5).1
      rw [hold a (Nat.lt_of_lt_of_le hlt hsz), hT]
      exact hS.2.1 a hlt h12) hfX hkX hcellA hsz (msg := .ref sa) rfl (g := F0 k.2.2.2.2.1 (pc + 6) ls [.ref sa, .ref T.heap.size, .ref T.heap.size]) rfl (by rw [X.2.2.1, hl0.2.1, hL]) rfl rfl (rest := []) rfl
    (by rw [hb]; exact hd6) (by rw [hb]; exact hd9) (covers_of_empty hx _) (by show 2 + 3 < _; omega) (by show 2 * 0 + 1 + (13 * 3 + 42) ≤ _; omega) X.2.2.2.2.2.1
  refine ⟨U, ?_, .threw T.heap.size, hrun, hend, ⟨⟨T.heap.size, M, ce, rfl, hp, ?_, hce, ?_, hvm⟩, ?_, ?_⟩, locs ++ L1, ⟨⟨_, rfl⟩, hW, hsame.weaken (fun y hy _ => hy) hc1 hc2⟩, fun q hq => ?_⟩
  · refine st1 _ ?_
    show Steps _ _ _ (T1.setTop (F0 k.2.2.2.2.1 (pc + 3) ls [.ref T.heap.size])) _
    jvm_step X₁.here [X₁.here.top, hex, hb, hd3, Value.category]
    exact X₁.ldcString hex (own := "MonitorQueues") (text := text) (index := sx) (a := sa) hown hconst hev (g := F0 k.2.2.2.2.1 (pc + 4) ls [.ref T.heap.size, .ref T.heap.size]) rfl (by rw [hb]; exact hd4) _ hsteps
  · have hk : ∀ q : Nat, q < H.size → U.heap[q]? = H[q]? := fun q hq => by
      rw [← hT] at hq ⊢
      rw [hkeep q (Nat.ne_of_lt hq), hold q hq]
    exact ⟨fun a e ha => (hP.1 a e ha).kept (hk a (hP.lt ha)), hP.2.1, hP.2.2⟩
  · rw [hcls]; exact hfX
  · rw [hUsz, hsz1]; omega
  · intro q hq hA
    rw [hkeep q (by omega), hold q (by omega), hT]
    exact hS.2.1 q hq hA
  · rcases List.mem_append.mp hq with h | h
    · exact hS.2.2 q h
    · rw [hbase q h]
      exact X.2.2.2.2.2.2.2.2.2.1 _ hsz
