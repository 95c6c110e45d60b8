/-! THE CLAIM OUT OF ONE WALK OF THE LAW'S BODY. Your part is whole_start (and what it stands on); all else here is the same for every law, but numbers. -/
def R_law : String := "MonitorQueuesLaw"
def lw_P (b : Addr) (xs : List Int32) (args : Array Value) (s : State) : Prop := args = #[.ref b] ∧ s.IntsAt b xs ∧ xs.length ≤ 3073 ∧ (Jvm.Cond.and given_1 narrow_1).before args s = true
def lw_Q (_ : Array Value) (s : State) (o : Outcome) (t : State) : Prop := o = .returned (some (.int 1)) ∧ Framed s o t [] 601024 7293000
def lw_Z (below : List Frame) (a : Array Value) (s : State) : State → Prop := fun t => ∃ o, t.status = .running ∧ Ended t below o ∧ lw_Q a s o t
/-- the law's own end, with 1 on the stack, nothing written that was there before, its room as the claim has it -/
theorem lw_ret {p : Program} {l : Launch} {e : Env} {s : State} {m : MethodId} {below : List Frame} {meth : Method} {c : Code} {b : Nat} (hx : p.tables.exec = Jvm.exec) (hb : c.code = code) (hr : meth.sig.returnType = ret) (hlocks : meth.locks = false) {pc : Nat} {H : Heap} {ls : Array Slot} (hdg : decode code pc = .ok (.ireturn, 1)) : W p l e room_1 s m #[Value.ref b] below meth c H [] 601024 7293000 (lw_Z below #[Value.ref b] s) (F0 m pc ls [.int 1]) := by
  intro T hT X
  obtain ⟨fs, hret, hrun, hended, hW, hframe⟩ := X.leave (v := some (.int 1)) (hlocks := hlocks) (fun h => by rw [hr] at h; cases h)
  have hmeth' : T.vm.method? m = some meth := X.method'
  refine ⟨T.setFrames fs, ?_, .returned (some (.int 1)), hrun, hended, rfl, ⟨_, rfl⟩, hW, hframe⟩
  jvm_step X.here [X.here.top, hx, hb, hdg, hmeth', hr, ret, narrow_b1]
  (try refine ⟨rfl, ?_⟩); (try refine ⟨rfl, ?_⟩)
  first | (intro acts; rw [hret _ acts rfl rfl rfl]) | rw [hret _ _ rfl rfl rfl]
  exact Steps.refl _
/-- what holds at the law's entry: the machine, the code, the tables' words (any of lw_tbl by 'hts w (by decide +kernel)'), the script of L ints xs at the cell b, what the Statement gives of the start (any of its parts by flat_of_before) -/
def lw_At (p : Program) (s : State) (m : MethodId) (meth : Method) (c : Code) (b L : Nat) (xs : Nat → Int32) : Prop :=
  p.tables.exec = Jvm.exec ∧ c.code = code ∧ meth.sig.returnType = ret ∧ c.maxLocals = 8 ∧ s.vm.findClass R_law = some m.cls ∧ (∀ w ∈ lw_tbl, w.before #[Value.ref b] s = true) ∧ va_X b L xs s s.heap ∧ b < s.heap.size ∧ meth.locks = false ∧ (Jvm.Cond.and given_1 narrow_1).before #[Value.ref b] s = true ∧ meth.name = "law"
theorem zarrO {args : Array Value} {s : State} {C : String} (h : (Cond.arrayOver (.object C)).before args s = true) : ∃ cA : ClassId, ArrOfT s cA (.object C) ∧ va_RA s cA (.object C) ∧ s.vm.findClass ("[" ++ (FieldType.object C).toString) = some cA := by
  obtain ⟨comp, cA, kA, h1, -, h3, h4, h5⟩ := Cond.arrayOver_spec h
  exact ⟨cA, fun n z => ⟨fun q w => (by cases w), kA, h3, comp, h4⟩, ⟨kA, comp, h3, h4, h1, h5⟩, h5⟩
theorem zarrP {args : Array Value} {s : State} {ty : FieldType} (h : (Cond.arrayClass ty).before args s = true) : ∃ cA : ClassId, ArrOfT s cA ty ∧ s.vm.findClass ("[" ++ ty.toString) = some cA := by
  obtain ⟨cA, kA, comp, h1, h2, h3⟩ := Cond.arrayClass_spec h
  exact ⟨cA, fun n z => ⟨fun q w => (by cases w), kA, h2, comp, h3⟩, h1⟩
theorem z0 {n : Nat} (h : n < 2 ^ 31) (e : (Value.int 0) = .int n.toInt32) : n = 0 := by
  have e2 : (0 : Int32) = n.toInt32 := Value.int.inj e
  have e3 : nI 0 = nI n := e2
  rw [nI_eq (by omega) h] at e3
  omega
theorem zlen {args : Array Value} {s : State} {t : Term} {v : Value} (h : (Term.length t).eval args s none [] s = some v) :
    ∃ a cell, t.eval args s none [] s = some (.ref a) ∧ s.arrayAt? a = some cell ∧ v = .int cell.slots.size.toInt32 ∧ cell.slots.size < 2 ^ 31 := by
  obtain ⟨a, cell, h1, h2, h3⟩ := Term.length_spec h
  refine ⟨a, cell, h1, h2, h3, ?_⟩
  simp only [Term.eval, Option.bind_eq_bind, h1, Option.bind_some, h2] at h
  by_cases hs : cell.slots.size < 2 ^ 31
  · exact hs
  · rw [if_neg hs] at h
    cases h
/-- what the law's world is at its beginning -/
def zM0 (z : Nat) : ZM := fun q => if q = z then some (.inl (0, [])) else none
set_option maxHeartbeats 4000000 in
set_option maxRecDepth 100000 in
theorem whole_start {p : Program} {e : Env} {s : State} {m : MethodId} {below : List Frame} {meth : Method} {c : Code} (l : Launch) (hlt : l.stackTraces = false) {b L : Nat} {xs : Nat → Int32} (hL : L ≤ 3073) (C0 : lw_At p s m meth c b L xs) : W p l e room_1 s m #[Value.ref b] below meth c s.heap [] 0 0 (lw_Z below #[Value.ref b] s) (entryFrame m ([Value.ref b] : List Value).toArray 8) := by
  obtain ⟨hx, hb, hr, hml, hown, hts, hX, hbl, hlocks, hgv, hnm⟩ := id C0
  have hgt : ∀ w ∈ GT, w.before #[Value.ref b] s = true := fun w hw => hts w (List.mem_filter.mp hw).1
  have htb : ∀ w ∈ tables_1, w.before #[Value.ref b] s = true := fun w hw => hts w (List.mem_append_right _ hw)
  have hfl := flat_of_before _ hgv
  have hnA : ∀ a : Nat, a < s.heap.size → ¬ (fun q : Nat => s.heap.size ≤ q) a := fun a h => Nat.not_le.mpr h
  obtain ⟨c0, i0, k0⟩ := u_known (C := "MonitorQueues") (T := T_MQ) (N := 7) (n := 7) hgt in_MQ (hgt _ gw_57)
  obtain ⟨c1, i1, k1⟩ := u_known (C := "MonitorQueues$Queue") (T := T_Qu) (N := 10) (n := 10) hgt in_Qu (hgt _ gw_72)
  obtain ⟨c2, i2, k2⟩ := u_known (C := "MonitorQueues$Item") (T := T_It) (N := 1) (n := 1) hgt in_It (hgt _ gw_203)
  obtain ⟨c3, i3, k3⟩ := u_known (C := "MonitorQueues$Task") (T := T_Ta) (N := 2) (n := 2) hgt in_Ta (hgt _ gw_295)
  obtain ⟨c4, i4, k4⟩ := u_known (C := "MonitorQueues$Trigger") (T := T_Tr) (N := 5) (n := 5) hgt in_Tr (hgt _ gw_375)
  obtain ⟨c5, i5, k5⟩ := u_known (C := "MonitorQueues$Delay") (T := T_De) (N := 3) (n := 3) hgt in_De (hgt _ gw_427)
  obtain ⟨c6, i6, k6⟩ := u_known (C := "java/util/ArrayList") (T := T_AL) (N := 3) (n := 3) hgt in_AL (hgt _ gw_78)
  obtain ⟨c7, i7, k7⟩ := u_known (C := "MonitorQueuesModel") (T := T_Mo) (N := 28) (n := 28) hgt in_Mo (hgt _ gw_571)
  obtain ⟨dC, dI, hKc⟩ : ∃ (dC : Nat → ClassId) (dI : Nat → Nat → Nat), ∀ (k : Nat) (q : vw_C), vcl[k]? = some q → u_Kn s q.1 q.2.1 q.2.2 (dC k) (dI k) := by
    refine ⟨fun k => if k = 0 then c0 else (if k = 1 then c1 else (if k = 2 then c2 else (if k = 3 then c3 else (if k = 4 then c4 else (if k = 5 then c5 else (if k = 6 then c6 else (c7))))))), fun k => if k = 0 then i0 else (if k = 1 then i1 else (if k = 2 then i2 else (if k = 3 then i3 else (if k = 4 then i4 else (if k = 5 then i5 else (if k = 6 then i6 else (i7))))))), ?_⟩
    intro k q hq
    match k, hq with
    | 0, hq => cases hq; exact k0
    | 1, hq => cases hq; exact k1
    | 2, hq => cases hq; exact k2
    | 3, hq => cases hq; exact k3
    | 4, hq => cases hq; exact k4
    | 5, hq => cases hq; exact k5
    | 6, hq => cases hq; exact k6
    | 7, hq => cases hq; exact k7
    | k + 8, hq => simp [vcl] at hq
  obtain ⟨a0, b0, r0, f0⟩ := zarrO (htb _ gw_258)
  obtain ⟨a1, b1, r1⟩ := zarrP (hgt _ gw_142)
  obtain ⟨a2, b2, r2⟩ := zarrP (hgt _ gw_661)
  obtain ⟨a3, b3, r3⟩ := zarrP (hgt _ gw_662)
  obtain ⟨a4, b4, r4, f4⟩ := zarrO (htb _ gw_71)
  obtain ⟨dA, hdA, hTc⟩ : ∃ dA : Nat → ClassId, dA 0 = a0 ∧ ∀ (t : Nat) (ty : FieldType), tlx[t]? = some ty → ArrOfT s (dA t) ty ∧ va_RA s (dA t) ty := by
    refine ⟨fun k => if k = 0 then a0 else (if k = 1 then a1 else (if k = 2 then a2 else (if k = 3 then a3 else (a4)))), rfl, ?_⟩
    intro t ty ht
    match t, ht with
    | 0, ht => cases ht; exact ⟨b0, r0⟩
    | 1, ht => cases ht; exact ⟨b1, r1⟩
    | 2, ht => cases ht; exact ⟨b2, r2⟩
    | 3, ht => cases ht; exact ⟨b3, r3⟩
    | 4, ht => cases ht; exact ⟨b4, r4⟩
    | t + 5, ht => simp [tlx] at ht
  obtain ⟨mi, hmi⟩ := va_Mi.of (hfl (.isRef (.mirror "[Ljava/lang/Object;")) (by decide +kernel))
  obtain ⟨z, cz, cell, kz, q1, q2, q3, q4, q5, q6, -⟩ := Cond.exactly_spec (hfl (.exactly (.static "java/util/ArrayList" "DEFAULTCAPACITY_EMPTY_ELEMENTDATA" "[Ljava/lang/Object;") "[Ljava/lang/Object;") (by decide +kernel))
  obtain ⟨g1, g2⟩ := Cond.arrayOf_spec (hfl (.arrayOf (.static "java/util/ArrayList" "DEFAULTCAPACITY_EMPTY_ELEMENTDATA" "[Ljava/lang/Object;") (.object "java/lang/Object")) (by decide +kernel)) q1 q3
  obtain ⟨z9, cell9, w1, w2, w3, w4⟩ := zlen (va_eqt (hfl (.eq (.length (.static "java/util/ArrayList" "DEFAULTCAPACITY_EMPTY_ELEMENTDATA" "[Ljava/lang/Object;")) (.int 0)) (by decide +kernel)))
  cases q1.symm.trans w1
  have hc9 := (State.arrayAt?_spec w2).1
  cases q3.symm.trans hc9
  have hsz := z0 w4 w3
  have hcz : cell.cls = dA 0 := by
    have hn : "[" ++ (FieldType.object "java/lang/Object").toString = "[Ljava/lang/Object;" := by decide
    rw [hn] at f0
    rw [q6, hdA]
    exact Option.some.inj (q2.symm.trans f0)
  have hZ : va_Z "java/util/ArrayList" "DEFAULTCAPACITY_EMPTY_ELEMENTDATA" "[Ljava/lang/Object;" (.ref z) (fun q : Nat => s.heap.size ≤ q) s s.heap := va_Zref (htb _ (gt_1 55 (by decide +kernel))) (hgt _ gw_41) q1 hnA
  have ht1 : zTs "UNASSIGNED_STACK" "[Ljava/lang/StackTraceElement;" (fun q : Nat => s.heap.size ≤ q) s s.heap := zTs.of (htb _ (gt_3 14 (by decide +kernel))) (hfl (.isRef (.static "java/lang/Throwable" "UNASSIGNED_STACK" "[Ljava/lang/StackTraceElement;")) (by decide +kernel)) hnA
  have ht2 : zTs "SUPPRESSED_SENTINEL" "Ljava/util/List;" (fun q : Nat => s.heap.size ≤ q) s s.heap := zTs.of (htb _ (gt_3 16 (by decide +kernel))) (hfl (.isRef (.static "java/lang/Throwable" "SUPPRESSED_SENTINEL" "Ljava/util/List;")) (by decide +kernel)) hnA
  have hdl : ∀ x ∈ zDl, va_Nw (.declares x) s := by
    intro x hx
    simp only [zDl, List.mem_cons, List.not_mem_nil, or_false] at hx
    rcases hx with rfl | rfl | rfl
    · exact va_any rfl (htb _ gw_506)
    · exact va_any rfl (htb _ gw_508)
    · exact va_any rfl (htb _ gw_510)
  have hsr : ∀ w ∈ zSr, va_Nw (.stringRef "MonitorQueues" w.1 w.2) s := by
    intro x hx
    simp only [zSr, List.mem_cons, List.not_mem_nil, or_false] at hx
    rcases hx with rfl | rfl | rfl
    · exact htb _ gw_541
    · exact htb _ gw_568
    · exact htb _ gw_569
  have hca : ∀ c ∈ zCa, va_Nw (.castable c.1 c.2) s := by
    intro x hx
    simp only [zCa, List.mem_cons, List.not_mem_nil, or_false] at hx
    rcases hx with rfl | rfl | rfl | rfl | rfl
    · exact va_any rfl (htb _ gw_813)
    · exact va_any rfl (htb _ gw_814)
    · exact va_any rfl (htb _ gw_816)
    · exact va_any rfl (htb _ gw_811)
    · exact va_any rfl (htb _ gw_815)
  have hov : ∀ C ∈ zOv, va_AO C s := by
    intro x hx
    simp only [zOv, List.mem_cons, List.not_mem_nil, or_false] at hx
    rcases hx with rfl | rfl
    · exact va_AO.of (htb _ gw_258)
    · exact va_AO.of (htb _ gw_71)
  have hzM : zM0 z z = some (.inl (0, [])) := if_pos rfl
  have hP : zP vcl ((dC, dI), dA, (fun q : Nat => s.heap.size ≤ q), z, mi, (b, L, xs)) (zM0 z) s.heap := by
    refine ⟨fun a e ha => ?_, fun a e ha => ?_, hzM⟩
    · unfold zM0 at ha
      split at ha
      · rename_i hq
        subst hq
        cases ha
        exact ⟨cell, q3, Or.inr ⟨rfl, hcz, Array.eq_empty_of_size_eq_zero hsz, g1.1, g2⟩⟩
      · cases ha
    · unfold zM0 at ha
      split at ha
      · rename_i hq; exact Or.inl hq
      · cases ha
  have X : ZX vcl tlx GT "MonitorQueuesLaw" code 8 ret "law" ((dC, dI), dA, (fun q : Nat => s.heap.size ≤ q), z, mi, (b, L, xs)) (p, l, e, s, m, #[Value.ref b], below, meth, c) := ⟨hx, hb, hml, hown, hgt, hlocks, hr, hnm, ⟨hKc, hTc, hov, hca, va_Dc.of (htb _ gw_809), hmi⟩, fun q hq => hq, ⟨hZ, hX, hnA b hbl⟩, ht1, ht2, hdl, va_any rfl (htb _ gw_504), hsr⟩
  have hend : ∀ (M : ZM) (LL : List (Option Value)) (n1 n2 : Nat), n1 ≤ 601024 → n2 ≤ 7293000 → LU ((dC, dI), dA, (fun q : Nat => s.heap.size ≤ q), z, mi, (b, L, xs)) (p, l, e, s, m, #[Value.ref b], below, meth, c) (lw_Z below #[Value.ref b] s) LL 814 [] M n1 n2 := by
    intro M LL n1 n2 h1 h2
    refine z_iconst (v := 1) d_La_law_814 (by decide) ?_
    intro X ls H locs hl hLn hP hS
    refine va_forget (fun q hq => hS.2.2 q hq) ?_
    refine W.widen (k := 601024) (n := 7293000) h1 h2 ?_
    exact lw_ret hx hb hr hlocks d_La_law_815
  obtain ⟨hl, hn⟩ := zl_entry [Value.ref b] (n := 8) (Nat.le_of_ble_eq_true rfl)
  rw [lg_entry_eq]
  exact lw_begin (g := ((dC, dI), dA, (fun q : Nat => s.heap.size ≤ q), z, mi, (b, L, xs))) (k := (p, l, e, s, m, #[Value.ref b], below, meth, c)) hlt hL hend hzM X _ _ _ hl hn hP va_S.rf
set_option maxHeartbeats 4000000 in
theorem lw_walk (l : Launch) (hlt : l.stackTraces = false) (b : Addr) (xs : List Int32) : MetFree l x (headSpec (Jvm.Cond.code x code maxLocals ret :: tables_1) room_1) (lw_P b xs) (fun _ _ _ _ _ => True) lw_Q := by
  refine MetFree.of_bodyS (code := code) (maxLocals := maxLocals) (ret := ret) (by decide) ?_ ?_
  · intro args s m h hn
    obtain ⟨meth, c, h1, h2, h3, h4, h5, h6, -, -⟩ := Cond.code_spec hn (atoms_spec (ws := Jvm.Cond.code x code maxLocals ret :: tables_1) h _ List.mem_cons_self)
    exact ⟨meth, c, h1, h2, h3, h4, h5, h6⟩
  · intro p e s m args below meth c s₁ B hml0 hP _
    obtain ⟨rfl, hx, hbd, hgv⟩ := hP
    obtain ⟨scr, harrAt, hlist, hof, hsmall⟩ := hx
    obtain ⟨hcb, hkn, -, -⟩ := State.arrayAt?_spec harrAt
    have hown : s.vm.findClass R_law = some m.cls := findClass_of_methodNamed B.named
    have hts0 : ∀ c ∈ (Jvm.Cond.code x code maxLocals ret :: tables_1), c.before #[Value.ref b] s = true := atoms_spec (ws := Jvm.Cond.code x code maxLocals ret :: tables_1) B.pre
    have hts : ∀ w ∈ lw_tbl, w.before #[Value.ref b] s = true := k2_hts_sels lw_privs (fun w hw => hts0 w (List.mem_cons_of_mem _ hw)) lw_privs_ok
    have hml : c.maxLocals = 8 := B.maxLocals_eq (hts0 _ List.mem_cons_self)
    have X₀ : Stand p l e room_1 s m #[Value.ref b] below meth c s₁ [] 0 0 := Stand.of_body B
    have hh0 : s₁.heap = s.heap := by rw [B.state]; rfl
    have hsz : scr.slots.size = xs.length := by rw [← Array.length_toList, hlist, List.length_map]
    have hval : ∀ j : Nat, j < xs.length → scr.slots[j]? = some (.int (xs.getD j 0)) := fun j hj => by
      rw [← Array.getElem?_toList, hlist]
      simp [hj]
    have hbl : b < s.heap.size := (Array.getElem?_eq_some_iff.mp hcb).1
    have hX : va_X b xs.length (fun j => xs.getD j 0) s s.heap := ⟨scr, hcb, hof, hkn, hsz, hval⟩
    have K : W p l e room_1 s m #[Value.ref b] below meth c s₁.heap [] 0 0 (lw_Z below #[Value.ref b] s) (entryFrame m ([Value.ref b] : List Value).toArray 8) := by
      rw [hh0]
      exact whole_start l hlt hbd ⟨B.exec, B.bytes, B.returns, hml, hown, hts, hX, hbl, B.notSynchronized, hgv, (name_of_methodNamed B.named B.method).1⟩
    obtain ⟨t, a1, o, b1, b2, b3⟩ := K s₁ rfl X₀
    exact ⟨t, o, a1, b1, b2, b3⟩
theorem lw_pre_spec {args : Array Value} {s : State} (h : (Jvm.Cond.and given_1 narrow_1).before args s = true) (hr : rest_1_c.before args s = true) : ∃ (b : Addr) (xs : List Int32), lw_P b xs args s := by
  have hs := flat_of_before _ h
  have hq := flat_of_before _ hr
  have hc : (Cond.count 1).before args s = true := hs _ (by decide +kernel)
  have harr : (Cond.arrayOf (.arg 0) .int).before args s = true := hs _ (by decide +kernel)
  have hle : (Cond.le (.length (.arg 0)) (.int 3073)).before args s = true := hs _ (by decide +kernel)
  have hlen : (Cond.isInt (.length (.arg 0))).before args s = true := hq _ (by decide +kernel)
  have hall : (Cond.all (.arg 0) (.isInt (.elem (.arg 0) (.index 0)))).before args s = true := hq _ (by decide +kernel)
  obtain ⟨b, xs, hb, hx⟩ := State.ints_of_pre rfl harr hlen hall
  have hsm : xs.length < 2 ^ 31 := hx.choose_spec.2.2.2
  have hev : (Term.length (.arg 0)).eval args s none [] s = some (.int xs.length.toInt32) := hx.length_eval hb
  have hv := Cond.le_ints hev (show (Term.int 3073).eval args s none [] s = some (.int 3073) from rfl)
  have hd : xs.length.toInt32 ≤ 3073 := by
    simpa [Cond.before, Cond.holds, hv] using hle
  have hN : xs.length ≤ 3073 := (Int32.ofNat_le_ofNat hsm (by decide)).mp (show Int32.ofNat xs.length ≤ Int32.ofNat 3073 from hd)
  exact ⟨b, xs, Cond.one_arg hc (show args[0]? = some (.ref b) from hb), hx, hN, h⟩
theorem lw_comes (l : Launch) (hlt : l.stackTraces = false) : Comes l x (Jvm.Cond.code x code maxLocals ret :: tables_1) room_1 (fun tb e args s => Calls_1 tb e args s ∧ rest_1 tb e args s ∧ Pre_1 tb e args s)
    (fun _ _ args s o t => lw_Q args s o t) := by
  intro p e ha hc hk s m args below hf hfit hheap happ hpre
  obtain ⟨b, xs, hP⟩ := lw_pre_spec hpre.2.2 hpre.2.1
  obtain ⟨k, o, h1, h2, h3, hQ⟩ := lw_walk l hlt b xs p e ha hc hk s m args below hf ((Spec.applies_iff_loose hf).mp happ).1 hP trivial
  exact ⟨k, o, h1, h2, h3, hQ⟩
theorem lw_frame {s t : State} {o : Outcome} {args : Array Value} (h : Framed s o t [] 601024 7293000) :
    Framed s o t (fieldLocs frame_1_writes args s ++ arrayLocs frame_1_arrays args s ++ staticLocs frame_1_statics s) 601024 7293000 := h
theorem lw_limb (L : Cond) (hL : ∀ (args : Array Value) (s t : State), L.after args s (.returned (some (.int 1))) t = true) :
    ArmFor flags0 classFile x code maxLocals ret World_1 tables_1 room_1 Calls_1 rest_1 Pre_1
      (fun tb e a s o t => postC L tb e a s o t ∧ Framed s o t (fieldLocs frame_1_writes a s ++ arrayLocs frame_1_arrays a s ++ staticLocs frame_1_statics s) 601024 7293000) := by
  intro l hfl _ _ p e ha hc hk s m args below hf hfit hheap happ hpre
  have hlt : l.stackTraces = false := by
    unfold Launch.stackTraces
    rw [hfl]
    decide +kernel
  obtain ⟨k, o, h1, h2, h3, rfl, hF⟩ := lw_comes l hlt p e ha hc hk s m args below hf hfit hheap happ hpre
  exact ⟨k, _, h1, h2, h3, hL args s _, lw_frame hF⟩
theorem i_vc : Claimed_1_1 ∧ Claimed_1_2 := ⟨lw_limb limb_1_1 (fun args s t => by simp [limb_1_1, Cond.after, Cond.holds, Cond.value]), lw_limb limb_1_2 (fun args s t => Cond.after_iff.mpr (by
  first | (rw [show limb_1_2 = Cond.eq .result (.int 1) from rfl, Cond.eq_ints (x := 1) (y := 1) rfl rfl]; simp; done) | (simp [limb_1_2, Cond.value, Term.eval]; done)))⟩
