/-! A WORLD AS A MAP FROM ADDRESSES TO CELLS, AND A JUDGEMENT THAT FORGETS THE HEAP, THE LOCALS' ARRAY AND THE PLACES WRITTEN. -/
/-- a cell: an array by its type's place and contents, or an object by its class's place and fields -/
abbrev ZE : Type := (Nat × List Value) ⊕ (Nat × List Value)
abbrev ZM : Type := Nat → Option ZE
def zset (M : ZM) (a : Nat) (e : ZE) : ZM := fun q => if q = a then some e else M q
theorem zset_self (M : ZM) (a : Nat) (e : ZE) : zset M a e a = some e := by simp [zset]
theorem zset_zset (M : ZM) (a : Nat) (e e' : ZE) : zset (zset M a e) a e' = zset M a e' := by
  funext q
  unfold zset
  split <;> rfl
theorem zset_ne {M : ZM} {a q : Nat} {e : ZE} (h : q ≠ a) : zset M a e q = M q := by simp [zset, h]
/-- the class numbers and slots; the array classes; what may be written; the shared empty array; the Class object of Object arrays -/
abbrev ZG : Type := va_G × (Nat → ClassId) × (Nat → Prop) × Nat × Nat × (Nat × Nat × (Nat → Int32))
def zarr (cA : ClassId) (vs : List Value) : Cell := { cls := cA, slots := vs.toArray, vm := .none }
def zat (cl : List vw_C) (g : ZG) (q : Nat) (e : ZE) (H : Heap) : Prop := match e with
  | .inl a => ∃ ce : Cell, H[q]? = some ce ∧ (ce = zarr (g.2.1 a.1) a.2 ∨ (a.2 = [] ∧ ce.cls = g.2.1 a.1 ∧ ce.slots = #[] ∧ (∀ k, ce.vm ≠ .statics k) ∧ ce.vm ≠ .unknown))
  | .inr o => ∃ r : vw_C, cl[o.1]? = some r ∧ o.2.length = r.2.2 ∧ t_OB q (g.1.1 o.1) r.2.2 (g.1.2 o.1) H (vp_V o.2)
/-- words that outlast a step but are not told by the tables alone -/
def zOv : List String := ["java/lang/Object", "MonitorQueues$Queue"]
def zCa : List (String × String) := [("MonitorQueues$Item", "java/lang/Object"), ("MonitorQueues$Task", "java/lang/Object"), ("MonitorQueues$Delay", "java/lang/Object"), ("MonitorQueues$Queue", "java/lang/Object"), ("MonitorQueues$Trigger", "java/lang/Object")]
def zN (g : ZG) (U : State) : Prop := (∀ C ∈ zOv, va_AO C U) ∧ (∀ c ∈ zCa, va_Nw (.castable c.1 c.2) U) ∧ va_Dc U ∧ va_Mi "[Ljava/lang/Object;" g.2.2.2.2.1 U
theorem zNw.moved {C T : String} {u U : State} (hvm : u.vm.Alike U.vm) (h : va_Nw (.castable C T) u) : va_Nw (.castable C T) U := va_tabs rfl (rfl : (u.setVm U.vm).vm = U.vm) (by rw [Cond.castable_setVm hvm]; exact h)
theorem zN.moved {g : ZG} {u U : State} (hvm : u.vm.Alike U.vm) (h : zN g u) : zN g U := by
  obtain ⟨h1, h2, h3, h4⟩ := h
  exact ⟨fun C hC => va_AO.moved hvm (h1 C hC), fun c hc => zNw.moved hvm (h2 c hc), va_Dc.moved hvm h3, va_Mi.moved hvm h4⟩
def zK (cl : List vw_C) (tl : List FieldType) (g : ZG) (U : State) : Prop :=
  (∀ (c : Nat) (q : vw_C), cl[c]? = some q → u_Kn U q.1 q.2.1 q.2.2 (g.1.1 c) (g.1.2 c)) ∧ (∀ (t : Nat) (ty : FieldType), tl[t]? = some ty → ArrOfT U (g.2.1 t) ty ∧ va_RA U (g.2.1 t) ty) ∧ zN g U
def zP (cl : List vw_C) (g : ZG) (M : ZM) (H : Heap) : Prop :=
  (∀ (a : Nat) (e : ZE), M a = some e → zat cl g a e H) ∧ (∀ (a : Nat) (e : ZE), M a = some e → a = g.2.2.2.1 ∨ g.2.2.1 a) ∧ M g.2.2.2.1 = some (.inl (0, []))
/-- a static of Throwable's: a reference or null, in a cell that nobody writes -/
def zTs (n d : String) (A : Nat → Prop) (U : State) (H : Heap) : Prop := ∃ (c : ClassId) (k : Class) (i : Nat) (f : Field) (a : Nat) (cell : Cell) (v : Value), U.vm.findClass "java/lang/Throwable" = some c ∧ U.fieldFound? "java/lang/Throwable" n d = some (c, k, i, f) ∧ f.isStatic = true ∧ k.statics = some a ∧ H[a]? = some cell ∧ cell.vm.isStatics = true ∧ cell.cls = c ∧ f.slot < cell.slots.size ∧ k.staticTypes[f.slot]? = some f.type ∧ cell.slots[f.slot]? = some v ∧ v.isRef = true ∧ ¬ A a
theorem zTs.moved {n d : String} {A : Nat → Prop} {u U : State} {H : Heap} (hvm : u.vm.Alike U.vm) (h : zTs n d A u H) : zTs n d A U H := by
  obtain ⟨c, k, i, f, a, cell, v, h1, h2, h3, h4, h5, h6, h7, h8, h9, h10⟩ := h
  obtain ⟨k', hf', he⟩ := State.fieldFound?_setVm hvm h2
  have hfU : U.fieldFound? "java/lang/Throwable" n d = some (c, k', i, f) := by
    have : U.fieldFound? = (u.setVm U.vm).fieldFound? := by funext x y z; simp only [State.fieldFound?]; rfl
    rw [this]; exact hf'
  exact ⟨c, k', i, f, a, cell, v, by rw [hvm.findClass]; exact h1, hfU, h3, by rw [he]; exact h4, h5, h6, h7, h8, by rw [he]; exact h9, h10⟩
theorem zTs.kept {n d : String} {A : Nat → Prop} {U : State} {H H1 : Heap} (h : zTs n d A U H) (hq : ∀ a : Nat, a < H.size → ¬ A a → H1[a]? = H[a]?) : zTs n d A U H1 := by
  obtain ⟨c, k, i, f, a, cell, v, h1, h2, h3, h4, h5, h6, h7, h8, h9, h10, h11, h12⟩ := h
  exact ⟨c, k, i, f, a, cell, v, h1, h2, h3, h4, by rw [hq a (Array.getElem?_eq_some_iff.mp h5).1 h12]; exact h5, h6, h7, h8, h9, h10, h11, h12⟩
theorem zTs.lays {n d : String} {A : Nat → Prop} {U : State} (h : zTs n d A U U.heap) (args : Array Value) : (Cond.laysStatic "java/lang/Throwable" n d).before args U = true := by
  obtain ⟨c, k, i, f, a, cell, v, h1, h2, h3, h4, h5, h6, h7, h8, h9, h10, h11, h12⟩ := h
  simp [Cond.before, Cond.holds, Cond.value, h1, h2, h3, h4, h5, h6, h7, h8, h9]
theorem zTs.isRef {n d : String} {A : Nat → Prop} {U : State} (h : zTs n d A U U.heap) (args : Array Value) : (Cond.isRef (.static "java/lang/Throwable" n d)).before args U = true := by
  obtain ⟨c, k, i, f, a, cell, v, h1, h2, h3, h4, h5, h6, h7, h8, h9, h10, h11, h12⟩ := h
  simp [Cond.before, Cond.holds, Cond.value, Term.eval, State.fieldNamed?, h2, h3, h4, h5, h6, h10]
  cases v <;> first | rfl | (simp [Value.isRef] at h11)
theorem zTs.of {n d : String} {A : Nat → Prop} {U : State} {args : Array Value} (hl : (Cond.laysStatic "java/lang/Throwable" n d).before args U = true) (hr : (Cond.isRef (.static "java/lang/Throwable" n d)).before args U = true) (hA : ∀ a, a < U.heap.size → ¬ A a) : zTs n d A U U.heap := by
  obtain ⟨c, k, i, f, a, cell, h1, h2, h3, h4, h5, h6, h7, h8, h9⟩ := Cond.laysStatic_spec hl
  obtain ⟨u, hu⟩ := Cond.staticRefV h2 h3 h4 h5 h6 hr
  exact ⟨c, k, i, f, a, cell, u.v, h1, h2, h3, h4, h5, h6, h7, h8, h9, hu, u.2, hA a (Array.getElem?_eq_some_iff.mp h5).1⟩
def zDl : List MethodName := [⟨"java/lang/RuntimeException", "<init>", "(Ljava/lang/String;)V"⟩, ⟨"java/lang/Exception", "<init>", "(Ljava/lang/String;)V"⟩, ⟨"java/lang/Throwable", "<init>", "(Ljava/lang/String;)V"⟩]
def zSr : List (Nat × String) := [(74, "no such queue"), (85, "no such item"), (102, "not the item taken latest")]
def zTh (A : Nat → Prop) (U : State) (H : Heap) : Prop := zTs "UNASSIGNED_STACK" "[Ljava/lang/StackTraceElement;" A U H ∧ zTs "SUPPRESSED_SENTINEL" "Ljava/util/List;" A U H ∧ (∀ x ∈ zDl, va_Nw (.declares x) U) ∧ va_Nw (.castable "java/util/NoSuchElementException" "java/util/NoSuchElementException") U ∧ ∀ w ∈ zSr, va_Nw (.stringRef "MonitorQueues" w.1 w.2) U
def zE (g : ZG) (U : State) (H : Heap) : Prop := (va_Z "java/util/ArrayList" "DEFAULTCAPACITY_EMPTY_ELEMENTDATA" "[Ljava/lang/Object;" (.ref g.2.2.2.1) g.2.2.1 U H ∧ va_X g.2.2.2.2.2.1 g.2.2.2.2.2.2.1 g.2.2.2.2.2.2.2 U H ∧ ¬ g.2.2.1 g.2.2.2.2.2.1) ∧ zTh g.2.2.1 U H
theorem zE.moved {g : ZG} {u U : State} {H : Heap} (hW : u.WarmedH U.vm) (h : zE g u H) : zE g U H := by
  obtain ⟨⟨h0, hx, hb⟩, h1, h2, h3, h4, h5⟩ := h
  refine ⟨⟨va_Z.moved hW.alike h0, va_X.moved hW.alike hx, hb⟩, h1.moved hW.alike, h2.moved hW.alike, fun x hx => ?_, zNw.moved hW.alike h4, fun w hw => ?_⟩
  · exact va_tabs rfl (rfl : (u.setVm U.vm).vm = U.vm) (by rw [Cond.declares_setVm hW.alike]; exact h3 x hx)
  · have h6 := Cond.stringRef_warmed hW (h5 w hw)
    exact h6
theorem zE.kept {g : ZG} {U : State} {H H1 : Heap} (h : zE g U H) (hq : ∀ a : Nat, a < H.size → ¬ g.2.2.1 a → H1[a]? = H[a]?) : zE g U H1 := ⟨⟨va_Z.kept h.1.1 hq, va_X.kept h.1.2.1 (by obtain ⟨scr, hc, -⟩ := h.1.2.1; exact hq _ (Array.getElem?_eq_some_iff.mp hc).1 h.1.2.2), h.1.2.2⟩, h.2.1.kept hq, h.2.2.1.kept hq, h.2.2.2⟩
theorem zK.moved {cl : List vw_C} {tl : List FieldType} {g : ZG} {u U : State} (hvm : u.vm.Alike U.vm) (h : zK cl tl g u) : zK cl tl g U :=
  ⟨fun c q hq => u_Kn_moved hvm (h.1 c q hq), fun t ty ht => ⟨arrOfT_moved hvm (h.2.1 t ty ht).1, va_RA.moved hvm (h.2.1 t ty ht).2⟩, h.2.2.moved hvm⟩
theorem zat.kept {cl : List vw_C} {g : ZG} {q : Nat} {e : ZE} {H H1 : Heap} (h : zat cl g q e H) (hq : H1[q]? = H[q]?) : zat cl g q e H1 := by
  cases e with
  | inl a =>
    obtain ⟨ce, h1, h2⟩ := h
    exact ⟨ce, hq.trans h1, h2⟩
  | inr o =>
    obtain ⟨r, h1, h2, h3⟩ := h
    exact ⟨r, h1, h2, h3.kept hq⟩
theorem zat.lt {cl : List vw_C} {g : ZG} {q : Nat} {e : ZE} {H : Heap} (h : zat cl g q e H) : q < H.size := by
  cases e with
  | inl a =>
    obtain ⟨ce, h1, -⟩ := h
    exact (Array.getElem?_eq_some_iff.mp h1).1
  | inr o =>
    obtain ⟨r, h1, h2, cell, h3, -⟩ := h
    exact (Array.getElem?_eq_some_iff.mp h3).1
theorem zP.lt {cl : List vw_C} {g : ZG} {M : ZM} {H : Heap} (h : zP cl g M H) {a : Nat} {e : ZE} (ha : M a = some e) : a < H.size := (h.1 a e ha).lt
theorem zP.fresh {cl : List vw_C} {g : ZG} {M : ZM} {H : Heap} (h : zP cl g M H) {a : Nat} (ha : H.size ≤ a) : M a = none := by
  cases hm : M a with
  | none => rfl
  | some e => exact absurd (h.lt hm) (by omega)
theorem zP.set {cl : List vw_C} {g : ZG} {M : ZM} {H H1 : Heap} (h : zP cl g M H) {a : Nat} {e : ZE} (hz : a ≠ g.2.2.2.1) (hA : g.2.2.1 a) (he : zat cl g a e H1) (oq : ∀ (q : Nat), q ≠ a → M q ≠ none → H1[q]? = H[q]?) : zP cl g (zset M a e) H1 := by
  refine ⟨fun q e' hq => ?_, fun q e' hq => ?_, ?_⟩
  · by_cases hqa : q = a
    · subst hqa
      rw [zset_self] at hq
      cases hq
      exact he
    · rw [zset_ne hqa] at hq
      exact (h.1 q e' hq).kept (oq q hqa (by rw [hq]; exact fun x => by cases x))
  · by_cases hqa : q = a
    · subst hqa
      exact Or.inr hA
    · rw [zset_ne hqa] at hq
      exact h.2.1 q e' hq
  · rw [zset_ne (Ne.symm hz)]
    exact h.2.2
theorem zP.obj {cl : List vw_C} {g : ZG} {M : ZM} {H : Heap} (h : zP cl g M H) {a : Nat} {o : Nat × List Value} (ha : M a = some (.inr o)) : a ≠ g.2.2.2.1 ∧ g.2.2.1 a := by
  have hz : a ≠ g.2.2.2.1 := fun e => by
    rw [e, h.2.2] at ha
    cases ha
  exact ⟨hz, (h.2.1 a _ ha).resolve_left hz⟩
theorem zP.arr {cl : List vw_C} {g : ZG} {M : ZM} {H : Heap} (h : zP cl g M H) {a t : Nat} {vs : List Value} (ha : M a = some (.inl (t, vs))) {j : Nat} (hj : j < vs.length) : a ≠ g.2.2.2.1 ∧ g.2.2.1 a := by
  have hz : a ≠ g.2.2.2.1 := fun e => by
    rw [e, h.2.2] at ha
    cases ha
    simp at hj
  exact ⟨hz, (h.2.1 a _ ha).resolve_left hz⟩
theorem zP.cell {cl : List vw_C} {g : ZG} {M : ZM} {H : Heap} (h : zP cl g M H) {a t : Nat} {vs : List Value} (ha : M a = some (.inl (t, vs))) {j : Nat} (hj : j < vs.length) : H[a]? = some (zarr (g.2.1 t) vs) := by
  obtain ⟨ce, h1, h2 | ⟨h2, -⟩⟩ := h.1 a _ ha
  · rw [h1, h2]
  · have h2' : vs = [] := h2
    rw [h2'] at hj
    exact absurd hj (Nat.not_lt_zero _)
theorem zP.cellW {cl : List vw_C} {g : ZG} {M : ZM} {H : Heap} (h : zP cl g M H) {a t : Nat} {vs : List Value} (ha : M a = some (.inl (t, vs))) : ∃ ce : Cell, H[a]? = some ce ∧ ce.cls = g.2.1 t ∧ ce.slots = vs.toArray ∧ (∀ k, ce.vm ≠ .statics k) ∧ ce.vm ≠ .unknown := by
  obtain ⟨ce, h1, h2 | ⟨h2, h3, h4, h5, h6⟩⟩ := h.1 a _ ha
  · exact ⟨ce, h1, by rw [h2]; rfl, by rw [h2]; rfl, fun k w => (by rw [h2] at w; cases w), fun w => (by rw [h2] at w; cases w)⟩
  · have h2' : vs = [] := h2
    exact ⟨ce, h1, h3, by rw [h4, h2'], h5, h6⟩
theorem zarr_set (cA : ClassId) (vs : List Value) (j : Nat) (v : Value) : (zarr cA vs).setSlot j v = zarr cA (vs.set j v) := by
  simp [zarr, Cell.setSlot]
theorem zarr_arrV (cA : ClassId) (vs : List Value) : zarr cA vs = arrV cA vs.length (fun j => vs.getD j .null) := by
  unfold zarr arrV
  congr 1
  apply Array.ext
  · simp
  · intro i h1 h2
    simp at h1
    simp [h1]
theorem zarr_of {U : State} {cA : ClassId} {ty : FieldType} (h : ArrOfT U cA ty) (vs : List Value) : U.isArrayOf (zarr cA vs) ty := by
  rw [zarr_arrV]
  exact h _ _
/-- the locals: known ones by their places -/
def zl (ls : Array Slot) (L : List (Option Value)) : Prop := lv_wf ls ∧ ls.size = L.length ∧ ∀ (i : Nat) (v : Value), L[i]? = some (some v) → ls[i]? = some (.val v)
def zclr (L : List (Option Value)) (i : Nat) : List (Option Value) := match i with
  | 0 => L
  | j + 1 => match L[j]? with
    | some (some (.long _)) => L.set j none
    | some (some (.double _)) => L.set j none
    | _ => L
def zput1 (L : List (Option Value)) (i : Nat) (v : Value) : List (Option Value) := (zclr L i).set i (some v)
def zput2 (L : List (Option Value)) (i : Nat) (v : Value) : List (Option Value) := ((zclr L i).set i (some v)).set (i + 1) none
theorem zclr_len (L : List (Option Value)) (i : Nat) : (zclr L i).length = L.length := by
  unfold zclr
  split
  · rfl
  · split <;> simp
theorem zclr_get {L : List (Option Value)} {i j : Nat} {v : Value} (h : (zclr L i)[j]? = some (some v)) : L[j]? = some (some v) ∧ (j + 1 = i → v.category = 1) := by
  unfold zclr at h
  split at h
  · exact ⟨h, fun e => by omega⟩
  · rename_i k
    split at h
    · rename_i x hx
      by_cases hjk : j = k
      · subst hjk
        have hlt : j < L.length := (List.getElem?_eq_some_iff.mp hx).1
        rw [List.getElem?_set_self hlt] at h
        cases h
      · rw [List.getElem?_set_ne (Ne.symm hjk)] at h
        exact ⟨h, fun e => by omega⟩
    · rename_i x hx
      by_cases hjk : j = k
      · subst hjk
        have hlt : j < L.length := (List.getElem?_eq_some_iff.mp hx).1
        rw [List.getElem?_set_self hlt] at h
        cases h
      · rw [List.getElem?_set_ne (Ne.symm hjk)] at h
        exact ⟨h, fun e => by omega⟩
    · rename_i h1 h2
      refine ⟨h, fun e => ?_⟩
      have e' : j = k := by omega
      subst e'
      cases v <;> first | rfl | exact absurd h (h1 _) | exact absurd h (h2 _)
theorem zl.has {ls : Array Slot} {L : List (Option Value)} (h : zl ls L) (l : List (Nat × Value)) (hl : ∀ q ∈ l, L[q.1]? = some (some q.2)) : lv_has ls L.length l := ⟨h.2.1, h.1, fun q hq => h.2.2 q.1 q.2 (hl q hq)⟩
def zpairs (L : List (Option Value)) : List (Nat × Value) := (List.range L.length).filterMap (fun i => (L[i]?.join).map (fun v => (i, v)))
theorem zpairs_mem {L : List (Option Value)} {i : Nat} {v : Value} : (i, v) ∈ zpairs L ↔ L[i]? = some (some v) := by
  unfold zpairs
  rw [List.mem_filterMap]
  constructor
  · rintro ⟨j, hj, h⟩
    cases hL : L[j]? with
    | none => rw [hL] at h; simp at h
    | some o =>
      rw [hL] at h
      cases o with
      | none => simp at h
      | some w =>
        simp at h
        obtain ⟨rfl, rfl⟩ := h
        exact hL
  · intro h
    refine ⟨i, List.mem_range.mpr (List.getElem?_eq_some_iff.mp h).1, ?_⟩
    rw [h]
    rfl
theorem zl.hasAll {ls : Array Slot} {L : List (Option Value)} (h : zl ls L) : lv_has ls L.length (zpairs L) := h.has _ (fun q hq => zpairs_mem.mp hq)
theorem zl.store1 {ls : Array Slot} {L : List (Option Value)} (h : zl ls L) {i : Nat} (hi : i < L.length) {v : Value} (hc : v.category = 1) : ∃ ls', storeLocals ls i v = some ls' ∧ zl ls' (zput1 L i v) := by
  obtain ⟨ls', e, h1, h2, h3⟩ := lv_store1 h.hasAll hi hc
  refine ⟨ls', e, h2, by rw [h1]; simp [zput1, zclr_len], fun j w hj => ?_⟩
  unfold zput1 at hj
  by_cases hji : j = i
  · subst hji
    rw [List.getElem?_set_self (by rw [zclr_len]; exact hi)] at hj
    cases hj
    exact h3 _ List.mem_cons_self
  · rw [List.getElem?_set_ne (Ne.symm hji)] at hj
    obtain ⟨g1, g2⟩ := zclr_get hj
    refine h3 (j, w) (List.mem_cons_of_mem _ (List.mem_filter.mpr ⟨zpairs_mem.mpr g1, ?_⟩))
    by_cases hx : j + 1 = i
    · have := g2 hx
      simp [hji, this]
    · simp [hji, hx]
theorem zl.store2 {ls : Array Slot} {L : List (Option Value)} (h : zl ls L) {i : Nat} (hi : i + 1 < L.length) {v : Value} (hc : v.category = 2) : ∃ ls', storeLocals ls i v = some ls' ∧ zl ls' (zput2 L i v) := by
  obtain ⟨ls', e, h1, h2, h3⟩ := lv_store2 h.hasAll hi hc
  refine ⟨ls', e, h2, by rw [h1]; simp [zput2, zclr_len], fun j w hj => ?_⟩
  unfold zput2 at hj
  by_cases hj2 : j = i + 1
  · subst hj2
    rw [List.getElem?_set_self (by simp [zclr_len]; exact hi)] at hj
    cases hj
  · rw [List.getElem?_set_ne (Ne.symm hj2)] at hj
    by_cases hji : j = i
    · subst hji
      rw [List.getElem?_set_self (by rw [zclr_len]; omega)] at hj
      cases hj
      exact h3 _ List.mem_cons_self
    · rw [List.getElem?_set_ne (Ne.symm hji)] at hj
      obtain ⟨g1, g2⟩ := zclr_get hj
      refine h3 (j, w) (List.mem_cons_of_mem _ (List.mem_filter.mpr ⟨zpairs_mem.mpr g1, ?_⟩))
      by_cases hx : j + 1 = i
      · have := g2 hx
        simp [hji, hj2, this]
      · simp [hji, hj2, hx]
def zargs : List Value → List (Option Value)
  | [] => []
  | .long x :: r => some (.long x) :: none :: zargs r
  | .double x :: r => some (.double x) :: none :: zargs r
  | v :: r => some v :: zargs r
def zinit (av : List Value) (n : Nat) : List (Option Value) := zargs av ++ List.replicate (n - (zargs av).length) none
theorem zargs_len : ∀ av : List Value, (zargs av).length = (lg_sl av).length
  | [] => rfl
  | v :: r => by
    have ih := zargs_len r
    cases v <;> simp [zargs, lg_sl, Value.category] at ih ⊢ <;> omega
theorem zargs_get : ∀ (av : List Value) (i j : Nat) (v : Value), (zargs av)[j]? = some (some v) → (i + j, v) ∈ lv_args i av
  | [], _, _, _, h => by simp [zargs] at h
  | w :: r, i, j, v, h => by
    have two : ∀ x : Value, x.category = 2 → (some x :: none :: zargs r)[j]? = some (some v) → (i + j, v) ∈ lv_args i (x :: r) := by
      intro x hx h
      simp only [lv_args, hx, if_true]
      match j, h with
      | 0, h => simp at h; subst h; exact List.mem_cons_self
      | 1, h => simp at h
      | k + 2, h =>
        have := zargs_get r (i + 2) k v (by simpa using h)
        rw [show i + (k + 2) = i + 2 + k by omega]
        exact List.mem_cons_of_mem _ this
    have one : ∀ x : Value, x.category = 1 → (some x :: zargs r)[j]? = some (some v) → (i + j, v) ∈ lv_args i (x :: r) := by
      intro x hx h
      simp only [lv_args, hx]
      match j, h with
      | 0, h => simp at h; subst h; exact List.mem_cons_self
      | k + 1, h =>
        have := zargs_get r (i + 1) k v (by simpa using h)
        rw [show i + (k + 1) = i + 1 + k by omega]
        exact List.mem_cons_of_mem _ (by simpa using this)
    cases w <;> first | exact two _ rfl h | exact one _ rfl h
theorem zl_entry (av : List Value) {n : Nat} (h : (lg_sl av).length ≤ n) : zl ((lg_sl av ++ List.replicate (n - (lg_sl av).length) Slot.unset).toArray) (zinit av n) ∧ (zinit av n).length = n := by
  obtain ⟨h1, h2, h3⟩ := lv_entry av h
  have hlen : (zinit av n).length = n := by
    unfold zinit
    rw [List.length_append, List.length_replicate, zargs_len]
    omega
  refine ⟨⟨h2, by rw [h1, hlen], fun i v hi => ?_⟩, hlen⟩
  unfold zinit at hi
  by_cases hlt : i < (zargs av).length
  · rw [List.getElem?_append_left hlt] at hi
    have := h3 _ (zargs_get av 0 i v hi)
    rwa [Nat.zero_add] at this
  · rw [List.getElem?_append_right (by omega)] at hi
    have := List.mem_of_getElem? hi
    rw [List.mem_replicate] at this
    exact absurd this.2 (by simp)
/-- the machine around a method's body -/
abbrev ZK : Type := Program × Launch × Env × State × MethodId × Array Value × List Frame × Method × Code
def zQ (cl : List vw_C) (g : ZG) (post : Option Value → ZM → Prop) : Array Value → State → Outcome → State → Prop := fun _ st oc t => (∃ (v : Option Value) (M' : ZM), oc = .returned v ∧ post v M' ∧ zP cl g M' t.heap) ∧ va_F g.2.2.1 st t
def zPre (cl : List vw_C) (tl : List FieldType) (g : ZG) (M : ZM) (U : State) : Prop := zP cl g M U.heap ∧ zK cl tl g U ∧ (∀ q : Nat, U.heap.size ≤ q → g.2.2.1 q) ∧ zE g U U.heap
/-- a contract: from the world M, with these arguments, the method returns, and 'post' holds of its answer and the world behind it -/
def ZC (cl : List vw_C) (tl : List FieldType) (Ts : List Cond) (l : Launch) (g : ZG) (y : MethodName) (cc : ByteArray) (nL : Nat) (ret : Option FieldType) (R : Room) (av : List Value) (M : ZM) (post : Option Value → ZM → Prop) : Prop :=
  Met l y (Cond.code y cc nL ret :: Ts) R (va_Pc av (zPre cl tl g M)) (zQ cl g post) R.cells R.slots g.2.2.1
def ZX (cl : List vw_C) (tl : List FieldType) (Ts : List Cond) (own : String) (cc : ByteArray) (nL : Nat) (ret : Option FieldType) (nm : String) (g : ZG) (k : ZK) : Prop :=
  k.1.tables.exec = Jvm.exec ∧ k.2.2.2.2.2.2.2.2.code = cc ∧ k.2.2.2.2.2.2.2.2.maxLocals = nL ∧ k.2.2.2.1.vm.findClass own = some k.2.2.2.2.1.cls ∧ (∀ w ∈ Ts, w.before k.2.2.2.2.2.1 k.2.2.2.1 = true) ∧
  k.2.2.2.2.2.2.2.1.locks = false ∧ k.2.2.2.2.2.2.2.1.sig.returnType = ret ∧ k.2.2.2.2.2.2.2.1.name = nm ∧ zK cl tl g k.2.2.2.1 ∧ (∀ q : Nat, k.2.2.2.1.heap.size ≤ q → g.2.2.1 q) ∧ zE g k.2.2.2.1 k.2.2.2.1.heap
/-- from here, with these locals, this operand stack and this world, the method comes to its end, and 'post' holds -/
def ZU (cl : List vw_C) (tl : List FieldType) (Ts : List Cond) (own : String) (cc : ByteArray) (nL : Nat) (ret : Option FieldType) (nm : String) (R : Room) (g : ZG) (k : ZK) (Qz : State → Prop) (L : List (Option Value)) (pc : Nat) (st : List Value) (M : ZM) (n1 n2 : Nat) : Prop :=
  ZX cl tl Ts own cc nL ret nm g k → ∀ (ls : Array Slot) (H : Heap) (locs : List Loc), zl ls L → L.length = nL → zP cl g M H → va_S g.2.2.1 k.2.2.2.1.heap H locs →
    W k.1 k.2.1 k.2.2.1 R k.2.2.2.1 k.2.2.2.2.1 k.2.2.2.2.2.1 k.2.2.2.2.2.2.1 k.2.2.2.2.2.2.2.1 k.2.2.2.2.2.2.2.2 H locs n1 n2 Qz (F0 k.2.2.2.2.1 pc ls st)
abbrev ZW (cl : List vw_C) (tl : List FieldType) (Ts : List Cond) (own : String) (cc : ByteArray) (nL : Nat) (ret : Option FieldType) (nm : String) (R : Room) (g : ZG) (k : ZK) (post : Option Value → ZM → Prop) (L : List (Option Value)) (pc : Nat) (st : List Value) (M : ZM) (n1 n2 : Nat) : Prop :=
  ZU cl tl Ts own cc nL ret nm R g k (MQ k.2.2.2.2.2.2.1 (zQ cl g post) k.2.2.2.2.2.1 k.2.2.2.1 R.cells R.slots g.2.2.1) L pc st M n1 n2
theorem ZC.of {cl : List vw_C} {tl : List FieldType} {Ts : List Cond} {l : Launch} {g : ZG} {y : MethodName} {cc : ByteArray} {nL : Nat} {ret : Option FieldType} {R : Room} {av : List Value} {M : ZM} {post : Option Value → ZM → Prop} {L : List (Option Value)}
    (hy : plainName y.cls = true) (hlen : (lg_sl av).length ≤ nL) (hL : zinit av nL = L) (h : ∀ k : ZK, M g.2.2.2.1 = some (.inl (0, [])) → ZW cl tl Ts y.cls cc nL ret y.name R g k post L 0 [] M 0 0) : ZC cl tl Ts l g y cc nL ret R av M post := by
  refine Met.ofW (cc := cc) (maxL := nL) (ret := ret) hy rfl ?_
  intro p e s m args below meth c s₁ B hml hv
  obtain ⟨rfl, hP, hK, hA, hE⟩ := hv
  have hts := atoms_spec (ws := Cond.code y cc nL ret :: Ts) B.pre
  obtain ⟨hl, hn⟩ := zl_entry av hlen
  rw [lg_entry_eq]
  subst hL
  exact h (p, l, e, s, m, av.toArray, below, meth, c) hP.2.2 ⟨B.exec, B.bytes, hml, findClass_of_methodNamed B.named, fun w hw => hts w (List.mem_cons_of_mem _ hw), B.notSynchronized, B.returns, (name_of_methodNamed B.named B.method).1, hK, hA, hE⟩ _ _ _ hl hn hP va_S.rf

section ZR
variable {cl : List vw_C} {tl : List FieldType} {Ts : List Cond} {own : String} {cc : ByteArray} {nL : Nat} {ret : Option FieldType} {nm : String} {R : Room} {g : ZG} {k : ZK} {post : Option Value → ZM → Prop} {Qz : State → Prop} {L L' : List (Option Value)} {pc : Nat} {st : List Value} {M : ZM} {n1 n2 : Nat}
theorem z_iconst {n : Int} {v : Int32} (hd : decode cc pc = .ok (.iconst n, 1)) (hv : Int32.ofInt n = v) (h : ZU cl tl Ts own cc nL ret nm R g k Qz L (pc + 1) (.int v :: st) M n1 n2) : ZU cl tl Ts own cc nL ret nm R g k Qz L pc (st) M n1 n2 :=
  fun X ls H locs hl hL hP hS => lv_iconst X.1 X.2.1 hd hv (h X ls H locs hl hL hP hS)
theorem z_bipush {n : Int} {v : Int32} (hd : decode cc pc = .ok (.bipush n, 2)) (hv : (Int8.ofInt n).toInt32 = v) (h : ZU cl tl Ts own cc nL ret nm R g k Qz L (pc + 2) (.int v :: st) M n1 n2) : ZU cl tl Ts own cc nL ret nm R g k Qz L pc (st) M n1 n2 :=
  fun X ls H locs hl hL hP hS => lv_bipush X.1 X.2.1 hd hv (h X ls H locs hl hL hP hS)
theorem z_sipush {n : Int} {v : Int32} (hd : decode cc pc = .ok (.sipush n, 3)) (hv : (Int16.ofInt n).toInt32 = v) (h : ZU cl tl Ts own cc nL ret nm R g k Qz L (pc + 3) (.int v :: st) M n1 n2) : ZU cl tl Ts own cc nL ret nm R g k Qz L pc (st) M n1 n2 :=
  fun X ls H locs hl hL hP hS => lv_sipush X.1 X.2.1 hd hv (h X ls H locs hl hL hP hS)
theorem z_lconst {n : Fin 2} {v : Int64} (hd : decode cc pc = .ok (.lconst n, 1)) (hv : Int64.ofNat (n : Nat) = v) (h : ZU cl tl Ts own cc nL ret nm R g k Qz L (pc + 1) (.long v :: st) M n1 n2) : ZU cl tl Ts own cc nL ret nm R g k Qz L pc (st) M n1 n2 :=
  fun X ls H locs hl hL hP hS => lv_lconst X.1 X.2.1 hd hv (h X ls H locs hl hL hP hS)
theorem z_iload_n {i : Fin 4} {x : Int32} (hd : decode cc pc = .ok (.iload_n i, 1)) (hx : L[(i : Nat)]? = some (some (.int x))) (h : ZU cl tl Ts own cc nL ret nm R g k Qz L (pc + 1) (.int x :: st) M n1 n2) : ZU cl tl Ts own cc nL ret nm R g k Qz L pc (st) M n1 n2 :=
  fun X ls H locs hl hL hP hS => lv_iload_n X.1 X.2.1 hd rfl (hl.2.2 _ _ hx) (h X ls H locs hl hL hP hS)
theorem z_iload {i : Nat} {x : Int32} (hd : decode cc pc = .ok (.iload i, 2)) (hx : L[i]? = some (some (.int x))) (h : ZU cl tl Ts own cc nL ret nm R g k Qz L (pc + 2) (.int x :: st) M n1 n2) : ZU cl tl Ts own cc nL ret nm R g k Qz L pc (st) M n1 n2 :=
  fun X ls H locs hl hL hP hS => lv_iload X.1 X.2.1 hd (hl.2.2 _ _ hx) (h X ls H locs hl hL hP hS)
theorem z_lload_n {i : Fin 4} {x : Int64} (hd : decode cc pc = .ok (.lload_n i, 1)) (hx : L[(i : Nat)]? = some (some (.long x))) (h : ZU cl tl Ts own cc nL ret nm R g k Qz L (pc + 1) (.long x :: st) M n1 n2) : ZU cl tl Ts own cc nL ret nm R g k Qz L pc (st) M n1 n2 :=
  fun X ls H locs hl hL hP hS => lv_lload_n X.1 X.2.1 hd rfl (hl.2.2 _ _ hx) (h X ls H locs hl hL hP hS)
theorem z_lload {i : Nat} {x : Int64} (hd : decode cc pc = .ok (.lload i, 2)) (hx : L[i]? = some (some (.long x))) (h : ZU cl tl Ts own cc nL ret nm R g k Qz L (pc + 2) (.long x :: st) M n1 n2) : ZU cl tl Ts own cc nL ret nm R g k Qz L pc (st) M n1 n2 :=
  fun X ls H locs hl hL hP hS => lv_lload X.1 X.2.1 hd (hl.2.2 _ _ hx) (h X ls H locs hl hL hP hS)
theorem z_aload_n {i : Fin 4} {x : Nat} (hd : decode cc pc = .ok (.aload_n i, 1)) (hx : L[(i : Nat)]? = some (some (.ref x))) (h : ZU cl tl Ts own cc nL ret nm R g k Qz L (pc + 1) (.ref x :: st) M n1 n2) : ZU cl tl Ts own cc nL ret nm R g k Qz L pc (st) M n1 n2 :=
  fun X ls H locs hl hL hP hS => lv_aload_n X.1 X.2.1 hd rfl (hl.2.2 _ _ hx) (h X ls H locs hl hL hP hS)
theorem z_aload {i : Nat} {x : Nat} (hd : decode cc pc = .ok (.aload i, 2)) (hx : L[i]? = some (some (.ref x))) (h : ZU cl tl Ts own cc nL ret nm R g k Qz L (pc + 2) (.ref x :: st) M n1 n2) : ZU cl tl Ts own cc nL ret nm R g k Qz L pc (st) M n1 n2 :=
  fun X ls H locs hl hL hP hS => lv_aload X.1 X.2.1 hd (hl.2.2 _ _ hx) (h X ls H locs hl hL hP hS)
theorem z_aload_nN {i : Fin 4} (hd : decode cc pc = .ok (.aload_n i, 1)) (hx : L[(i : Nat)]? = some (some .null)) (h : ZU cl tl Ts own cc nL ret nm R g k Qz L (pc + 1) (.null :: st) M n1 n2) : ZU cl tl Ts own cc nL ret nm R g k Qz L pc (st) M n1 n2 :=
  fun X ls H locs hl hL hP hS => lv_aload_nN X.1 X.2.1 hd rfl (hl.2.2 _ _ hx) (h X ls H locs hl hL hP hS)
theorem z_aloadN {i : Nat} (hd : decode cc pc = .ok (.aload i, 2)) (hx : L[i]? = some (some .null)) (h : ZU cl tl Ts own cc nL ret nm R g k Qz L (pc + 2) (.null :: st) M n1 n2) : ZU cl tl Ts own cc nL ret nm R g k Qz L pc (st) M n1 n2 :=
  fun X ls H locs hl hL hP hS => lv_aloadN X.1 X.2.1 hd (hl.2.2 _ _ hx) (h X ls H locs hl hL hP hS)
theorem z_storeW {v : Value} {i len : Nat} {m : MethodId} {c : Code} {p : Program} {l : Launch} {e : Env} {s : State} {args : Array Value} {below : List Frame} {meth : Method} {H : Heap} {locs : List Loc} {Q : State → Prop} {ls ls' : Array Slot} (e' : storeLocals ls i v = some ls') (hst : ∀ T : State, Stand p l e R s m args below meth c T locs n1 n2 → ∀ t, Steps p.tables e below (T.setTop (F0 m (pc + len) ls' st)) t → Steps p.tables e below (T.setTop (F0 m pc ls (v :: st))) t) (h : W p l e R s m args below meth c H locs n1 n2 Q (F0 m (pc + len) ls' st)) : W p l e R s m args below meth c H locs n1 n2 Q (F0 m pc ls (v :: st)) := by
  intro T hT X
  obtain ⟨t, a, b⟩ := h T hT X
  exact ⟨t, hst T X t a, b⟩
theorem z_istore_n {j : Fin 4} {i : Nat} {x : Int32} (hd : decode cc pc = .ok (.istore_n j, 1)) (hj : (j : Nat) = i) (hi : i < nL) (hL' : zput1 L i (.int x) = L') (h : ZU cl tl Ts own cc nL ret nm R g k Qz L' (pc + 1) st M n1 n2) : ZU cl tl Ts own cc nL ret nm R g k Qz L pc (.int x :: st) M n1 n2 := by
  intro X ls H locs hl hL hP hS
  subst hj
  obtain ⟨ls', e', h'⟩ := zl.store1 (v := .int x) hl (by rw [hL]; exact hi) rfl
  refine z_storeW e' (fun T Y t a => ?_) (h X ls' H locs (hL' ▸ h') (by rw [← hL']; simp [zput1, zclr_len, hL]) hP hS)
  have hx := X.1
  have hb := X.2.1
  jvm_step Y.here [Y.here.top, ↓top_set Y.here.top, hx, hb, hd, e']
  exact a
theorem z_istore {i : Nat} {x : Int32} (hd : decode cc pc = .ok (.istore i, 2)) (hi : i < nL) (hL' : zput1 L i (.int x) = L') (h : ZU cl tl Ts own cc nL ret nm R g k Qz L' (pc + 2) st M n1 n2) : ZU cl tl Ts own cc nL ret nm R g k Qz L pc (.int x :: st) M n1 n2 := by
  intro X ls H locs hl hL hP hS
  obtain ⟨ls', e', h'⟩ := zl.store1 (v := .int x) hl (by rw [hL]; exact hi) rfl
  refine z_storeW e' (fun T Y t a => ?_) (h X ls' H locs (hL' ▸ h') (by rw [← hL']; simp [zput1, zclr_len, hL]) hP hS)
  have hx := X.1
  have hb := X.2.1
  jvm_step Y.here [Y.here.top, ↓top_set Y.here.top, hx, hb, hd, e']
  exact a
theorem z_lstore_n {j : Fin 4} {i : Nat} {x : Int64} (hd : decode cc pc = .ok (.lstore_n j, 1)) (hj : (j : Nat) = i) (hi : i + 1 < nL) (hL' : zput2 L i (.long x) = L') (h : ZU cl tl Ts own cc nL ret nm R g k Qz L' (pc + 1) st M n1 n2) : ZU cl tl Ts own cc nL ret nm R g k Qz L pc (.long x :: st) M n1 n2 := by
  intro X ls H locs hl hL hP hS
  subst hj
  obtain ⟨ls', e', h'⟩ := zl.store2 (v := .long x) hl (by rw [hL]; exact hi) rfl
  refine z_storeW e' (fun T Y t a => ?_) (h X ls' H locs (hL' ▸ h') (by rw [← hL']; simp [zput2, zclr_len, hL]) hP hS)
  have hx := X.1
  have hb := X.2.1
  jvm_step Y.here [Y.here.top, ↓top_set Y.here.top, hx, hb, hd, e']
  exact a
theorem z_lstore {i : Nat} {x : Int64} (hd : decode cc pc = .ok (.lstore i, 2)) (hi : i + 1 < nL) (hL' : zput2 L i (.long x) = L') (h : ZU cl tl Ts own cc nL ret nm R g k Qz L' (pc + 2) st M n1 n2) : ZU cl tl Ts own cc nL ret nm R g k Qz L pc (.long x :: st) M n1 n2 := by
  intro X ls H locs hl hL hP hS
  obtain ⟨ls', e', h'⟩ := zl.store2 (v := .long x) hl (by rw [hL]; exact hi) rfl
  refine z_storeW e' (fun T Y t a => ?_) (h X ls' H locs (hL' ▸ h') (by rw [← hL']; simp [zput2, zclr_len, hL]) hP hS)
  have hx := X.1
  have hb := X.2.1
  jvm_step Y.here [Y.here.top, ↓top_set Y.here.top, hx, hb, hd, e']
  exact a
theorem z_astore_n {j : Fin 4} {i : Nat} {x : Nat} (hd : decode cc pc = .ok (.astore_n j, 1)) (hj : (j : Nat) = i) (hi : i < nL) (hL' : zput1 L i (.ref x) = L') (h : ZU cl tl Ts own cc nL ret nm R g k Qz L' (pc + 1) st M n1 n2) : ZU cl tl Ts own cc nL ret nm R g k Qz L pc (.ref x :: st) M n1 n2 := by
  intro X ls H locs hl hL hP hS
  subst hj
  obtain ⟨ls', e', h'⟩ := zl.store1 (v := .ref x) hl (by rw [hL]; exact hi) rfl
  refine z_storeW e' (fun T Y t a => ?_) (h X ls' H locs (hL' ▸ h') (by rw [← hL']; simp [zput1, zclr_len, hL]) hP hS)
  have hx := X.1
  have hb := X.2.1
  jvm_step Y.here [Y.here.top, ↓top_set Y.here.top, hx, hb, hd, e', Value.isRef]
  exact a
theorem z_astore {i : Nat} {x : Nat} (hd : decode cc pc = .ok (.astore i, 2)) (hi : i < nL) (hL' : zput1 L i (.ref x) = L') (h : ZU cl tl Ts own cc nL ret nm R g k Qz L' (pc + 2) st M n1 n2) : ZU cl tl Ts own cc nL ret nm R g k Qz L pc (.ref x :: st) M n1 n2 := by
  intro X ls H locs hl hL hP hS
  obtain ⟨ls', e', h'⟩ := zl.store1 (v := .ref x) hl (by rw [hL]; exact hi) rfl
  refine z_storeW e' (fun T Y t a => ?_) (h X ls' H locs (hL' ▸ h') (by rw [← hL']; simp [zput1, zclr_len, hL]) hP hS)
  have hx := X.1
  have hb := X.2.1
  jvm_step Y.here [Y.here.top, ↓top_set Y.here.top, hx, hb, hd, e', Value.isRef]
  exact a
theorem z_astore_nN {j : Fin 4} {i : Nat} (hd : decode cc pc = .ok (.astore_n j, 1)) (hj : (j : Nat) = i) (hi : i < nL) (hL' : zput1 L i (.null) = L') (h : ZU cl tl Ts own cc nL ret nm R g k Qz L' (pc + 1) st M n1 n2) : ZU cl tl Ts own cc nL ret nm R g k Qz L pc (.null :: st) M n1 n2 := by
  intro X ls H locs hl hL hP hS
  subst hj
  obtain ⟨ls', e', h'⟩ := zl.store1 (v := .null) hl (by rw [hL]; exact hi) rfl
  refine z_storeW e' (fun T Y t a => ?_) (h X ls' H locs (hL' ▸ h') (by rw [← hL']; simp [zput1, zclr_len, hL]) hP hS)
  have hx := X.1
  have hb := X.2.1
  jvm_step Y.here [Y.here.top, ↓top_set Y.here.top, hx, hb, hd, e', Value.isRef]
  exact a
theorem z_astoreN {i : Nat} (hd : decode cc pc = .ok (.astore i, 2)) (hi : i < nL) (hL' : zput1 L i (.null) = L') (h : ZU cl tl Ts own cc nL ret nm R g k Qz L' (pc + 2) st M n1 n2) : ZU cl tl Ts own cc nL ret nm R g k Qz L pc (.null :: st) M n1 n2 := by
  intro X ls H locs hl hL hP hS
  obtain ⟨ls', e', h'⟩ := zl.store1 (v := .null) hl (by rw [hL]; exact hi) rfl
  refine z_storeW e' (fun T Y t a => ?_) (h X ls' H locs (hL' ▸ h') (by rw [← hL']; simp [zput1, zclr_len, hL]) hP hS)
  have hx := X.1
  have hb := X.2.1
  jvm_step Y.here [Y.here.top, ↓top_set Y.here.top, hx, hb, hd, e', Value.isRef]
  exact a
theorem z_iinc {i : Nat} {n : Int} {x v : Int32} (hd : decode cc pc = .ok (.iinc i n, 3)) (hx : L[i]? = some (some (.int x))) (hv : x + Int32.ofInt n = v) (hi : i < nL) (hL' : zput1 L i (.int v) = L') (h : ZU cl tl Ts own cc nL ret nm R g k Qz L' (pc + 3) st M n1 n2) : ZU cl tl Ts own cc nL ret nm R g k Qz L pc st M n1 n2 := by
  intro X ls H locs hl hL hP hS
  obtain ⟨ls', e', h'⟩ := zl.store1 (v := .int v) hl (by rw [hL]; exact hi) rfl
  have hg := hl.2.2 _ _ hx
  have K := h X ls' H locs (hL' ▸ h') (by rw [← hL']; simp [zput1, zclr_len, hL]) hP hS
  subst hv
  have hx := X.1
  have hb := X.2.1
  intro T hT Y
  obtain ⟨t, a, b⟩ := K T hT Y
  refine ⟨t, ?_, b⟩
  jvm_step Y.here [Y.here.top, ↓top_set Y.here.top, hx, hb, hd, hg, e']
  exact a
theorem z_iadd {x y : Int32} (hd : decode cc pc = .ok (.iadd, 1)) (h : ZU cl tl Ts own cc nL ret nm R g k Qz L (pc + 1) (.int (x + y) :: st) M n1 n2) : ZU cl tl Ts own cc nL ret nm R g k Qz L pc (.int y :: .int x :: st) M n1 n2 :=
  fun X ls H locs hl hL hP hS => lv_iadd X.1 X.2.1 hd (h X ls H locs hl hL hP hS)
theorem z_isub {x y : Int32} (hd : decode cc pc = .ok (.isub, 1)) (h : ZU cl tl Ts own cc nL ret nm R g k Qz L (pc + 1) (.int (x - y) :: st) M n1 n2) : ZU cl tl Ts own cc nL ret nm R g k Qz L pc (.int y :: .int x :: st) M n1 n2 :=
  fun X ls H locs hl hL hP hS => lv_isub X.1 X.2.1 hd (h X ls H locs hl hL hP hS)
theorem z_imul {x y : Int32} (hd : decode cc pc = .ok (.imul, 1)) (h : ZU cl tl Ts own cc nL ret nm R g k Qz L (pc + 1) (.int (x * y) :: st) M n1 n2) : ZU cl tl Ts own cc nL ret nm R g k Qz L pc (.int y :: .int x :: st) M n1 n2 :=
  fun X ls H locs hl hL hP hS => lv_imul X.1 X.2.1 hd (h X ls H locs hl hL hP hS)
theorem z_iand {x y : Int32} (hd : decode cc pc = .ok (.iand, 1)) (h : ZU cl tl Ts own cc nL ret nm R g k Qz L (pc + 1) (.int (x &&& y) :: st) M n1 n2) : ZU cl tl Ts own cc nL ret nm R g k Qz L pc (.int y :: .int x :: st) M n1 n2 :=
  fun X ls H locs hl hL hP hS => lv_iand X.1 X.2.1 hd (h X ls H locs hl hL hP hS)
theorem z_ior {x y : Int32} (hd : decode cc pc = .ok (.ior, 1)) (h : ZU cl tl Ts own cc nL ret nm R g k Qz L (pc + 1) (.int (x ||| y) :: st) M n1 n2) : ZU cl tl Ts own cc nL ret nm R g k Qz L pc (.int y :: .int x :: st) M n1 n2 :=
  fun X ls H locs hl hL hP hS => lv_ior X.1 X.2.1 hd (h X ls H locs hl hL hP hS)
theorem z_ixor {x y : Int32} (hd : decode cc pc = .ok (.ixor, 1)) (h : ZU cl tl Ts own cc nL ret nm R g k Qz L (pc + 1) (.int (x ^^^ y) :: st) M n1 n2) : ZU cl tl Ts own cc nL ret nm R g k Qz L pc (.int y :: .int x :: st) M n1 n2 :=
  fun X ls H locs hl hL hP hS => lv_ixor X.1 X.2.1 hd (h X ls H locs hl hL hP hS)
theorem z_ishl {x y : Int32} (hd : decode cc pc = .ok (.ishl, 1)) (h : ZU cl tl Ts own cc nL ret nm R g k Qz L (pc + 1) (.int (x <<< (y &&& 31)) :: st) M n1 n2) : ZU cl tl Ts own cc nL ret nm R g k Qz L pc (.int y :: .int x :: st) M n1 n2 :=
  fun X ls H locs hl hL hP hS => lv_ishl X.1 X.2.1 hd (h X ls H locs hl hL hP hS)
theorem z_ishr {x y : Int32} (hd : decode cc pc = .ok (.ishr, 1)) (h : ZU cl tl Ts own cc nL ret nm R g k Qz L (pc + 1) (.int (x >>> (y &&& 31)) :: st) M n1 n2) : ZU cl tl Ts own cc nL ret nm R g k Qz L pc (.int y :: .int x :: st) M n1 n2 :=
  fun X ls H locs hl hL hP hS => lv_ishr X.1 X.2.1 hd (h X ls H locs hl hL hP hS)
theorem z_ladd {x y : Int64} (hd : decode cc pc = .ok (.ladd, 1)) (h : ZU cl tl Ts own cc nL ret nm R g k Qz L (pc + 1) (.long (x + y) :: st) M n1 n2) : ZU cl tl Ts own cc nL ret nm R g k Qz L pc (.long y :: .long x :: st) M n1 n2 :=
  fun X ls H locs hl hL hP hS => lv_ladd X.1 X.2.1 hd (h X ls H locs hl hL hP hS)
theorem z_lsub {x y : Int64} (hd : decode cc pc = .ok (.lsub, 1)) (h : ZU cl tl Ts own cc nL ret nm R g k Qz L (pc + 1) (.long (x - y) :: st) M n1 n2) : ZU cl tl Ts own cc nL ret nm R g k Qz L pc (.long y :: .long x :: st) M n1 n2 :=
  fun X ls H locs hl hL hP hS => lv_lsub X.1 X.2.1 hd (h X ls H locs hl hL hP hS)
theorem z_lmul {x y : Int64} (hd : decode cc pc = .ok (.lmul, 1)) (h : ZU cl tl Ts own cc nL ret nm R g k Qz L (pc + 1) (.long (x * y) :: st) M n1 n2) : ZU cl tl Ts own cc nL ret nm R g k Qz L pc (.long y :: .long x :: st) M n1 n2 :=
  fun X ls H locs hl hL hP hS => lv_lmul X.1 X.2.1 hd (h X ls H locs hl hL hP hS)
theorem z_land {x y : Int64} (hd : decode cc pc = .ok (.land, 1)) (h : ZU cl tl Ts own cc nL ret nm R g k Qz L (pc + 1) (.long (x &&& y) :: st) M n1 n2) : ZU cl tl Ts own cc nL ret nm R g k Qz L pc (.long y :: .long x :: st) M n1 n2 :=
  fun X ls H locs hl hL hP hS => lv_land X.1 X.2.1 hd (h X ls H locs hl hL hP hS)
theorem z_lor {x y : Int64} (hd : decode cc pc = .ok (.lor, 1)) (h : ZU cl tl Ts own cc nL ret nm R g k Qz L (pc + 1) (.long (x ||| y) :: st) M n1 n2) : ZU cl tl Ts own cc nL ret nm R g k Qz L pc (.long y :: .long x :: st) M n1 n2 :=
  fun X ls H locs hl hL hP hS => lv_lor X.1 X.2.1 hd (h X ls H locs hl hL hP hS)
theorem z_lxor {x y : Int64} (hd : decode cc pc = .ok (.lxor, 1)) (h : ZU cl tl Ts own cc nL ret nm R g k Qz L (pc + 1) (.long (x ^^^ y) :: st) M n1 n2) : ZU cl tl Ts own cc nL ret nm R g k Qz L pc (.long y :: .long x :: st) M n1 n2 :=
  fun X ls H locs hl hL hP hS => lv_lxor X.1 X.2.1 hd (h X ls H locs hl hL hP hS)
theorem z_ineg {x : Int32} (hd : decode cc pc = .ok (.ineg, 1)) (h : ZU cl tl Ts own cc nL ret nm R g k Qz L (pc + 1) (.int (-x) :: st) M n1 n2) : ZU cl tl Ts own cc nL ret nm R g k Qz L pc (.int x :: st) M n1 n2 :=
  fun X ls H locs hl hL hP hS => lv_ineg X.1 X.2.1 hd (h X ls H locs hl hL hP hS)
theorem z_i2l {x : Int32} {v : Int64} (hd : decode cc pc = .ok (.i2l, 1)) (hv : x.toInt64 = v) (h : ZU cl tl Ts own cc nL ret nm R g k Qz L (pc + 1) (.long v :: st) M n1 n2) : ZU cl tl Ts own cc nL ret nm R g k Qz L pc (.int x :: st) M n1 n2 :=
  fun X ls H locs hl hL hP hS => lv_i2l X.1 X.2.1 hd hv (h X ls H locs hl hL hP hS)
theorem z_l2i {x : Int64} {v : Int32} (hd : decode cc pc = .ok (.l2i, 1)) (hv : x.toInt32 = v) (h : ZU cl tl Ts own cc nL ret nm R g k Qz L (pc + 1) (.int v :: st) M n1 n2) : ZU cl tl Ts own cc nL ret nm R g k Qz L pc (.long x :: st) M n1 n2 :=
  fun X ls H locs hl hL hP hS => lv_l2i X.1 X.2.1 hd hv (h X ls H locs hl hL hP hS)
theorem z_lshl {x v : Int64} {y : Int32} (hd : decode cc pc = .ok (.lshl, 1)) (hv : x <<< (y.toInt64 &&& 63) = v) (h : ZU cl tl Ts own cc nL ret nm R g k Qz L (pc + 1) (.long v :: st) M n1 n2) : ZU cl tl Ts own cc nL ret nm R g k Qz L pc (.int y :: .long x :: st) M n1 n2 :=
  fun X ls H locs hl hL hP hS => lv_lshl X.1 X.2.1 hd hv (h X ls H locs hl hL hP hS)
theorem z_lcmp {x y : Int64} (hd : decode cc pc = .ok (.lcmp, 1)) (h : ZU cl tl Ts own cc nL ret nm R g k Qz L (pc + 1) (.int (lg_cmp x y) :: st) M n1 n2) : ZU cl tl Ts own cc nL ret nm R g k Qz L pc (.long y :: .long x :: st) M n1 n2 :=
  fun X ls H locs hl hL hP hS => W.lcmp X.1 X.2.1 hd (h X ls H locs hl hL hP hS)
theorem z_dup {a : Value} (hd : decode cc pc = .ok (.dup, 1)) (ha : a.category = 1) (h : ZU cl tl Ts own cc nL ret nm R g k Qz L (pc + 1) (a :: a :: st) M n1 n2) : ZU cl tl Ts own cc nL ret nm R g k Qz L pc (a :: st) M n1 n2 :=
  fun X ls H locs hl hL hP hS => lv_dup X.1 X.2.1 hd ha (h X ls H locs hl hL hP hS)
theorem z_pop {a : Value} (hd : decode cc pc = .ok (.pop, 1)) (ha : a.category = 1) (h : ZU cl tl Ts own cc nL ret nm R g k Qz L (pc + 1) (st) M n1 n2) : ZU cl tl Ts own cc nL ret nm R g k Qz L pc (a :: st) M n1 n2 :=
  fun X ls H locs hl hL hP hS => lv_pop X.1 X.2.1 hd ha (h X ls H locs hl hL hP hS)
theorem z_dup_x1 {a b : Value} (hd : decode cc pc = .ok (.dup_x1, 1)) (ha : a.category = 1) (hb : b.category = 1) (h : ZU cl tl Ts own cc nL ret nm R g k Qz L (pc + 1) (a :: b :: a :: st) M n1 n2) : ZU cl tl Ts own cc nL ret nm R g k Qz L pc (a :: b :: st) M n1 n2 :=
  fun X ls H locs hl hL hP hS => lv_dup_x1 X.1 X.2.1 hd ha hb (h X ls H locs hl hL hP hS)
theorem z_dup_x2 {a b d : Value} (hd : decode cc pc = .ok (.dup_x2, 1)) (ha : a.category = 1) (hb : b.category = 1) (hc : d.category = 1) (h : ZU cl tl Ts own cc nL ret nm R g k Qz L (pc + 1) (a :: b :: d :: a :: st) M n1 n2) : ZU cl tl Ts own cc nL ret nm R g k Qz L pc (a :: b :: d :: st) M n1 n2 :=
  fun X ls H locs hl hL hP hS => lv_dup_x2 X.1 X.2.1 hd ha hb hc (h X ls H locs hl hL hP hS)
theorem z_dup2_11 {a b : Value} (hd : decode cc pc = .ok (.dup2, 1)) (ha : a.category = 1) (hb : b.category = 1) (h : ZU cl tl Ts own cc nL ret nm R g k Qz L (pc + 1) (a :: b :: a :: b :: st) M n1 n2) : ZU cl tl Ts own cc nL ret nm R g k Qz L pc (a :: b :: st) M n1 n2 :=
  fun X ls H locs hl hL hP hS => lv_dup2_11 X.1 X.2.1 hd ha hb (h X ls H locs hl hL hP hS)
theorem z_dup2_2 {a : Value} (hd : decode cc pc = .ok (.dup2, 1)) (ha : a.category = 2) (h : ZU cl tl Ts own cc nL ret nm R g k Qz L (pc + 1) (a :: a :: st) M n1 n2) : ZU cl tl Ts own cc nL ret nm R g k Qz L pc (a :: st) M n1 n2 :=
  fun X ls H locs hl hL hP hS => lv_dup2_2 X.1 X.2.1 hd ha (h X ls H locs hl hL hP hS)
theorem z_pop2_2 {a : Value} (hd : decode cc pc = .ok (.pop2, 1)) (ha : a.category = 2) (h : ZU cl tl Ts own cc nL ret nm R g k Qz L (pc + 1) (st) M n1 n2) : ZU cl tl Ts own cc nL ret nm R g k Qz L pc (a :: st) M n1 n2 :=
  fun X ls H locs hl hL hP hS => lv_pop2_2 X.1 X.2.1 hd ha (h X ls H locs hl hL hP hS)
theorem z_dup2_x1_2 {a b : Value} (hd : decode cc pc = .ok (.dup2_x1, 1)) (ha : a.category = 2) (hb : b.category = 1) (h : ZU cl tl Ts own cc nL ret nm R g k Qz L (pc + 1) (a :: b :: a :: st) M n1 n2) : ZU cl tl Ts own cc nL ret nm R g k Qz L pc (a :: b :: st) M n1 n2 :=
  fun X ls H locs hl hL hP hS => lv_dup2_x1_2 X.1 X.2.1 hd ha hb (h X ls H locs hl hL hP hS)
theorem z_null (hd : decode cc pc = .ok (.aconst_null, 1)) (h : ZU cl tl Ts own cc nL ret nm R g k Qz L (pc + 1) (.null :: st) M n1 n2) : ZU cl tl Ts own cc nL ret nm R g k Qz L pc (st) M n1 n2 :=
  fun X ls H locs hl hL hP hS => lv_null X.1 X.2.1 hd (h X ls H locs hl hL hP hS)
theorem z_if_eq {x : Int32} {off : Int} {tgt : Nat} (hd : decode cc pc = .ok (.ifCond .eq off, 3)) (ht : (pc : Int) + off = (tgt : Int)) (h1 : x = 0 → ZU cl tl Ts own cc nL ret nm R g k Qz L tgt st M n1 n2) (h2 : ¬ x = 0 → ZU cl tl Ts own cc nL ret nm R g k Qz L (pc + 3) st M n1 n2) : ZU cl tl Ts own cc nL ret nm R g k Qz L pc (.int x :: st) M n1 n2 :=
  fun X ls H locs hl hL hP hS => lv_if_eq X.1 X.2.1 hd ht (fun q => h1 q X ls H locs hl hL hP hS) (fun q => h2 q X ls H locs hl hL hP hS)
theorem z_icmp_eq {x y : Int32} {off : Int} {tgt : Nat} (hd : decode cc pc = .ok (.if_icmp .eq off, 3)) (ht : (pc : Int) + off = (tgt : Int)) (h1 : x = y → ZU cl tl Ts own cc nL ret nm R g k Qz L tgt st M n1 n2) (h2 : ¬ x = y → ZU cl tl Ts own cc nL ret nm R g k Qz L (pc + 3) st M n1 n2) : ZU cl tl Ts own cc nL ret nm R g k Qz L pc (.int y :: .int x :: st) M n1 n2 :=
  fun X ls H locs hl hL hP hS => lv_icmp_eq X.1 X.2.1 hd ht (fun q => h1 q X ls H locs hl hL hP hS) (fun q => h2 q X ls H locs hl hL hP hS)
theorem z_if_ne {x : Int32} {off : Int} {tgt : Nat} (hd : decode cc pc = .ok (.ifCond .ne off, 3)) (ht : (pc : Int) + off = (tgt : Int)) (h1 : ¬ x = 0 → ZU cl tl Ts own cc nL ret nm R g k Qz L tgt st M n1 n2) (h2 : x = 0 → ZU cl tl Ts own cc nL ret nm R g k Qz L (pc + 3) st M n1 n2) : ZU cl tl Ts own cc nL ret nm R g k Qz L pc (.int x :: st) M n1 n2 :=
  fun X ls H locs hl hL hP hS => lv_if_ne X.1 X.2.1 hd ht (fun q => h1 q X ls H locs hl hL hP hS) (fun q => h2 q X ls H locs hl hL hP hS)
theorem z_icmp_ne {x y : Int32} {off : Int} {tgt : Nat} (hd : decode cc pc = .ok (.if_icmp .ne off, 3)) (ht : (pc : Int) + off = (tgt : Int)) (h1 : ¬ x = y → ZU cl tl Ts own cc nL ret nm R g k Qz L tgt st M n1 n2) (h2 : x = y → ZU cl tl Ts own cc nL ret nm R g k Qz L (pc + 3) st M n1 n2) : ZU cl tl Ts own cc nL ret nm R g k Qz L pc (.int y :: .int x :: st) M n1 n2 :=
  fun X ls H locs hl hL hP hS => lv_icmp_ne X.1 X.2.1 hd ht (fun q => h1 q X ls H locs hl hL hP hS) (fun q => h2 q X ls H locs hl hL hP hS)
theorem z_if_lt {x : Int32} {off : Int} {tgt : Nat} (hd : decode cc pc = .ok (.ifCond .lt off, 3)) (ht : (pc : Int) + off = (tgt : Int)) (h1 : x < 0 → ZU cl tl Ts own cc nL ret nm R g k Qz L tgt st M n1 n2) (h2 : ¬ x < 0 → ZU cl tl Ts own cc nL ret nm R g k Qz L (pc + 3) st M n1 n2) : ZU cl tl Ts own cc nL ret nm R g k Qz L pc (.int x :: st) M n1 n2 :=
  fun X ls H locs hl hL hP hS => lv_if_lt X.1 X.2.1 hd ht (fun q => h1 q X ls H locs hl hL hP hS) (fun q => h2 q X ls H locs hl hL hP hS)
theorem z_icmp_lt {x y : Int32} {off : Int} {tgt : Nat} (hd : decode cc pc = .ok (.if_icmp .lt off, 3)) (ht : (pc : Int) + off = (tgt : Int)) (h1 : x < y → ZU cl tl Ts own cc nL ret nm R g k Qz L tgt st M n1 n2) (h2 : ¬ x < y → ZU cl tl Ts own cc nL ret nm R g k Qz L (pc + 3) st M n1 n2) : ZU cl tl Ts own cc nL ret nm R g k Qz L pc (.int y :: .int x :: st) M n1 n2 :=
  fun X ls H locs hl hL hP hS => lv_icmp_lt X.1 X.2.1 hd ht (fun q => h1 q X ls H locs hl hL hP hS) (fun q => h2 q X ls H locs hl hL hP hS)
theorem z_if_ge {x : Int32} {off : Int} {tgt : Nat} (hd : decode cc pc = .ok (.ifCond .ge off, 3)) (ht : (pc : Int) + off = (tgt : Int)) (h1 : 0 ≤ x → ZU cl tl Ts own cc nL ret nm R g k Qz L tgt st M n1 n2) (h2 : ¬ 0 ≤ x → ZU cl tl Ts own cc nL ret nm R g k Qz L (pc + 3) st M n1 n2) : ZU cl tl Ts own cc nL ret nm R g k Qz L pc (.int x :: st) M n1 n2 :=
  fun X ls H locs hl hL hP hS => lv_if_ge X.1 X.2.1 hd ht (fun q => h1 q X ls H locs hl hL hP hS) (fun q => h2 q X ls H locs hl hL hP hS)
theorem z_icmp_ge {x y : Int32} {off : Int} {tgt : Nat} (hd : decode cc pc = .ok (.if_icmp .ge off, 3)) (ht : (pc : Int) + off = (tgt : Int)) (h1 : y ≤ x → ZU cl tl Ts own cc nL ret nm R g k Qz L tgt st M n1 n2) (h2 : ¬ y ≤ x → ZU cl tl Ts own cc nL ret nm R g k Qz L (pc + 3) st M n1 n2) : ZU cl tl Ts own cc nL ret nm R g k Qz L pc (.int y :: .int x :: st) M n1 n2 :=
  fun X ls H locs hl hL hP hS => lv_icmp_ge X.1 X.2.1 hd ht (fun q => h1 q X ls H locs hl hL hP hS) (fun q => h2 q X ls H locs hl hL hP hS)
theorem z_if_gt {x : Int32} {off : Int} {tgt : Nat} (hd : decode cc pc = .ok (.ifCond .gt off, 3)) (ht : (pc : Int) + off = (tgt : Int)) (h1 : 0 < x → ZU cl tl Ts own cc nL ret nm R g k Qz L tgt st M n1 n2) (h2 : ¬ 0 < x → ZU cl tl Ts own cc nL ret nm R g k Qz L (pc + 3) st M n1 n2) : ZU cl tl Ts own cc nL ret nm R g k Qz L pc (.int x :: st) M n1 n2 :=
  fun X ls H locs hl hL hP hS => lv_if_gt X.1 X.2.1 hd ht (fun q => h1 q X ls H locs hl hL hP hS) (fun q => h2 q X ls H locs hl hL hP hS)
theorem z_icmp_gt {x y : Int32} {off : Int} {tgt : Nat} (hd : decode cc pc = .ok (.if_icmp .gt off, 3)) (ht : (pc : Int) + off = (tgt : Int)) (h1 : y < x → ZU cl tl Ts own cc nL ret nm R g k Qz L tgt st M n1 n2) (h2 : ¬ y < x → ZU cl tl Ts own cc nL ret nm R g k Qz L (pc + 3) st M n1 n2) : ZU cl tl Ts own cc nL ret nm R g k Qz L pc (.int y :: .int x :: st) M n1 n2 :=
  fun X ls H locs hl hL hP hS => lv_icmp_gt X.1 X.2.1 hd ht (fun q => h1 q X ls H locs hl hL hP hS) (fun q => h2 q X ls H locs hl hL hP hS)
theorem z_if_le {x : Int32} {off : Int} {tgt : Nat} (hd : decode cc pc = .ok (.ifCond .le off, 3)) (ht : (pc : Int) + off = (tgt : Int)) (h1 : x ≤ 0 → ZU cl tl Ts own cc nL ret nm R g k Qz L tgt st M n1 n2) (h2 : ¬ x ≤ 0 → ZU cl tl Ts own cc nL ret nm R g k Qz L (pc + 3) st M n1 n2) : ZU cl tl Ts own cc nL ret nm R g k Qz L pc (.int x :: st) M n1 n2 :=
  fun X ls H locs hl hL hP hS => lv_if_le X.1 X.2.1 hd ht (fun q => h1 q X ls H locs hl hL hP hS) (fun q => h2 q X ls H locs hl hL hP hS)
theorem z_icmp_le {x y : Int32} {off : Int} {tgt : Nat} (hd : decode cc pc = .ok (.if_icmp .le off, 3)) (ht : (pc : Int) + off = (tgt : Int)) (h1 : x ≤ y → ZU cl tl Ts own cc nL ret nm R g k Qz L tgt st M n1 n2) (h2 : ¬ x ≤ y → ZU cl tl Ts own cc nL ret nm R g k Qz L (pc + 3) st M n1 n2) : ZU cl tl Ts own cc nL ret nm R g k Qz L pc (.int y :: .int x :: st) M n1 n2 :=
  fun X ls H locs hl hL hP hS => lv_icmp_le X.1 X.2.1 hd ht (fun q => h1 q X ls H locs hl hL hP hS) (fun q => h2 q X ls H locs hl hL hP hS)
theorem z_goto {off : Int} {tgt : Nat} (hd : decode cc pc = .ok (.goto off, 3)) (ht : (pc : Int) + off = (tgt : Int)) (h : ZU cl tl Ts own cc nL ret nm R g k Qz L tgt st M n1 n2) : ZU cl tl Ts own cc nL ret nm R g k Qz L pc st M n1 n2 :=
  fun X ls H locs hl hL hP hS => lv_goto X.1 X.2.1 hd ht (h X ls H locs hl hL hP hS)
theorem z_ifnull {x : Nat} {off : Int} (hd : decode cc pc = .ok (.ifnull off, 3)) (h : ZU cl tl Ts own cc nL ret nm R g k Qz L (pc + 3) st M n1 n2) : ZU cl tl Ts own cc nL ret nm R g k Qz L pc (.ref x :: st) M n1 n2 :=
  fun X ls H locs hl hL hP hS => lv_ifnull X.1 X.2.1 hd (h X ls H locs hl hL hP hS)
theorem z_ifnullN {off : Int} {tgt : Nat} (hd : decode cc pc = .ok (.ifnull off, 3)) (ht : (pc : Int) + off = (tgt : Int)) (h : ZU cl tl Ts own cc nL ret nm R g k Qz L tgt st M n1 n2) : ZU cl tl Ts own cc nL ret nm R g k Qz L pc (.null :: st) M n1 n2 :=
  fun X ls H locs hl hL hP hS => lv_ifnullN X.1 X.2.1 hd ht (h X ls H locs hl hL hP hS)
theorem z_ifnonnull {x : Nat} {off : Int} {tgt : Nat} (hd : decode cc pc = .ok (.ifnonnull off, 3)) (ht : (pc : Int) + off = (tgt : Int)) (h : ZU cl tl Ts own cc nL ret nm R g k Qz L tgt st M n1 n2) : ZU cl tl Ts own cc nL ret nm R g k Qz L pc (.ref x :: st) M n1 n2 :=
  fun X ls H locs hl hL hP hS => lv_ifnonnull X.1 X.2.1 hd ht (h X ls H locs hl hL hP hS)
theorem z_ifnonnullN {off : Int} (hd : decode cc pc = .ok (.ifnonnull off, 3)) (h : ZU cl tl Ts own cc nL ret nm R g k Qz L (pc + 3) st M n1 n2) : ZU cl tl Ts own cc nL ret nm R g k Qz L pc (.null :: st) M n1 n2 :=
  fun X ls H locs hl hL hP hS => lv_ifnonnullN X.1 X.2.1 hd (h X ls H locs hl hL hP hS)
theorem z_acmp_eq {x y : Option Nat} {off : Int} {tgt : Nat} (hd : decode cc pc = .ok (.if_acmp .eq off, 3)) (ht : (pc : Int) + off = (tgt : Int)) (h1 : x = y → ZU cl tl Ts own cc nL ret nm R g k Qz L tgt st M n1 n2) (h2 : ¬ x = y → ZU cl tl Ts own cc nL ret nm R g k Qz L (pc + 3) st M n1 n2) : ZU cl tl Ts own cc nL ret nm R g k Qz L pc (va_rf y :: va_rf x :: st) M n1 n2 :=
  fun X ls H locs hl hL hP hS => lv_acmp_eq X.1 X.2.1 hd ht (fun q => h1 q X ls H locs hl hL hP hS) (fun q => h2 q X ls H locs hl hL hP hS)
theorem z_acmp_ne {x y : Option Nat} {off : Int} {tgt : Nat} (hd : decode cc pc = .ok (.if_acmp .ne off, 3)) (ht : (pc : Int) + off = (tgt : Int)) (h1 : ¬ x = y → ZU cl tl Ts own cc nL ret nm R g k Qz L tgt st M n1 n2) (h2 : x = y → ZU cl tl Ts own cc nL ret nm R g k Qz L (pc + 3) st M n1 n2) : ZU cl tl Ts own cc nL ret nm R g k Qz L pc (va_rf y :: va_rf x :: st) M n1 n2 :=
  fun X ls H locs hl hL hP hS => lv_acmp_ne X.1 X.2.1 hd ht (fun q => h1 q X ls H locs hl hL hP hS) (fun q => h2 q X ls H locs hl hL hP hS)
theorem z_widen {k1 k2 : Nat} (h1 : n1 ≤ k1) (h2 : n2 ≤ k2) (h : ZU cl tl Ts own cc nL ret nm R g k Qz L pc st M k1 k2) : ZU cl tl Ts own cc nL ret nm R g k Qz L pc st M n1 n2 :=
  fun X ls H locs hl hL hP hS => W.widen h1 h2 (h X ls H locs hl hL hP hS)
theorem z_ret {v : Option Value} {H : Heap} {locs : List Loc} (hP : zP cl g M H) (hS : va_S g.2.2.1 k.2.2.2.1.heap H locs) (hp : post v M) : ∀ t : State, t.heap = H → k.2.2.2.1.WarmedH t.vm → zQ cl g post k.2.2.2.2.2.1 k.2.2.2.1 (.returned v) t :=
  fun t ht _ => ⟨⟨v, M, rfl, hp, by rw [ht]; exact hP⟩, hS.F ht⟩
theorem z_ireturn {v : Int32} (hd : decode cc pc = .ok (.ireturn, 1)) (hr : ret = some .int) (hp : post (some (.int v)) M) (h1 : n1 ≤ R.cells) (h2 : n2 ≤ R.slots) : ZW cl tl Ts own cc nL ret nm R g k post L pc [.int v] M n1 n2 :=
  fun X ls H locs hl hL hP hS => W.widen h1 h2 (W.iret X.1 X.2.1 (X.2.2.2.2.2.2.1.trans hr) (z_ret hP hS hp) hS.2.2 hd X.2.2.2.2.2.1)
theorem z_zreturn {v : Int32} {ty : FieldType} (hd : decode cc pc = .ok (.ireturn, 1)) (hr : ret = some ty) (hn : narrow ty (.int v) = .int v) (hp : post (some (.int v)) M) (h1 : n1 ≤ R.cells) (h2 : n2 ≤ R.slots) : ZW cl tl Ts own cc nL ret nm R g k post L pc [.int v] M n1 n2 :=
  fun X ls H locs hl hL hP hS => W.widen h1 h2 (W.zret X.1 X.2.1 (X.2.2.2.2.2.2.1.trans hr) hn (z_ret hP hS hp) hS.2.2 hd X.2.2.2.2.2.1)
theorem z_lreturn {v : Int64} (hd : decode cc pc = .ok (.lreturn, 1)) (hr : ret = some .long) (hp : post (some (.long v)) M) (h1 : n1 ≤ R.cells) (h2 : n2 ≤ R.slots) : ZW cl tl Ts own cc nL ret nm R g k post L pc [.long v] M n1 n2 :=
  fun X ls H locs hl hL hP hS => W.widen h1 h2 (W.lret X.1 X.2.1 (X.2.2.2.2.2.2.1.trans hr) (z_ret hP hS hp) hS.2.2 hd X.2.2.2.2.2.1)
theorem z_return (hd : decode cc pc = .ok (.return_, 1)) (hr : ret = none) (hp : post none M) (h1 : n1 ≤ R.cells) (h2 : n2 ≤ R.slots) : ZW cl tl Ts own cc nL ret nm R g k post L pc [] M n1 n2 :=
  fun X ls H locs hl hL hP hS => W.widen h1 h2 (W.vret X.1 X.2.1 (X.2.2.2.2.2.2.1.trans hr) (z_ret hP hS hp) hS.2.2 hd X.2.2.2.2.2.1)
theorem z_areturn {v : Value} {rt : FieldType} (hd : decode cc pc = .ok (.areturn, 1)) (hr : ret = some rt) (hrt : (∃ n, rt = .object n) ∨ ∃ t, rt = .array t) (hv : v = .null ∨ ∃ a, v = .ref a) (hp : post (some v) M) (h1 : n1 ≤ R.cells) (h2 : n2 ≤ R.slots) : ZW cl tl Ts own cc nL ret nm R g k post L pc [v] M n1 n2 :=
  fun X ls H locs hl hL hP hS => W.widen h1 h2 (W.aret X.1 X.2.1 (X.2.2.2.2.2.2.1.trans hr) hrt hv (z_ret hP hS hp) hS.2.2 hd X.2.2.2.2.2.1)
end ZR
