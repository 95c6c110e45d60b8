section
-- ===== PART A: goes FIRST, ahead of the names: the tables' words, and 'selects' of the private methods out of them =====
/-- a private method of a class that the tables say can be made, by its rows of tables_1 -/
def lw_okq (q : MethodName × Nat) : Prop := (q.1.cls ≠ "java/lang/invoke/MethodHandle" ∧ q.1.cls ≠ "java/lang/invoke/VarHandle") ∧ Cond.instantiable q.1.cls q.2 ∈ tables_1 ∧ Cond.privateMethod q.1 ∈ tables_1 ∧ Cond.instanceMethod q.1 ∈ tables_1
theorem lw_p0 : lw_okq (⟨"MonitorQueues", "isQueue", "(I)Z"⟩, 7) := ⟨⟨by decide +kernel, by decide +kernel⟩, List.mem_of_getElem? (i := 22) (by decide +kernel), List.mem_of_getElem? (i := 137) (by decide +kernel), List.mem_of_getElem? (i := 138) (by decide +kernel)⟩
theorem lw_p1 : lw_okq (⟨"MonitorQueues", "allItems", "()I"⟩, 7) := ⟨⟨by decide +kernel, by decide +kernel⟩, List.mem_of_getElem? (i := 22) (by decide +kernel), List.mem_of_getElem? (i := 152) (by decide +kernel), List.mem_of_getElem? (i := 153) (by decide +kernel)⟩
theorem lw_p2 : lw_okq (⟨"java/util/ArrayList", "add", "(Ljava/lang/Object;[Ljava/lang/Object;I)V"⟩, 3) := ⟨⟨by decide +kernel, by decide +kernel⟩, List.mem_of_getElem? (i := 43) (by decide +kernel), List.mem_of_getElem? (i := 184) (by decide +kernel), List.mem_of_getElem? (i := 185) (by decide +kernel)⟩
theorem lw_p3 : lw_okq (⟨"java/util/ArrayList", "grow", "()[Ljava/lang/Object;"⟩, 3) := ⟨⟨by decide +kernel, by decide +kernel⟩, List.mem_of_getElem? (i := 43) (by decide +kernel), List.mem_of_getElem? (i := 188) (by decide +kernel), List.mem_of_getElem? (i := 189) (by decide +kernel)⟩
theorem lw_p4 : lw_okq (⟨"java/util/ArrayList", "grow", "(I)[Ljava/lang/Object;"⟩, 3) := ⟨⟨by decide +kernel, by decide +kernel⟩, List.mem_of_getElem? (i := 43) (by decide +kernel), List.mem_of_getElem? (i := 192) (by decide +kernel), List.mem_of_getElem? (i := 193) (by decide +kernel)⟩
theorem lw_p5 : lw_okq (⟨"MonitorQueues", "lookAtTriggers", "()V"⟩, 7) := ⟨⟨by decide +kernel, by decide +kernel⟩, List.mem_of_getElem? (i := 22) (by decide +kernel), List.mem_of_getElem? (i := 240) (by decide +kernel), List.mem_of_getElem? (i := 241) (by decide +kernel)⟩
theorem lw_p6 : lw_okq (⟨"MonitorQueues", "look", "(LMonitorQueues$Trigger;I)V"⟩, 7) := ⟨⟨by decide +kernel, by decide +kernel⟩, List.mem_of_getElem? (i := 22) (by decide +kernel), List.mem_of_getElem? (i := 248) (by decide +kernel), List.mem_of_getElem? (i := 249) (by decide +kernel)⟩
theorem lw_p7 : lw_okq (⟨"MonitorQueues", "beginFor", "(LMonitorQueues$Trigger;)I"⟩, 7) := ⟨⟨by decide +kernel, by decide +kernel⟩, List.mem_of_getElem? (i := 22) (by decide +kernel), List.mem_of_getElem? (i := 252) (by decide +kernel), List.mem_of_getElem? (i := 253) (by decide +kernel)⟩
theorem lw_p8 : lw_okq (⟨"MonitorQueues", "begin", "(I)I"⟩, 7) := ⟨⟨by decide +kernel, by decide +kernel⟩, List.mem_of_getElem? (i := 22) (by decide +kernel), List.mem_of_getElem? (i := 256) (by decide +kernel), List.mem_of_getElem? (i := 257) (by decide +kernel)⟩
theorem lw_p9 : lw_okq (⟨"java/util/ArrayList", "fastRemove", "([Ljava/lang/Object;I)V"⟩, 3) := ⟨⟨by decide +kernel, by decide +kernel⟩, List.mem_of_getElem? (i := 43) (by decide +kernel), List.mem_of_getElem? (i := 320) (by decide +kernel), List.mem_of_getElem? (i := 321) (by decide +kernel)⟩
theorem lw_p10 : lw_okq (⟨"MonitorQueues", "isTask", "(I)Z"⟩, 7) := ⟨⟨by decide +kernel, by decide +kernel⟩, List.mem_of_getElem? (i := 22) (by decide +kernel), List.mem_of_getElem? (i := 370) (by decide +kernel), List.mem_of_getElem? (i := 371) (by decide +kernel)⟩
theorem lw_p11 : lw_okq (⟨"MonitorQueues", "beginAgain", "(I)I"⟩, 7) := ⟨⟨by decide +kernel, by decide +kernel⟩, List.mem_of_getElem? (i := 22) (by decide +kernel), List.mem_of_getElem? (i := 379) (by decide +kernel), List.mem_of_getElem? (i := 380) (by decide +kernel)⟩
theorem lw_p12 : lw_okq (⟨"MonitorQueues", "keepWaiting", "(LMonitorQueues$Delay;)V"⟩, 7) := ⟨⟨by decide +kernel, by decide +kernel⟩, List.mem_of_getElem? (i := 22) (by decide +kernel), List.mem_of_getElem? (i := 411) (by decide +kernel), List.mem_of_getElem? (i := 412) (by decide +kernel)⟩
theorem lw_p13 : lw_okq (⟨"java/util/ArrayList", "rangeCheckForAdd", "(I)V"⟩, 3) := ⟨⟨by decide +kernel, by decide +kernel⟩, List.mem_of_getElem? (i := 43) (by decide +kernel), List.mem_of_getElem? (i := 419) (by decide +kernel), List.mem_of_getElem? (i := 420) (by decide +kernel)⟩
theorem lw_p14 : lw_okq (⟨"MonitorQueues", "postDue", "()I"⟩, 7) := ⟨⟨by decide +kernel, by decide +kernel⟩, List.mem_of_getElem? (i := 22) (by decide +kernel), List.mem_of_getElem? (i := 423) (by decide +kernel), List.mem_of_getElem? (i := 424) (by decide +kernel)⟩
theorem lw_p15 : lw_okq (⟨"java/lang/Throwable", "fillInStackTrace", "(I)Ljava/lang/Throwable;"⟩, 6) := ⟨⟨by decide +kernel, by decide +kernel⟩, List.mem_of_getElem? (i := 504) (by decide +kernel), List.mem_of_getElem? (i := 502) (by decide +kernel), List.mem_of_getElem? (i := 503) (by decide +kernel)⟩
def lw_privs_1 : List (MethodName × Nat) := [(⟨"MonitorQueues", "isQueue", "(I)Z"⟩, 7), (⟨"MonitorQueues", "allItems", "()I"⟩, 7), (⟨"java/util/ArrayList", "add", "(Ljava/lang/Object;[Ljava/lang/Object;I)V"⟩, 3), (⟨"java/util/ArrayList", "grow", "()[Ljava/lang/Object;"⟩, 3), (⟨"java/util/ArrayList", "grow", "(I)[Ljava/lang/Object;"⟩, 3), (⟨"MonitorQueues", "lookAtTriggers", "()V"⟩, 7), (⟨"MonitorQueues", "look", "(LMonitorQueues$Trigger;I)V"⟩, 7), (⟨"MonitorQueues", "beginFor", "(LMonitorQueues$Trigger;)I"⟩, 7), (⟨"MonitorQueues", "begin", "(I)I"⟩, 7), (⟨"java/util/ArrayList", "fastRemove", "([Ljava/lang/Object;I)V"⟩, 3), (⟨"MonitorQueues", "isTask", "(I)Z"⟩, 7), (⟨"MonitorQueues", "beginAgain", "(I)I"⟩, 7), (⟨"MonitorQueues", "keepWaiting", "(LMonitorQueues$Delay;)V"⟩, 7), (⟨"java/util/ArrayList", "rangeCheckForAdd", "(I)V"⟩, 3), (⟨"MonitorQueues", "postDue", "()I"⟩, 7), (⟨"java/lang/Throwable", "fillInStackTrace", "(I)Ljava/lang/Throwable;"⟩, 6)]
theorem lw_r1 : ∀ q ∈ lw_privs_1, lw_okq q := List.forall_mem_cons.mpr ⟨lw_p0, List.forall_mem_cons.mpr ⟨lw_p1, List.forall_mem_cons.mpr ⟨lw_p2, List.forall_mem_cons.mpr ⟨lw_p3, List.forall_mem_cons.mpr ⟨lw_p4, List.forall_mem_cons.mpr ⟨lw_p5, List.forall_mem_cons.mpr ⟨lw_p6, List.forall_mem_cons.mpr ⟨lw_p7, List.forall_mem_cons.mpr ⟨lw_p8, List.forall_mem_cons.mpr ⟨lw_p9, List.forall_mem_cons.mpr ⟨lw_p10, List.forall_mem_cons.mpr ⟨lw_p11, List.forall_mem_cons.mpr ⟨lw_p12, List.forall_mem_cons.mpr ⟨lw_p13, List.forall_mem_cons.mpr ⟨lw_p14, List.forall_mem_cons.mpr ⟨lw_p15, fun _ h => absurd h List.not_mem_nil⟩⟩⟩⟩⟩⟩⟩⟩⟩⟩⟩⟩⟩⟩⟩⟩
theorem lw_p16 : lw_okq (⟨"MonitorQueuesModel", "putting", "(IIJI)I"⟩, 28) := ⟨⟨by decide +kernel, by decide +kernel⟩, List.mem_of_getElem? (i := 536) (by decide +kernel), List.mem_of_getElem? (i := 637) (by decide +kernel), List.mem_of_getElem? (i := 638) (by decide +kernel)⟩
theorem lw_p17 : lw_okq (⟨"MonitorQueuesModel", "lockOf", "(I)I"⟩, 28) := ⟨⟨by decide +kernel, by decide +kernel⟩, List.mem_of_getElem? (i := 536) (by decide +kernel), List.mem_of_getElem? (i := 644) (by decide +kernel), List.mem_of_getElem? (i := 645) (by decide +kernel)⟩
theorem lw_p18 : lw_okq (⟨"MonitorQueuesModel", "many", "(I)I"⟩, 28) := ⟨⟨by decide +kernel, by decide +kernel⟩, List.mem_of_getElem? (i := 536) (by decide +kernel), List.mem_of_getElem? (i := 648) (by decide +kernel), List.mem_of_getElem? (i := 649) (by decide +kernel)⟩
theorem lw_p19 : lw_okq (⟨"MonitorQueuesModel", "answer", "(I)I"⟩, 28) := ⟨⟨by decide +kernel, by decide +kernel⟩, List.mem_of_getElem? (i := 536) (by decide +kernel), List.mem_of_getElem? (i := 652) (by decide +kernel), List.mem_of_getElem? (i := 653) (by decide +kernel)⟩
theorem lw_p20 : lw_okq (⟨"MonitorQueuesModel", "look", "()V"⟩, 28) := ⟨⟨by decide +kernel, by decide +kernel⟩, List.mem_of_getElem? (i := 536) (by decide +kernel), List.mem_of_getElem? (i := 656) (by decide +kernel), List.mem_of_getElem? (i := 657) (by decide +kernel)⟩
theorem lw_p21 : lw_okq (⟨"MonitorQueuesModel", "standing", "(I)I"⟩, 28) := ⟨⟨by decide +kernel, by decide +kernel⟩, List.mem_of_getElem? (i := 536) (by decide +kernel), List.mem_of_getElem? (i := 660) (by decide +kernel), List.mem_of_getElem? (i := 661) (by decide +kernel)⟩
theorem lw_p22 : lw_okq (⟨"MonitorQueuesModel", "task", "(I)I"⟩, 28) := ⟨⟨by decide +kernel, by decide +kernel⟩, List.mem_of_getElem? (i := 536) (by decide +kernel), List.mem_of_getElem? (i := 664) (by decide +kernel), List.mem_of_getElem? (i := 665) (by decide +kernel)⟩
theorem lw_p23 : lw_okq (⟨"MonitorQueuesModel", "isTemporary", "(I)Z"⟩, 28) := ⟨⟨by decide +kernel, by decide +kernel⟩, List.mem_of_getElem? (i := 536) (by decide +kernel), List.mem_of_getElem? (i := 672) (by decide +kernel), List.mem_of_getElem? (i := 673) (by decide +kernel)⟩
theorem lw_p24 : lw_okq (⟨"MonitorQueuesModel", "placeOf", "(II)I"⟩, 28) := ⟨⟨by decide +kernel, by decide +kernel⟩, List.mem_of_getElem? (i := 536) (by decide +kernel), List.mem_of_getElem? (i := 676) (by decide +kernel), List.mem_of_getElem? (i := 677) (by decide +kernel)⟩
theorem lw_p25 : lw_okq (⟨"MonitorQueuesModel", "nexting", "(II)I"⟩, 28) := ⟨⟨by decide +kernel, by decide +kernel⟩, List.mem_of_getElem? (i := 536) (by decide +kernel), List.mem_of_getElem? (i := 684) (by decide +kernel), List.mem_of_getElem? (i := 685) (by decide +kernel)⟩
theorem lw_p26 : lw_okq (⟨"MonitorQueuesModel", "isTransient", "(I)Z"⟩, 28) := ⟨⟨by decide +kernel, by decide +kernel⟩, List.mem_of_getElem? (i := 536) (by decide +kernel), List.mem_of_getElem? (i := 688) (by decide +kernel), List.mem_of_getElem? (i := 689) (by decide +kernel)⟩
theorem lw_p27 : lw_okq (⟨"MonitorQueuesModel", "taking", "(I)I"⟩, 28) := ⟨⟨by decide +kernel, by decide +kernel⟩, List.mem_of_getElem? (i := 536) (by decide +kernel), List.mem_of_getElem? (i := 696) (by decide +kernel), List.mem_of_getElem? (i := 697) (by decide +kernel)⟩
theorem lw_p28 : lw_okq (⟨"MonitorQueuesModel", "remove", "(I)V"⟩, 28) := ⟨⟨by decide +kernel, by decide +kernel⟩, List.mem_of_getElem? (i := 536) (by decide +kernel), List.mem_of_getElem? (i := 700) (by decide +kernel), List.mem_of_getElem? (i := 701) (by decide +kernel)⟩
theorem lw_p29 : lw_okq (⟨"MonitorQueuesModel", "emptied", "(I)V"⟩, 28) := ⟨⟨by decide +kernel, by decide +kernel⟩, List.mem_of_getElem? (i := 536) (by decide +kernel), List.mem_of_getElem? (i := 704) (by decide +kernel), List.mem_of_getElem? (i := 705) (by decide +kernel)⟩
theorem lw_p30 : lw_okq (⟨"MonitorQueuesModel", "triggers", "(III)I"⟩, 28) := ⟨⟨by decide +kernel, by decide +kernel⟩, List.mem_of_getElem? (i := 536) (by decide +kernel), List.mem_of_getElem? (i := 712) (by decide +kernel), List.mem_of_getElem? (i := 713) (by decide +kernel)⟩
theorem lw_p31 : lw_okq (⟨"MonitorQueuesModel", "ending", "(I)I"⟩, 28) := ⟨⟨by decide +kernel, by decide +kernel⟩, List.mem_of_getElem? (i := 536) (by decide +kernel), List.mem_of_getElem? (i := 724) (by decide +kernel), List.mem_of_getElem? (i := 725) (by decide +kernel)⟩
def lw_privs_2 : List (MethodName × Nat) := [(⟨"MonitorQueuesModel", "putting", "(IIJI)I"⟩, 28), (⟨"MonitorQueuesModel", "lockOf", "(I)I"⟩, 28), (⟨"MonitorQueuesModel", "many", "(I)I"⟩, 28), (⟨"MonitorQueuesModel", "answer", "(I)I"⟩, 28), (⟨"MonitorQueuesModel", "look", "()V"⟩, 28), (⟨"MonitorQueuesModel", "standing", "(I)I"⟩, 28), (⟨"MonitorQueuesModel", "task", "(I)I"⟩, 28), (⟨"MonitorQueuesModel", "isTemporary", "(I)Z"⟩, 28), (⟨"MonitorQueuesModel", "placeOf", "(II)I"⟩, 28), (⟨"MonitorQueuesModel", "nexting", "(II)I"⟩, 28), (⟨"MonitorQueuesModel", "isTransient", "(I)Z"⟩, 28), (⟨"MonitorQueuesModel", "taking", "(I)I"⟩, 28), (⟨"MonitorQueuesModel", "remove", "(I)V"⟩, 28), (⟨"MonitorQueuesModel", "emptied", "(I)V"⟩, 28), (⟨"MonitorQueuesModel", "triggers", "(III)I"⟩, 28), (⟨"MonitorQueuesModel", "ending", "(I)I"⟩, 28)]
theorem lw_r2 : ∀ q ∈ lw_privs_2, lw_okq q := List.forall_mem_cons.mpr ⟨lw_p16, List.forall_mem_cons.mpr ⟨lw_p17, List.forall_mem_cons.mpr ⟨lw_p18, List.forall_mem_cons.mpr ⟨lw_p19, List.forall_mem_cons.mpr ⟨lw_p20, List.forall_mem_cons.mpr ⟨lw_p21, List.forall_mem_cons.mpr ⟨lw_p22, List.forall_mem_cons.mpr ⟨lw_p23, List.forall_mem_cons.mpr ⟨lw_p24, List.forall_mem_cons.mpr ⟨lw_p25, List.forall_mem_cons.mpr ⟨lw_p26, List.forall_mem_cons.mpr ⟨lw_p27, List.forall_mem_cons.mpr ⟨lw_p28, List.forall_mem_cons.mpr ⟨lw_p29, List.forall_mem_cons.mpr ⟨lw_p30, List.forall_mem_cons.mpr ⟨lw_p31, fun _ h => absurd h List.not_mem_nil⟩⟩⟩⟩⟩⟩⟩⟩⟩⟩⟩⟩⟩⟩⟩⟩
theorem lw_p32 : lw_okq (⟨"MonitorQueuesModel", "rewriting", "(IIJ)I"⟩, 28) := ⟨⟨by decide +kernel, by decide +kernel⟩, List.mem_of_getElem? (i := 536) (by decide +kernel), List.mem_of_getElem? (i := 732) (by decide +kernel), List.mem_of_getElem? (i := 733) (by decide +kernel)⟩
theorem lw_p33 : lw_okq (⟨"MonitorQueuesModel", "drop", "(I)V"⟩, 28) := ⟨⟨by decide +kernel, by decide +kernel⟩, List.mem_of_getElem? (i := 536) (by decide +kernel), List.mem_of_getElem? (i := 744) (by decide +kernel), List.mem_of_getElem? (i := 745) (by decide +kernel)⟩
theorem lw_p34 : lw_okq (⟨"MonitorQueuesModel", "unitEnds", "(IZ)I"⟩, 28) := ⟨⟨by decide +kernel, by decide +kernel⟩, List.mem_of_getElem? (i := 536) (by decide +kernel), List.mem_of_getElem? (i := 756) (by decide +kernel), List.mem_of_getElem? (i := 757) (by decide +kernel)⟩
def lw_privs_3 : List (MethodName × Nat) := [(⟨"MonitorQueuesModel", "rewriting", "(IIJ)I"⟩, 28), (⟨"MonitorQueuesModel", "drop", "(I)V"⟩, 28), (⟨"MonitorQueuesModel", "unitEnds", "(IZ)I"⟩, 28)]
theorem lw_r3 : ∀ q ∈ lw_privs_3, lw_okq q := List.forall_mem_cons.mpr ⟨lw_p32, List.forall_mem_cons.mpr ⟨lw_p33, List.forall_mem_cons.mpr ⟨lw_p34, fun _ h => absurd h List.not_mem_nil⟩⟩⟩
def lw_privs : List (MethodName × Nat) := lw_privs_1 ++ (lw_privs_2 ++ (lw_privs_3))
def lw_tbl : List Cond := k2_sels lw_privs ++ tables_1
theorem lw_privs_ok : ∀ q ∈ lw_privs, lw_okq q := by
  show ∀ q ∈ lw_privs_1 ++ (lw_privs_2 ++ (lw_privs_3)), lw_okq q
  exact List.forall_mem_append.mpr ⟨lw_r1, List.forall_mem_append.mpr ⟨lw_r2, lw_r3⟩⟩
end
section
/-! A WORLD AS A MAP FROM ADDRESSES TO CELLS, AND A JUDGEMENT THAT FORGETS THE HEAP, THE LOCALS' ARRAY AND THE PLACES WRITTEN. -/
/-- a cell: an array by its type's place and contents, or an object by its class's place and fields -/
abbrev ZE : Type := (Nat × List Value) ⊕ (Nat × List Value)
abbrev ZM : Type := Nat → Option ZE
def zset (M : ZM) (a : Nat) (e : ZE) : ZM := fun q => if q = a then some e else M q
theorem zset_self (M : ZM) (a : Nat) (e : ZE) : zset M a e a = some e := by simp [zset]
theorem zset_ne {M : ZM} {a q : Nat} {e : ZE} (h : q ≠ a) : zset M a e q = M q := by simp [zset, h]
/-- the class numbers and slots; the array classes; what may be written; the shared empty array -/
abbrev ZG : Type := va_G × (Nat → ClassId) × (Nat → Prop) × Nat
def zarr (cA : ClassId) (vs : List Value) : Cell := { cls := cA, slots := vs.toArray, vm := .none }
def zat (cl : List vw_C) (g : ZG) (q : Nat) (e : ZE) (H : Heap) : Prop := match e with
  | .inl a => H[q]? = some (zarr (g.2.1 a.1) a.2)
  | .inr o => ∃ r : vw_C, cl[o.1]? = some r ∧ o.2.length = r.2.2 ∧ t_OB q (g.1.1 o.1) r.2.2 (g.1.2 o.1) H (vp_V o.2)
/-- words that outlast a step but are not told by the tables alone -/
def zOv : List String := ["java/lang/Object", "MonitorQueues$Queue"]
def zCa : List (String × String) := [("MonitorQueues$Item", "java/lang/Object"), ("MonitorQueues$Task", "java/lang/Object"), ("MonitorQueues$Delay", "java/lang/Object"), ("MonitorQueues$Queue", "java/lang/Object"), ("MonitorQueues$Trigger", "java/lang/Object")]
def zN (U : State) : Prop := (∀ C ∈ zOv, va_AO C U) ∧ (∀ c ∈ zCa, va_Nw (.castable c.1 c.2) U) ∧ va_Dc U ∧ ∃ mi : Nat, va_Mi "[Ljava/lang/Object;" mi U
theorem zNw.moved {C T : String} {u U : State} (hvm : u.vm.Alike U.vm) (h : va_Nw (.castable C T) u) : va_Nw (.castable C T) U := va_tabs rfl (rfl : (u.setVm U.vm).vm = U.vm) (by rw [Cond.castable_setVm hvm]; exact h)
theorem zN.moved {u U : State} (hvm : u.vm.Alike U.vm) (h : zN u) : zN U := by
  obtain ⟨h1, h2, h3, mi, h4⟩ := h
  exact ⟨fun C hC => va_AO.moved hvm (h1 C hC), fun c hc => zNw.moved hvm (h2 c hc), va_Dc.moved hvm h3, mi, va_Mi.moved hvm h4⟩
def zK (cl : List vw_C) (tl : List FieldType) (g : ZG) (U : State) : Prop :=
  (∀ (c : Nat) (q : vw_C), cl[c]? = some q → u_Kn U q.1 q.2.1 q.2.2 (g.1.1 c) (g.1.2 c)) ∧ (∀ (t : Nat) (ty : FieldType), tl[t]? = some ty → ArrOfT U (g.2.1 t) ty ∧ va_RA U (g.2.1 t) ty) ∧ zN U
def zP (cl : List vw_C) (g : ZG) (M : ZM) (H : Heap) : Prop :=
  (∀ (a : Nat) (e : ZE), M a = some e → zat cl g a e H) ∧ (∀ (a : Nat) (e : ZE), M a = some e → a = g.2.2.2 ∨ g.2.2.1 a) ∧ M g.2.2.2 = some (.inl (0, []))
/-- what stands in the old heap and is never written -/
def zE (g : ZG) (U : State) (H : Heap) : Prop := va_Z "java/util/ArrayList" "DEFAULTCAPACITY_EMPTY_ELEMENTDATA" "[Ljava/lang/Object;" (.ref g.2.2.2) g.2.2.1 U H
theorem zE.moved {g : ZG} {u U : State} {H : Heap} (hvm : u.vm.Alike U.vm) (h : zE g u H) : zE g U H := va_Z.moved hvm h
theorem zE.kept {g : ZG} {U : State} {H H1 : Heap} (h : zE g U H) (hq : ∀ a : Nat, a < H.size → ¬ g.2.2.1 a → H1[a]? = H[a]?) : zE g U H1 := va_Z.kept h hq
theorem zK.moved {cl : List vw_C} {tl : List FieldType} {g : ZG} {u U : State} (hvm : u.vm.Alike U.vm) (h : zK cl tl g u) : zK cl tl g U :=
  ⟨fun c q hq => u_Kn_moved hvm (h.1 c q hq), fun t ty ht => ⟨arrOfT_moved hvm (h.2.1 t ty ht).1, va_RA.moved hvm (h.2.1 t ty ht).2⟩, h.2.2.moved hvm⟩
theorem zat.kept {cl : List vw_C} {g : ZG} {q : Nat} {e : ZE} {H H1 : Heap} (h : zat cl g q e H) (hq : H1[q]? = H[q]?) : zat cl g q e H1 := by
  cases e with
  | inl a => exact hq.trans h
  | inr o =>
    obtain ⟨r, h1, h2, h3⟩ := h
    exact ⟨r, h1, h2, h3.kept hq⟩
theorem zat.lt {cl : List vw_C} {g : ZG} {q : Nat} {e : ZE} {H : Heap} (h : zat cl g q e H) : q < H.size := by
  cases e with
  | inl a => exact (Array.getElem?_eq_some_iff.mp h).1
  | inr o =>
    obtain ⟨r, h1, h2, cell, h3, -⟩ := h
    exact (Array.getElem?_eq_some_iff.mp h3).1
theorem zP.lt {cl : List vw_C} {g : ZG} {M : ZM} {H : Heap} (h : zP cl g M H) {a : Nat} {e : ZE} (ha : M a = some e) : a < H.size := (h.1 a e ha).lt
theorem zP.fresh {cl : List vw_C} {g : ZG} {M : ZM} {H : Heap} (h : zP cl g M H) {a : Nat} (ha : H.size ≤ a) : M a = none := by
  cases hm : M a with
  | none => rfl
  | some e => exact absurd (h.lt hm) (by omega)
theorem zP.set {cl : List vw_C} {g : ZG} {M : ZM} {H H1 : Heap} (h : zP cl g M H) {a : Nat} {e : ZE} (hz : a ≠ g.2.2.2) (hA : g.2.2.1 a) (he : zat cl g a e H1) (oq : ∀ (q : Nat), q ≠ a → M q ≠ none → H1[q]? = H[q]?) : zP cl g (zset M a e) H1 := by
  refine ⟨fun q e' hq => ?_, fun q e' hq => ?_, ?_⟩
  · by_cases hqa : q = a
    · subst hqa
      rw [zset_self] at hq
      cases hq
      exact he
    · rw [zset_ne hqa] at hq
      exact (h.1 q e' hq).kept (oq q hqa (by rw [hq]; exact fun x => by cases x))
  · by_cases hqa : q = a
    · subst hqa
      exact Or.inr hA
    · rw [zset_ne hqa] at hq
      exact h.2.1 q e' hq
  · rw [zset_ne (Ne.symm hz)]
    exact h.2.2
theorem zP.obj {cl : List vw_C} {g : ZG} {M : ZM} {H : Heap} (h : zP cl g M H) {a : Nat} {o : Nat × List Value} (ha : M a = some (.inr o)) : a ≠ g.2.2.2 ∧ g.2.2.1 a := by
  have hz : a ≠ g.2.2.2 := fun e => by
    rw [e, h.2.2] at ha
    cases ha
  exact ⟨hz, (h.2.1 a _ ha).resolve_left hz⟩
theorem zP.arr {cl : List vw_C} {g : ZG} {M : ZM} {H : Heap} (h : zP cl g M H) {a t : Nat} {vs : List Value} (ha : M a = some (.inl (t, vs))) {j : Nat} (hj : j < vs.length) : a ≠ g.2.2.2 ∧ g.2.2.1 a := by
  have hz : a ≠ g.2.2.2 := fun e => by
    rw [e, h.2.2] at ha
    cases ha
    simp at hj
  exact ⟨hz, (h.2.1 a _ ha).resolve_left hz⟩
theorem zarr_set (cA : ClassId) (vs : List Value) (j : Nat) (v : Value) : (zarr cA vs).setSlot j v = zarr cA (vs.set j v) := by
  simp [zarr, Cell.setSlot]
theorem zarr_arrV (cA : ClassId) (vs : List Value) : zarr cA vs = arrV cA vs.length (fun j => vs.getD j .null) := by
  unfold zarr arrV
  congr 1
  apply Array.ext
  · simp
  · intro i h1 h2
    simp at h1
    simp [h1]
theorem zarr_of {U : State} {cA : ClassId} {ty : FieldType} (h : ArrOfT U cA ty) (vs : List Value) : U.isArrayOf (zarr cA vs) ty := by
  rw [zarr_arrV]
  exact h _ _
/-- the locals: known ones by their places -/
def zl (ls : Array Slot) (L : List (Option Value)) : Prop := lv_wf ls ∧ ls.size = L.length ∧ ∀ (i : Nat) (v : Value), L[i]? = some (some v) → ls[i]? = some (.val v)
def zclr (L : List (Option Value)) (i : Nat) : List (Option Value) := match i with
  | 0 => L
  | j + 1 => match L[j]? with
    | some (some (.long _)) => L.set j none
    | some (some (.double _)) => L.set j none
    | _ => L
def zput1 (L : List (Option Value)) (i : Nat) (v : Value) : List (Option Value) := (zclr L i).set i (some v)
def zput2 (L : List (Option Value)) (i : Nat) (v : Value) : List (Option Value) := ((zclr L i).set i (some v)).set (i + 1) none
theorem zclr_len (L : List (Option Value)) (i : Nat) : (zclr L i).length = L.length := by
  unfold zclr
  split
  · rfl
  · split <;> simp
theorem zclr_get {L : List (Option Value)} {i j : Nat} {v : Value} (h : (zclr L i)[j]? = some (some v)) : L[j]? = some (some v) ∧ (j + 1 = i → v.category = 1) := by
  unfold zclr at h
  split at h
  · exact ⟨h, fun e => by omega⟩
  · rename_i k
    split at h
    · rename_i x hx
      by_cases hjk : j = k
      · subst hjk
        have hlt : j < L.length := (List.getElem?_eq_some_iff.mp hx).1
        rw [List.getElem?_set_self hlt] at h
        cases h
      · rw [List.getElem?_set_ne (Ne.symm hjk)] at h
        exact ⟨h, fun e => by omega⟩
    · rename_i x hx
      by_cases hjk : j = k
      · subst hjk
        have hlt : j < L.length := (List.getElem?_eq_some_iff.mp hx).1
        rw [List.getElem?_set_self hlt] at h
        cases h
      · rw [List.getElem?_set_ne (Ne.symm hjk)] at h
        exact ⟨h, fun e => by omega⟩
    · rename_i h1 h2
      refine ⟨h, fun e => ?_⟩
      have e' : j = k := by omega
      subst e'
      cases v <;> first | rfl | exact absurd h (h1 _) | exact absurd h (h2 _)
theorem zl.has {ls : Array Slot} {L : List (Option Value)} (h : zl ls L) (l : List (Nat × Value)) (hl : ∀ q ∈ l, L[q.1]? = some (some q.2)) : lv_has ls L.length l := ⟨h.2.1, h.1, fun q hq => h.2.2 q.1 q.2 (hl q hq)⟩
def zpairs (L : List (Option Value)) : List (Nat × Value) := (List.range L.length).filterMap (fun i => (L[i]?.join).map (fun v => (i, v)))
theorem zpairs_mem {L : List (Option Value)} {i : Nat} {v : Value} : (i, v) ∈ zpairs L ↔ L[i]? = some (some v) := by
  unfold zpairs
  rw [List.mem_filterMap]
  constructor
  · rintro ⟨j, hj, h⟩
    cases hL : L[j]? with
    | none => rw [hL] at h; simp at h
    | some o =>
      rw [hL] at h
      cases o with
      | none => simp at h
      | some w =>
        simp at h
        obtain ⟨rfl, rfl⟩ := h
        exact hL
  · intro h
    refine ⟨i, List.mem_range.mpr (List.getElem?_eq_some_iff.mp h).1, ?_⟩
    rw [h]
    rfl
theorem zl.hasAll {ls : Array Slot} {L : List (Option Value)} (h : zl ls L) : lv_has ls L.length (zpairs L) := h.has _ (fun q hq => zpairs_mem.mp hq)
theorem zl.store1 {ls : Array Slot} {L : List (Option Value)} (h : zl ls L) {i : Nat} (hi : i < L.length) {v : Value} (hc : v.category = 1) : ∃ ls', storeLocals ls i v = some ls' ∧ zl ls' (zput1 L i v) := by
  obtain ⟨ls', e, h1, h2, h3⟩ := lv_store1 h.hasAll hi hc
  refine ⟨ls', e, h2, by rw [h1]; simp [zput1, zclr_len], fun j w hj => ?_⟩
  unfold zput1 at hj
  by_cases hji : j = i
  · subst hji
    rw [List.getElem?_set_self (by rw [zclr_len]; exact hi)] at hj
    cases hj
    exact h3 _ List.mem_cons_self
  · rw [List.getElem?_set_ne (Ne.symm hji)] at hj
    obtain ⟨g1, g2⟩ := zclr_get hj
    refine h3 (j, w) (List.mem_cons_of_mem _ (List.mem_filter.mpr ⟨zpairs_mem.mpr g1, ?_⟩))
    by_cases hx : j + 1 = i
    · have := g2 hx
      simp [hji, this]
    · simp [hji, hx]
theorem zl.store2 {ls : Array Slot} {L : List (Option Value)} (h : zl ls L) {i : Nat} (hi : i + 1 < L.length) {v : Value} (hc : v.category = 2) : ∃ ls', storeLocals ls i v = some ls' ∧ zl ls' (zput2 L i v) := by
  obtain ⟨ls', e, h1, h2, h3⟩ := lv_store2 h.hasAll hi hc
  refine ⟨ls', e, h2, by rw [h1]; simp [zput2, zclr_len], fun j w hj => ?_⟩
  unfold zput2 at hj
  by_cases hj2 : j = i + 1
  · subst hj2
    rw [List.getElem?_set_self (by simp [zclr_len]; exact hi)] at hj
    cases hj
  · rw [List.getElem?_set_ne (Ne.symm hj2)] at hj
    by_cases hji : j = i
    · subst hji
      rw [List.getElem?_set_self (by rw [zclr_len]; omega)] at hj
      cases hj
      exact h3 _ List.mem_cons_self
    · rw [List.getElem?_set_ne (Ne.symm hji)] at hj
      obtain ⟨g1, g2⟩ := zclr_get hj
      refine h3 (j, w) (List.mem_cons_of_mem _ (List.mem_filter.mpr ⟨zpairs_mem.mpr g1, ?_⟩))
      by_cases hx : j + 1 = i
      · have := g2 hx
        simp [hji, hj2, this]
      · simp [hji, hj2, hx]
def zargs : List Value → List (Option Value)
  | [] => []
  | .long x :: r => some (.long x) :: none :: zargs r
  | .double x :: r => some (.double x) :: none :: zargs r
  | v :: r => some v :: zargs r
def zinit (av : List Value) (n : Nat) : List (Option Value) := zargs av ++ List.replicate (n - (zargs av).length) none
theorem zargs_len : ∀ av : List Value, (zargs av).length = (lg_sl av).length
  | [] => rfl
  | v :: r => by
    have ih := zargs_len r
    cases v <;> simp [zargs, lg_sl, Value.category] at ih ⊢ <;> omega
theorem zargs_get : ∀ (av : List Value) (i j : Nat) (v : Value), (zargs av)[j]? = some (some v) → (i + j, v) ∈ lv_args i av
  | [], _, _, _, h => by simp [zargs] at h
  | w :: r, i, j, v, h => by
    have two : ∀ x : Value, x.category = 2 → (some x :: none :: zargs r)[j]? = some (some v) → (i + j, v) ∈ lv_args i (x :: r) := by
      intro x hx h
      simp only [lv_args, hx, if_true]
      match j, h with
      | 0, h => simp at h; subst h; exact List.mem_cons_self
      | 1, h => simp at h
      | k + 2, h =>
        have := zargs_get r (i + 2) k v (by simpa using h)
        rw [show i + (k + 2) = i + 2 + k by omega]
        exact List.mem_cons_of_mem _ this
    have one : ∀ x : Value, x.category = 1 → (some x :: zargs r)[j]? = some (some v) → (i + j, v) ∈ lv_args i (x :: r) := by
      intro x hx h
      simp only [lv_args, hx]
      match j, h with
      | 0, h => simp at h; subst h; exact List.mem_cons_self
      | k + 1, h =>
        have := zargs_get r (i + 1) k v (by simpa using h)
        rw [show i + (k + 1) = i + 1 + k by omega]
        exact List.mem_cons_of_mem _ (by simpa using this)
    cases w <;> first | exact two _ rfl h | exact one _ rfl h
theorem zl_entry (av : List Value) {n : Nat} (h : (lg_sl av).length ≤ n) : zl ((lg_sl av ++ List.replicate (n - (lg_sl av).length) Slot.unset).toArray) (zinit av n) ∧ (zinit av n).length = n := by
  obtain ⟨h1, h2, h3⟩ := lv_entry av h
  have hlen : (zinit av n).length = n := by
    unfold zinit
    rw [List.length_append, List.length_replicate, zargs_len]
    omega
  refine ⟨⟨h2, by rw [h1, hlen], fun i v hi => ?_⟩, hlen⟩
  unfold zinit at hi
  by_cases hlt : i < (zargs av).length
  · rw [List.getElem?_append_left hlt] at hi
    have := h3 _ (zargs_get av 0 i v hi)
    rwa [Nat.zero_add] at this
  · rw [List.getElem?_append_right (by omega)] at hi
    have := List.mem_of_getElem? hi
    rw [List.mem_replicate] at this
    exact absurd this.2 (by simp)
/-- the machine around a method's body -/
abbrev ZK : Type := Program × Launch × Env × State × MethodId × Array Value × List Frame × Method × Code
def zQ (cl : List vw_C) (g : ZG) (post : Option Value → ZM → Prop) : Array Value → State → Outcome → State → Prop := fun _ st oc t => (∃ (v : Option Value) (M' : ZM), oc = .returned v ∧ post v M' ∧ zP cl g M' t.heap) ∧ va_F g.2.2.1 st t
def zPre (cl : List vw_C) (tl : List FieldType) (g : ZG) (M : ZM) (U : State) : Prop := zP cl g M U.heap ∧ zK cl tl g U ∧ (∀ q : Nat, U.heap.size ≤ q → g.2.2.1 q) ∧ zE g U U.heap
/-- a contract: from the world M, with these arguments, the method returns, and 'post' holds of its answer and the world behind it -/
def ZC (cl : List vw_C) (tl : List FieldType) (Ts : List Cond) (l : Launch) (g : ZG) (y : MethodName) (cc : ByteArray) (nL : Nat) (ret : Option FieldType) (R : Room) (av : List Value) (M : ZM) (post : Option Value → ZM → Prop) : Prop :=
  Met l y (Cond.code y cc nL ret :: Ts) R (va_Pc av (zPre cl tl g M)) (zQ cl g post) R.cells R.slots g.2.2.1
def ZX (cl : List vw_C) (tl : List FieldType) (Ts : List Cond) (own : String) (cc : ByteArray) (nL : Nat) (ret : Option FieldType) (nm : String) (g : ZG) (k : ZK) : Prop :=
  k.1.tables.exec = Jvm.exec ∧ k.2.2.2.2.2.2.2.2.code = cc ∧ k.2.2.2.2.2.2.2.2.maxLocals = nL ∧ k.2.2.2.1.vm.findClass own = some k.2.2.2.2.1.cls ∧ (∀ w ∈ Ts, w.before k.2.2.2.2.2.1 k.2.2.2.1 = true) ∧
  k.2.2.2.2.2.2.2.1.locks = false ∧ k.2.2.2.2.2.2.2.1.sig.returnType = ret ∧ k.2.2.2.2.2.2.2.1.name = nm ∧ zK cl tl g k.2.2.2.1 ∧ (∀ q : Nat, k.2.2.2.1.heap.size ≤ q → g.2.2.1 q) ∧ zE g k.2.2.2.1 k.2.2.2.1.heap
/-- from here, with these locals, this operand stack and this world, the method comes to its end, and 'post' holds -/
def ZW (cl : List vw_C) (tl : List FieldType) (Ts : List Cond) (own : String) (cc : ByteArray) (nL : Nat) (ret : Option FieldType) (nm : String) (R : Room) (g : ZG) (k : ZK) (post : Option Value → ZM → Prop) (L : List (Option Value)) (pc : Nat) (st : List Value) (M : ZM) (n1 n2 : Nat) : Prop :=
  ZX cl tl Ts own cc nL ret nm g k → ∀ (ls : Array Slot) (H : Heap) (locs : List Loc), zl ls L → L.length = nL → zP cl g M H → va_S g.2.2.1 k.2.2.2.1.heap H locs →
    W k.1 k.2.1 k.2.2.1 R k.2.2.2.1 k.2.2.2.2.1 k.2.2.2.2.2.1 k.2.2.2.2.2.2.1 k.2.2.2.2.2.2.2.1 k.2.2.2.2.2.2.2.2 H locs n1 n2 (MQ k.2.2.2.2.2.2.1 (zQ cl g post) k.2.2.2.2.2.1 k.2.2.2.1 R.cells R.slots g.2.2.1) (F0 k.2.2.2.2.1 pc ls st)
theorem ZC.of {cl : List vw_C} {tl : List FieldType} {Ts : List Cond} {l : Launch} {g : ZG} {y : MethodName} {cc : ByteArray} {nL : Nat} {ret : Option FieldType} {R : Room} {av : List Value} {M : ZM} {post : Option Value → ZM → Prop} {L : List (Option Value)}
    (hy : plainName y.cls = true) (hlen : (lg_sl av).length ≤ nL) (hL : zinit av nL = L) (h : ∀ k : ZK, ZW cl tl Ts y.cls cc nL ret y.name R g k post L 0 [] M 0 0) : ZC cl tl Ts l g y cc nL ret R av M post := by
  refine Met.ofW (cc := cc) (maxL := nL) (ret := ret) hy rfl ?_
  intro p e s m args below meth c s₁ B hml hv
  obtain ⟨rfl, hP, hK, hA, hE⟩ := hv
  have hts := atoms_spec (ws := Cond.code y cc nL ret :: Ts) B.pre
  obtain ⟨hl, hn⟩ := zl_entry av hlen
  rw [lg_entry_eq]
  subst hL
  exact h (p, l, e, s, m, av.toArray, below, meth, c) ⟨B.exec, B.bytes, hml, findClass_of_methodNamed B.named, fun w hw => hts w (List.mem_cons_of_mem _ hw), B.notSynchronized, B.returns, (name_of_methodNamed B.named B.method).1, hK, hA, hE⟩ _ _ _ hl hn hP va_S.rf

section ZR
variable {cl : List vw_C} {tl : List FieldType} {Ts : List Cond} {own : String} {cc : ByteArray} {nL : Nat} {ret : Option FieldType} {nm : String} {R : Room} {g : ZG} {k : ZK} {post : Option Value → ZM → Prop} {L L' : List (Option Value)} {pc : Nat} {st : List Value} {M : ZM} {n1 n2 : Nat}
theorem z_iconst {n : Int} {v : Int32} (hd : decode cc pc = .ok (.iconst n, 1)) (hv : Int32.ofInt n = v) (h : ZW cl tl Ts own cc nL ret nm R g k post L (pc + 1) (.int v :: st) M n1 n2) : ZW cl tl Ts own cc nL ret nm R g k post L pc (st) M n1 n2 :=
  fun X ls H locs hl hL hP hS => lv_iconst X.1 X.2.1 hd hv (h X ls H locs hl hL hP hS)
theorem z_bipush {n : Int} {v : Int32} (hd : decode cc pc = .ok (.bipush n, 2)) (hv : (Int8.ofInt n).toInt32 = v) (h : ZW cl tl Ts own cc nL ret nm R g k post L (pc + 2) (.int v :: st) M n1 n2) : ZW cl tl Ts own cc nL ret nm R g k post L pc (st) M n1 n2 :=
  fun X ls H locs hl hL hP hS => lv_bipush X.1 X.2.1 hd hv (h X ls H locs hl hL hP hS)
theorem z_sipush {n : Int} {v : Int32} (hd : decode cc pc = .ok (.sipush n, 3)) (hv : (Int16.ofInt n).toInt32 = v) (h : ZW cl tl Ts own cc nL ret nm R g k post L (pc + 3) (.int v :: st) M n1 n2) : ZW cl tl Ts own cc nL ret nm R g k post L pc (st) M n1 n2 :=
  fun X ls H locs hl hL hP hS => lv_sipush X.1 X.2.1 hd hv (h X ls H locs hl hL hP hS)
theorem z_lconst {n : Fin 2} {v : Int64} (hd : decode cc pc = .ok (.lconst n, 1)) (hv : Int64.ofNat (n : Nat) = v) (h : ZW cl tl Ts own cc nL ret nm R g k post L (pc + 1) (.long v :: st) M n1 n2) : ZW cl tl Ts own cc nL ret nm R g k post L pc (st) M n1 n2 :=
  fun X ls H locs hl hL hP hS => lv_lconst X.1 X.2.1 hd hv (h X ls H locs hl hL hP hS)
theorem z_iload_n {i : Fin 4} {x : Int32} (hd : decode cc pc = .ok (.iload_n i, 1)) (hx : L[(i : Nat)]? = some (some (.int x))) (h : ZW cl tl Ts own cc nL ret nm R g k post L (pc + 1) (.int x :: st) M n1 n2) : ZW cl tl Ts own cc nL ret nm R g k post L pc (st) M n1 n2 :=
  fun X ls H locs hl hL hP hS => lv_iload_n X.1 X.2.1 hd rfl (hl.2.2 _ _ hx) (h X ls H locs hl hL hP hS)
theorem z_iload {i : Nat} {x : Int32} (hd : decode cc pc = .ok (.iload i, 2)) (hx : L[i]? = some (some (.int x))) (h : ZW cl tl Ts own cc nL ret nm R g k post L (pc + 2) (.int x :: st) M n1 n2) : ZW cl tl Ts own cc nL ret nm R g k post L pc (st) M n1 n2 :=
  fun X ls H locs hl hL hP hS => lv_iload X.1 X.2.1 hd (hl.2.2 _ _ hx) (h X ls H locs hl hL hP hS)
theorem z_lload_n {i : Fin 4} {x : Int64} (hd : decode cc pc = .ok (.lload_n i, 1)) (hx : L[(i : Nat)]? = some (some (.long x))) (h : ZW cl tl Ts own cc nL ret nm R g k post L (pc + 1) (.long x :: st) M n1 n2) : ZW cl tl Ts own cc nL ret nm R g k post L pc (st) M n1 n2 :=
  fun X ls H locs hl hL hP hS => lv_lload_n X.1 X.2.1 hd rfl (hl.2.2 _ _ hx) (h X ls H locs hl hL hP hS)
theorem z_lload {i : Nat} {x : Int64} (hd : decode cc pc = .ok (.lload i, 2)) (hx : L[i]? = some (some (.long x))) (h : ZW cl tl Ts own cc nL ret nm R g k post L (pc + 2) (.long x :: st) M n1 n2) : ZW cl tl Ts own cc nL ret nm R g k post L pc (st) M n1 n2 :=
  fun X ls H locs hl hL hP hS => lv_lload X.1 X.2.1 hd (hl.2.2 _ _ hx) (h X ls H locs hl hL hP hS)
theorem z_aload_n {i : Fin 4} {x : Nat} (hd : decode cc pc = .ok (.aload_n i, 1)) (hx : L[(i : Nat)]? = some (some (.ref x))) (h : ZW cl tl Ts own cc nL ret nm R g k post L (pc + 1) (.ref x :: st) M n1 n2) : ZW cl tl Ts own cc nL ret nm R g k post L pc (st) M n1 n2 :=
  fun X ls H locs hl hL hP hS => lv_aload_n X.1 X.2.1 hd rfl (hl.2.2 _ _ hx) (h X ls H locs hl hL hP hS)
theorem z_aload {i : Nat} {x : Nat} (hd : decode cc pc = .ok (.aload i, 2)) (hx : L[i]? = some (some (.ref x))) (h : ZW cl tl Ts own cc nL ret nm R g k post L (pc + 2) (.ref x :: st) M n1 n2) : ZW cl tl Ts own cc nL ret nm R g k post L pc (st) M n1 n2 :=
  fun X ls H locs hl hL hP hS => lv_aload X.1 X.2.1 hd (hl.2.2 _ _ hx) (h X ls H locs hl hL hP hS)
theorem z_aload_nN {i : Fin 4} (hd : decode cc pc = .ok (.aload_n i, 1)) (hx : L[(i : Nat)]? = some (some .null)) (h : ZW cl tl Ts own cc nL ret nm R g k post L (pc + 1) (.null :: st) M n1 n2) : ZW cl tl Ts own cc nL ret nm R g k post L pc (st) M n1 n2 :=
  fun X ls H locs hl hL hP hS => lv_aload_nN X.1 X.2.1 hd rfl (hl.2.2 _ _ hx) (h X ls H locs hl hL hP hS)
theorem z_aloadN {i : Nat} (hd : decode cc pc = .ok (.aload i, 2)) (hx : L[i]? = some (some .null)) (h : ZW cl tl Ts own cc nL ret nm R g k post L (pc + 2) (.null :: st) M n1 n2) : ZW cl tl Ts own cc nL ret nm R g k post L pc (st) M n1 n2 :=
  fun X ls H locs hl hL hP hS => lv_aloadN X.1 X.2.1 hd (hl.2.2 _ _ hx) (h X ls H locs hl hL hP hS)
theorem z_storeW {v : Value} {i len : Nat} {m : MethodId} {c : Code} {p : Program} {l : Launch} {e : Env} {s : State} {args : Array Value} {below : List Frame} {meth : Method} {H : Heap} {locs : List Loc} {Q : State → Prop} {ls ls' : Array Slot} (e' : storeLocals ls i v = some ls') (hst : ∀ T : State, Stand p l e R s m args below meth c T locs n1 n2 → ∀ t, Steps p.tables e below (T.setTop (F0 m (pc + len) ls' st)) t → Steps p.tables e below (T.setTop (F0 m pc ls (v :: st))) t) (h : W p l e R s m args below meth c H locs n1 n2 Q (F0 m (pc + len) ls' st)) : W p l e R s m args below meth c H locs n1 n2 Q (F0 m pc ls (v :: st)) := by
  intro T hT X
  obtain ⟨t, a, b⟩ := h T hT X
  exact ⟨t, hst T X t a, b⟩
theorem z_istore_n {j : Fin 4} {i : Nat} {x : Int32} (hd : decode cc pc = .ok (.istore_n j, 1)) (hj : (j : Nat) = i) (hi : i < nL) (hL' : zput1 L i (.int x) = L') (h : ZW cl tl Ts own cc nL ret nm R g k post L' (pc + 1) st M n1 n2) : ZW cl tl Ts own cc nL ret nm R g k post L pc (.int x :: st) M n1 n2 := by
  intro X ls H locs hl hL hP hS
  subst hj
  obtain ⟨ls', e', h'⟩ := zl.store1 (v := .int x) hl (by rw [hL]; exact hi) rfl
  refine z_storeW e' (fun T Y t a => ?_) (h X ls' H locs (hL' ▸ h') (by rw [← hL']; simp [zput1, zclr_len, hL]) hP hS)
  have hx := X.1
  have hb := X.2.1
  jvm_step Y.here [Y.here.top, ↓top_set Y.here.top, hx, hb, hd, e']
  exact a
theorem z_istore {i : Nat} {x : Int32} (hd : decode cc pc = .ok (.istore i, 2)) (hi : i < nL) (hL' : zput1 L i (.int x) = L') (h : ZW cl tl Ts own cc nL ret nm R g k post L' (pc + 2) st M n1 n2) : ZW cl tl Ts own cc nL ret nm R g k post L pc (.int x :: st) M n1 n2 := by
  intro X ls H locs hl hL hP hS
  obtain ⟨ls', e', h'⟩ := zl.store1 (v := .int x) hl (by rw [hL]; exact hi) rfl
  refine z_storeW e' (fun T Y t a => ?_) (h X ls' H locs (hL' ▸ h') (by rw [← hL']; simp [zput1, zclr_len, hL]) hP hS)
  have hx := X.1
  have hb := X.2.1
  jvm_step Y.here [Y.here.top, ↓top_set Y.here.top, hx, hb, hd, e']
  exact a
theorem z_lstore_n {j : Fin 4} {i : Nat} {x : Int64} (hd : decode cc pc = .ok (.lstore_n j, 1)) (hj : (j : Nat) = i) (hi : i + 1 < nL) (hL' : zput2 L i (.long x) = L') (h : ZW cl tl Ts own cc nL ret nm R g k post L' (pc + 1) st M n1 n2) : ZW cl tl Ts own cc nL ret nm R g k post L pc (.long x :: st) M n1 n2 := by
  intro X ls H locs hl hL hP hS
  subst hj
  obtain ⟨ls', e', h'⟩ := zl.store2 (v := .long x) hl (by rw [hL]; exact hi) rfl
  refine z_storeW e' (fun T Y t a => ?_) (h X ls' H locs (hL' ▸ h') (by rw [← hL']; simp [zput2, zclr_len, hL]) hP hS)
  have hx := X.1
  have hb := X.2.1
  jvm_step Y.here [Y.here.top, ↓top_set Y.here.top, hx, hb, hd, e']
  exact a
theorem z_lstore {i : Nat} {x : Int64} (hd : decode cc pc = .ok (.lstore i, 2)) (hi : i + 1 < nL) (hL' : zput2 L i (.long x) = L') (h : ZW cl tl Ts own cc nL ret nm R g k post L' (pc + 2) st M n1 n2) : ZW cl tl Ts own cc nL ret nm R g k post L pc (.long x :: st) M n1 n2 := by
  intro X ls H locs hl hL hP hS
  obtain ⟨ls', e', h'⟩ := zl.store2 (v := .long x) hl (by rw [hL]; exact hi) rfl
  refine z_storeW e' (fun T Y t a => ?_) (h X ls' H locs (hL' ▸ h') (by rw [← hL']; simp [zput2, zclr_len, hL]) hP hS)
  have hx := X.1
  have hb := X.2.1
  jvm_step Y.here [Y.here.top, ↓top_set Y.here.top, hx, hb, hd, e']
  exact a
theorem z_astore_n {j : Fin 4} {i : Nat} {x : Nat} (hd : decode cc pc = .ok (.astore_n j, 1)) (hj : (j : Nat) = i) (hi : i < nL) (hL' : zput1 L i (.ref x) = L') (h : ZW cl tl Ts own cc nL ret nm R g k post L' (pc + 1) st M n1 n2) : ZW cl tl Ts own cc nL ret nm R g k post L pc (.ref x :: st) M n1 n2 := by
  intro X ls H locs hl hL hP hS
  subst hj
  obtain ⟨ls', e', h'⟩ := zl.store1 (v := .ref x) hl (by rw [hL]; exact hi) rfl
  refine z_storeW e' (fun T Y t a => ?_) (h X ls' H locs (hL' ▸ h') (by rw [← hL']; simp [zput1, zclr_len, hL]) hP hS)
  have hx := X.1
  have hb := X.2.1
  jvm_step Y.here [Y.here.top, ↓top_set Y.here.top, hx, hb, hd, e', Value.isRef]
  exact a
theorem z_astore {i : Nat} {x : Nat} (hd : decode cc pc = .ok (.astore i, 2)) (hi : i < nL) (hL' : zput1 L i (.ref x) = L') (h : ZW cl tl Ts own cc nL ret nm R g k post L' (pc + 2) st M n1 n2) : ZW cl tl Ts own cc nL ret nm R g k post L pc (.ref x :: st) M n1 n2 := by
  intro X ls H locs hl hL hP hS
  obtain ⟨ls', e', h'⟩ := zl.store1 (v := .ref x) hl (by rw [hL]; exact hi) rfl
  refine z_storeW e' (fun T Y t a => ?_) (h X ls' H locs (hL' ▸ h') (by rw [← hL']; simp [zput1, zclr_len, hL]) hP hS)
  have hx := X.1
  have hb := X.2.1
  jvm_step Y.here [Y.here.top, ↓top_set Y.here.top, hx, hb, hd, e', Value.isRef]
  exact a
theorem z_astore_nN {j : Fin 4} {i : Nat} (hd : decode cc pc = .ok (.astore_n j, 1)) (hj : (j : Nat) = i) (hi : i < nL) (hL' : zput1 L i (.null) = L') (h : ZW cl tl Ts own cc nL ret nm R g k post L' (pc + 1) st M n1 n2) : ZW cl tl Ts own cc nL ret nm R g k post L pc (.null :: st) M n1 n2 := by
  intro X ls H locs hl hL hP hS
  subst hj
  obtain ⟨ls', e', h'⟩ := zl.store1 (v := .null) hl (by rw [hL]; exact hi) rfl
  refine z_storeW e' (fun T Y t a => ?_) (h X ls' H locs (hL' ▸ h') (by rw [← hL']; simp [zput1, zclr_len, hL]) hP hS)
  have hx := X.1
  have hb := X.2.1
  jvm_step Y.here [Y.here.top, ↓top_set Y.here.top, hx, hb, hd, e', Value.isRef]
  exact a
theorem z_astoreN {i : Nat} (hd : decode cc pc = .ok (.astore i, 2)) (hi : i < nL) (hL' : zput1 L i (.null) = L') (h : ZW cl tl Ts own cc nL ret nm R g k post L' (pc + 2) st M n1 n2) : ZW cl tl Ts own cc nL ret nm R g k post L pc (.null :: st) M n1 n2 := by
  intro X ls H locs hl hL hP hS
  obtain ⟨ls', e', h'⟩ := zl.store1 (v := .null) hl (by rw [hL]; exact hi) rfl
  refine z_storeW e' (fun T Y t a => ?_) (h X ls' H locs (hL' ▸ h') (by rw [← hL']; simp [zput1, zclr_len, hL]) hP hS)
  have hx := X.1
  have hb := X.2.1
  jvm_step Y.here [Y.here.top, ↓top_set Y.here.top, hx, hb, hd, e', Value.isRef]
  exact a
theorem z_iinc {i : Nat} {n : Int} {x v : Int32} (hd : decode cc pc = .ok (.iinc i n, 3)) (hx : L[i]? = some (some (.int x))) (hv : x + Int32.ofInt n = v) (hi : i < nL) (hL' : zput1 L i (.int v) = L') (h : ZW cl tl Ts own cc nL ret nm R g k post L' (pc + 3) st M n1 n2) : ZW cl tl Ts own cc nL ret nm R g k post L pc st M n1 n2 := by
  intro X ls H locs hl hL hP hS
  obtain ⟨ls', e', h'⟩ := zl.store1 (v := .int v) hl (by rw [hL]; exact hi) rfl
  have hg := hl.2.2 _ _ hx
  have K := h X ls' H locs (hL' ▸ h') (by rw [← hL']; simp [zput1, zclr_len, hL]) hP hS
  subst hv
  have hx := X.1
  have hb := X.2.1
  intro T hT Y
  obtain ⟨t, a, b⟩ := K T hT Y
  refine ⟨t, ?_, b⟩
  jvm_step Y.here [Y.here.top, ↓top_set Y.here.top, hx, hb, hd, hg, e']
  exact a
theorem z_iadd {x y : Int32} (hd : decode cc pc = .ok (.iadd, 1)) (h : ZW cl tl Ts own cc nL ret nm R g k post L (pc + 1) (.int (x + y) :: st) M n1 n2) : ZW cl tl Ts own cc nL ret nm R g k post L pc (.int y :: .int x :: st) M n1 n2 :=
  fun X ls H locs hl hL hP hS => lv_iadd X.1 X.2.1 hd (h X ls H locs hl hL hP hS)
theorem z_isub {x y : Int32} (hd : decode cc pc = .ok (.isub, 1)) (h : ZW cl tl Ts own cc nL ret nm R g k post L (pc + 1) (.int (x - y) :: st) M n1 n2) : ZW cl tl Ts own cc nL ret nm R g k post L pc (.int y :: .int x :: st) M n1 n2 :=
  fun X ls H locs hl hL hP hS => lv_isub X.1 X.2.1 hd (h X ls H locs hl hL hP hS)
theorem z_imul {x y : Int32} (hd : decode cc pc = .ok (.imul, 1)) (h : ZW cl tl Ts own cc nL ret nm R g k post L (pc + 1) (.int (x * y) :: st) M n1 n2) : ZW cl tl Ts own cc nL ret nm R g k post L pc (.int y :: .int x :: st) M n1 n2 :=
  fun X ls H locs hl hL hP hS => lv_imul X.1 X.2.1 hd (h X ls H locs hl hL hP hS)
theorem z_iand {x y : Int32} (hd : decode cc pc = .ok (.iand, 1)) (h : ZW cl tl Ts own cc nL ret nm R g k post L (pc + 1) (.int (x &&& y) :: st) M n1 n2) : ZW cl tl Ts own cc nL ret nm R g k post L pc (.int y :: .int x :: st) M n1 n2 :=
  fun X ls H locs hl hL hP hS => lv_iand X.1 X.2.1 hd (h X ls H locs hl hL hP hS)
theorem z_ior {x y : Int32} (hd : decode cc pc = .ok (.ior, 1)) (h : ZW cl tl Ts own cc nL ret nm R g k post L (pc + 1) (.int (x ||| y) :: st) M n1 n2) : ZW cl tl Ts own cc nL ret nm R g k post L pc (.int y :: .int x :: st) M n1 n2 :=
  fun X ls H locs hl hL hP hS => lv_ior X.1 X.2.1 hd (h X ls H locs hl hL hP hS)
theorem z_ixor {x y : Int32} (hd : decode cc pc = .ok (.ixor, 1)) (h : ZW cl tl Ts own cc nL ret nm R g k post L (pc + 1) (.int (x ^^^ y) :: st) M n1 n2) : ZW cl tl Ts own cc nL ret nm R g k post L pc (.int y :: .int x :: st) M n1 n2 :=
  fun X ls H locs hl hL hP hS => lv_ixor X.1 X.2.1 hd (h X ls H locs hl hL hP hS)
theorem z_ishl {x y : Int32} (hd : decode cc pc = .ok (.ishl, 1)) (h : ZW cl tl Ts own cc nL ret nm R g k post L (pc + 1) (.int (x <<< (y &&& 31)) :: st) M n1 n2) : ZW cl tl Ts own cc nL ret nm R g k post L pc (.int y :: .int x :: st) M n1 n2 :=
  fun X ls H locs hl hL hP hS => lv_ishl X.1 X.2.1 hd (h X ls H locs hl hL hP hS)
theorem z_ishr {x y : Int32} (hd : decode cc pc = .ok (.ishr, 1)) (h : ZW cl tl Ts own cc nL ret nm R g k post L (pc + 1) (.int (x >>> (y &&& 31)) :: st) M n1 n2) : ZW cl tl Ts own cc nL ret nm R g k post L pc (.int y :: .int x :: st) M n1 n2 :=
  fun X ls H locs hl hL hP hS => lv_ishr X.1 X.2.1 hd (h X ls H locs hl hL hP hS)
theorem z_ladd {x y : Int64} (hd : decode cc pc = .ok (.ladd, 1)) (h : ZW cl tl Ts own cc nL ret nm R g k post L (pc + 1) (.long (x + y) :: st) M n1 n2) : ZW cl tl Ts own cc nL ret nm R g k post L pc (.long y :: .long x :: st) M n1 n2 :=
  fun X ls H locs hl hL hP hS => lv_ladd X.1 X.2.1 hd (h X ls H locs hl hL hP hS)
theorem z_lsub {x y : Int64} (hd : decode cc pc = .ok (.lsub, 1)) (h : ZW cl tl Ts own cc nL ret nm R g k post L (pc + 1) (.long (x - y) :: st) M n1 n2) : ZW cl tl Ts own cc nL ret nm R g k post L pc (.long y :: .long x :: st) M n1 n2 :=
  fun X ls H locs hl hL hP hS => lv_lsub X.1 X.2.1 hd (h X ls H locs hl hL hP hS)
theorem z_lmul {x y : Int64} (hd : decode cc pc = .ok (.lmul, 1)) (h : ZW cl tl Ts own cc nL ret nm R g k post L (pc + 1) (.long (x * y) :: st) M n1 n2) : ZW cl tl Ts own cc nL ret nm R g k post L pc (.long y :: .long x :: st) M n1 n2 :=
  fun X ls H locs hl hL hP hS => lv_lmul X.1 X.2.1 hd (h X ls H locs hl hL hP hS)
theorem z_land {x y : Int64} (hd : decode cc pc = .ok (.land, 1)) (h : ZW cl tl Ts own cc nL ret nm R g k post L (pc + 1) (.long (x &&& y) :: st) M n1 n2) : ZW cl tl Ts own cc nL ret nm R g k post L pc (.long y :: .long x :: st) M n1 n2 :=
  fun X ls H locs hl hL hP hS => lv_land X.1 X.2.1 hd (h X ls H locs hl hL hP hS)
theorem z_lor {x y : Int64} (hd : decode cc pc = .ok (.lor, 1)) (h : ZW cl tl Ts own cc nL ret nm R g k post L (pc + 1) (.long (x ||| y) :: st) M n1 n2) : ZW cl tl Ts own cc nL ret nm R g k post L pc (.long y :: .long x :: st) M n1 n2 :=
  fun X ls H locs hl hL hP hS => lv_lor X.1 X.2.1 hd (h X ls H locs hl hL hP hS)
theorem z_lxor {x y : Int64} (hd : decode cc pc = .ok (.lxor, 1)) (h : ZW cl tl Ts own cc nL ret nm R g k post L (pc + 1) (.long (x ^^^ y) :: st) M n1 n2) : ZW cl tl Ts own cc nL ret nm R g k post L pc (.long y :: .long x :: st) M n1 n2 :=
  fun X ls H locs hl hL hP hS => lv_lxor X.1 X.2.1 hd (h X ls H locs hl hL hP hS)
theorem z_ineg {x : Int32} (hd : decode cc pc = .ok (.ineg, 1)) (h : ZW cl tl Ts own cc nL ret nm R g k post L (pc + 1) (.int (-x) :: st) M n1 n2) : ZW cl tl Ts own cc nL ret nm R g k post L pc (.int x :: st) M n1 n2 :=
  fun X ls H locs hl hL hP hS => lv_ineg X.1 X.2.1 hd (h X ls H locs hl hL hP hS)
theorem z_i2l {x : Int32} {v : Int64} (hd : decode cc pc = .ok (.i2l, 1)) (hv : x.toInt64 = v) (h : ZW cl tl Ts own cc nL ret nm R g k post L (pc + 1) (.long v :: st) M n1 n2) : ZW cl tl Ts own cc nL ret nm R g k post L pc (.int x :: st) M n1 n2 :=
  fun X ls H locs hl hL hP hS => lv_i2l X.1 X.2.1 hd hv (h X ls H locs hl hL hP hS)
theorem z_l2i {x : Int64} {v : Int32} (hd : decode cc pc = .ok (.l2i, 1)) (hv : x.toInt32 = v) (h : ZW cl tl Ts own cc nL ret nm R g k post L (pc + 1) (.int v :: st) M n1 n2) : ZW cl tl Ts own cc nL ret nm R g k post L pc (.long x :: st) M n1 n2 :=
  fun X ls H locs hl hL hP hS => lv_l2i X.1 X.2.1 hd hv (h X ls H locs hl hL hP hS)
theorem z_lshl {x v : Int64} {y : Int32} (hd : decode cc pc = .ok (.lshl, 1)) (hv : x <<< (y.toInt64 &&& 63) = v) (h : ZW cl tl Ts own cc nL ret nm R g k post L (pc + 1) (.long v :: st) M n1 n2) : ZW cl tl Ts own cc nL ret nm R g k post L pc (.int y :: .long x :: st) M n1 n2 :=
  fun X ls H locs hl hL hP hS => lv_lshl X.1 X.2.1 hd hv (h X ls H locs hl hL hP hS)
theorem z_lcmp {x y : Int64} (hd : decode cc pc = .ok (.lcmp, 1)) (h : ZW cl tl Ts own cc nL ret nm R g k post L (pc + 1) (.int (lg_cmp x y) :: st) M n1 n2) : ZW cl tl Ts own cc nL ret nm R g k post L pc (.long y :: .long x :: st) M n1 n2 :=
  fun X ls H locs hl hL hP hS => W.lcmp X.1 X.2.1 hd (h X ls H locs hl hL hP hS)
theorem z_dup {a : Value} (hd : decode cc pc = .ok (.dup, 1)) (ha : a.category = 1) (h : ZW cl tl Ts own cc nL ret nm R g k post L (pc + 1) (a :: a :: st) M n1 n2) : ZW cl tl Ts own cc nL ret nm R g k post L pc (a :: st) M n1 n2 :=
  fun X ls H locs hl hL hP hS => lv_dup X.1 X.2.1 hd ha (h X ls H locs hl hL hP hS)
theorem z_pop {a : Value} (hd : decode cc pc = .ok (.pop, 1)) (ha : a.category = 1) (h : ZW cl tl Ts own cc nL ret nm R g k post L (pc + 1) (st) M n1 n2) : ZW cl tl Ts own cc nL ret nm R g k post L pc (a :: st) M n1 n2 :=
  fun X ls H locs hl hL hP hS => lv_pop X.1 X.2.1 hd ha (h X ls H locs hl hL hP hS)
theorem z_dup_x1 {a b : Value} (hd : decode cc pc = .ok (.dup_x1, 1)) (ha : a.category = 1) (hb : b.category = 1) (h : ZW cl tl Ts own cc nL ret nm R g k post L (pc + 1) (a :: b :: a :: st) M n1 n2) : ZW cl tl Ts own cc nL ret nm R g k post L pc (a :: b :: st) M n1 n2 :=
  fun X ls H locs hl hL hP hS => lv_dup_x1 X.1 X.2.1 hd ha hb (h X ls H locs hl hL hP hS)
theorem z_dup_x2 {a b d : Value} (hd : decode cc pc = .ok (.dup_x2, 1)) (ha : a.category = 1) (hb : b.category = 1) (hc : d.category = 1) (h : ZW cl tl Ts own cc nL ret nm R g k post L (pc + 1) (a :: b :: d :: a :: st) M n1 n2) : ZW cl tl Ts own cc nL ret nm R g k post L pc (a :: b :: d :: st) M n1 n2 :=
  fun X ls H locs hl hL hP hS => lv_dup_x2 X.1 X.2.1 hd ha hb hc (h X ls H locs hl hL hP hS)
theorem z_dup2_11 {a b : Value} (hd : decode cc pc = .ok (.dup2, 1)) (ha : a.category = 1) (hb : b.category = 1) (h : ZW cl tl Ts own cc nL ret nm R g k post L (pc + 1) (a :: b :: a :: b :: st) M n1 n2) : ZW cl tl Ts own cc nL ret nm R g k post L pc (a :: b :: st) M n1 n2 :=
  fun X ls H locs hl hL hP hS => lv_dup2_11 X.1 X.2.1 hd ha hb (h X ls H locs hl hL hP hS)
theorem z_dup2_2 {a : Value} (hd : decode cc pc = .ok (.dup2, 1)) (ha : a.category = 2) (h : ZW cl tl Ts own cc nL ret nm R g k post L (pc + 1) (a :: a :: st) M n1 n2) : ZW cl tl Ts own cc nL ret nm R g k post L pc (a :: st) M n1 n2 :=
  fun X ls H locs hl hL hP hS => lv_dup2_2 X.1 X.2.1 hd ha (h X ls H locs hl hL hP hS)
theorem z_pop2_2 {a : Value} (hd : decode cc pc = .ok (.pop2, 1)) (ha : a.category = 2) (h : ZW cl tl Ts own cc nL ret nm R g k post L (pc + 1) (st) M n1 n2) : ZW cl tl Ts own cc nL ret nm R g k post L pc (a :: st) M n1 n2 :=
  fun X ls H locs hl hL hP hS => lv_pop2_2 X.1 X.2.1 hd ha (h X ls H locs hl hL hP hS)
theorem z_dup2_x1_2 {a b : Value} (hd : decode cc pc = .ok (.dup2_x1, 1)) (ha : a.category = 2) (hb : b.category = 1) (h : ZW cl tl Ts own cc nL ret nm R g k post L (pc + 1) (a :: b :: a :: st) M n1 n2) : ZW cl tl Ts own cc nL ret nm R g k post L pc (a :: b :: st) M n1 n2 :=
  fun X ls H locs hl hL hP hS => lv_dup2_x1_2 X.1 X.2.1 hd ha hb (h X ls H locs hl hL hP hS)
theorem z_null (hd : decode cc pc = .ok (.aconst_null, 1)) (h : ZW cl tl Ts own cc nL ret nm R g k post L (pc + 1) (.null :: st) M n1 n2) : ZW cl tl Ts own cc nL ret nm R g k post L pc (st) M n1 n2 :=
  fun X ls H locs hl hL hP hS => lv_null X.1 X.2.1 hd (h X ls H locs hl hL hP hS)
theorem z_if_eq {x : Int32} {off : Int} {tgt : Nat} (hd : decode cc pc = .ok (.ifCond .eq off, 3)) (ht : (pc : Int) + off = (tgt : Int)) (h1 : x = 0 → ZW cl tl Ts own cc nL ret nm R g k post L tgt st M n1 n2) (h2 : ¬ x = 0 → ZW cl tl Ts own cc nL ret nm R g k post L (pc + 3) st M n1 n2) : ZW cl tl Ts own cc nL ret nm R g k post L pc (.int x :: st) M n1 n2 :=
  fun X ls H locs hl hL hP hS => lv_if_eq X.1 X.2.1 hd ht (fun q => h1 q X ls H locs hl hL hP hS) (fun q => h2 q X ls H locs hl hL hP hS)
theorem z_icmp_eq {x y : Int32} {off : Int} {tgt : Nat} (hd : decode cc pc = .ok (.if_icmp .eq off, 3)) (ht : (pc : Int) + off = (tgt : Int)) (h1 : x = y → ZW cl tl Ts own cc nL ret nm R g k post L tgt st M n1 n2) (h2 : ¬ x = y → ZW cl tl Ts own cc nL ret nm R g k post L (pc + 3) st M n1 n2) : ZW cl tl Ts own cc nL ret nm R g k post L pc (.int y :: .int x :: st) M n1 n2 :=
  fun X ls H locs hl hL hP hS => lv_icmp_eq X.1 X.2.1 hd ht (fun q => h1 q X ls H locs hl hL hP hS) (fun q => h2 q X ls H locs hl hL hP hS)
theorem z_if_ne {x : Int32} {off : Int} {tgt : Nat} (hd : decode cc pc = .ok (.ifCond .ne off, 3)) (ht : (pc : Int) + off = (tgt : Int)) (h1 : ¬ x = 0 → ZW cl tl Ts own cc nL ret nm R g k post L tgt st M n1 n2) (h2 : x = 0 → ZW cl tl Ts own cc nL ret nm R g k post L (pc + 3) st M n1 n2) : ZW cl tl Ts own cc nL ret nm R g k post L pc (.int x :: st) M n1 n2 :=
  fun X ls H locs hl hL hP hS => lv_if_ne X.1 X.2.1 hd ht (fun q => h1 q X ls H locs hl hL hP hS) (fun q => h2 q X ls H locs hl hL hP hS)
theorem z_icmp_ne {x y : Int32} {off : Int} {tgt : Nat} (hd : decode cc pc = .ok (.if_icmp .ne off, 3)) (ht : (pc : Int) + off = (tgt : Int)) (h1 : ¬ x = y → ZW cl tl Ts own cc nL ret nm R g k post L tgt st M n1 n2) (h2 : x = y → ZW cl tl Ts own cc nL ret nm R g k post L (pc + 3) st M n1 n2) : ZW cl tl Ts own cc nL ret nm R g k post L pc (.int y :: .int x :: st) M n1 n2 :=
  fun X ls H locs hl hL hP hS => lv_icmp_ne X.1 X.2.1 hd ht (fun q => h1 q X ls H locs hl hL hP hS) (fun q => h2 q X ls H locs hl hL hP hS)
theorem z_if_lt {x : Int32} {off : Int} {tgt : Nat} (hd : decode cc pc = .ok (.ifCond .lt off, 3)) (ht : (pc : Int) + off = (tgt : Int)) (h1 : x < 0 → ZW cl tl Ts own cc nL ret nm R g k post L tgt st M n1 n2) (h2 : ¬ x < 0 → ZW cl tl Ts own cc nL ret nm R g k post L (pc + 3) st M n1 n2) : ZW cl tl Ts own cc nL ret nm R g k post L pc (.int x :: st) M n1 n2 :=
  fun X ls H locs hl hL hP hS => lv_if_lt X.1 X.2.1 hd ht (fun q => h1 q X ls H locs hl hL hP hS) (fun q => h2 q X ls H locs hl hL hP hS)
theorem z_icmp_lt {x y : Int32} {off : Int} {tgt : Nat} (hd : decode cc pc = .ok (.if_icmp .lt off, 3)) (ht : (pc : Int) + off = (tgt : Int)) (h1 : x < y → ZW cl tl Ts own cc nL ret nm R g k post L tgt st M n1 n2) (h2 : ¬ x < y → ZW cl tl Ts own cc nL ret nm R g k post L (pc + 3) st M n1 n2) : ZW cl tl Ts own cc nL ret nm R g k post L pc (.int y :: .int x :: st) M n1 n2 :=
  fun X ls H locs hl hL hP hS => lv_icmp_lt X.1 X.2.1 hd ht (fun q => h1 q X ls H locs hl hL hP hS) (fun q => h2 q X ls H locs hl hL hP hS)
theorem z_if_ge {x : Int32} {off : Int} {tgt : Nat} (hd : decode cc pc = .ok (.ifCond .ge off, 3)) (ht : (pc : Int) + off = (tgt : Int)) (h1 : 0 ≤ x → ZW cl tl Ts own cc nL ret nm R g k post L tgt st M n1 n2) (h2 : ¬ 0 ≤ x → ZW cl tl Ts own cc nL ret nm R g k post L (pc + 3) st M n1 n2) : ZW cl tl Ts own cc nL ret nm R g k post L pc (.int x :: st) M n1 n2 :=
  fun X ls H locs hl hL hP hS => lv_if_ge X.1 X.2.1 hd ht (fun q => h1 q X ls H locs hl hL hP hS) (fun q => h2 q X ls H locs hl hL hP hS)
theorem z_icmp_ge {x y : Int32} {off : Int} {tgt : Nat} (hd : decode cc pc = .ok (.if_icmp .ge off, 3)) (ht : (pc : Int) + off = (tgt : Int)) (h1 : y ≤ x → ZW cl tl Ts own cc nL ret nm R g k post L tgt st M n1 n2) (h2 : ¬ y ≤ x → ZW cl tl Ts own cc nL ret nm R g k post L (pc + 3) st M n1 n2) : ZW cl tl Ts own cc nL ret nm R g k post L pc (.int y :: .int x :: st) M n1 n2 :=
  fun X ls H locs hl hL hP hS => lv_icmp_ge X.1 X.2.1 hd ht (fun q => h1 q X ls H locs hl hL hP hS) (fun q => h2 q X ls H locs hl hL hP hS)
theorem z_if_gt {x : Int32} {off : Int} {tgt : Nat} (hd : decode cc pc = .ok (.ifCond .gt off, 3)) (ht : (pc : Int) + off = (tgt : Int)) (h1 : 0 < x → ZW cl tl Ts own cc nL ret nm R g k post L tgt st M n1 n2) (h2 : ¬ 0 < x → ZW cl tl Ts own cc nL ret nm R g k post L (pc + 3) st M n1 n2) : ZW cl tl Ts own cc nL ret nm R g k post L pc (.int x :: st) M n1 n2 :=
  fun X ls H locs hl hL hP hS => lv_if_gt X.1 X.2.1 hd ht (fun q => h1 q X ls H locs hl hL hP hS) (fun q => h2 q X ls H locs hl hL hP hS)
theorem z_icmp_gt {x y : Int32} {off : Int} {tgt : Nat} (hd : decode cc pc = .ok (.if_icmp .gt off, 3)) (ht : (pc : Int) + off = (tgt : Int)) (h1 : y < x → ZW cl tl Ts own cc nL ret nm R g k post L tgt st M n1 n2) (h2 : ¬ y < x → ZW cl tl Ts own cc nL ret nm R g k post L (pc + 3) st M n1 n2) : ZW cl tl Ts own cc nL ret nm R g k post L pc (.int y :: .int x :: st) M n1 n2 :=
  fun X ls H locs hl hL hP hS => lv_icmp_gt X.1 X.2.1 hd ht (fun q => h1 q X ls H locs hl hL hP hS) (fun q => h2 q X ls H locs hl hL hP hS)
theorem z_if_le {x : Int32} {off : Int} {tgt : Nat} (hd : decode cc pc = .ok (.ifCond .le off, 3)) (ht : (pc : Int) + off = (tgt : Int)) (h1 : x ≤ 0 → ZW cl tl Ts own cc nL ret nm R g k post L tgt st M n1 n2) (h2 : ¬ x ≤ 0 → ZW cl tl Ts own cc nL ret nm R g k post L (pc + 3) st M n1 n2) : ZW cl tl Ts own cc nL ret nm R g k post L pc (.int x :: st) M n1 n2 :=
  fun X ls H locs hl hL hP hS => lv_if_le X.1 X.2.1 hd ht (fun q => h1 q X ls H locs hl hL hP hS) (fun q => h2 q X ls H locs hl hL hP hS)
theorem z_icmp_le {x y : Int32} {off : Int} {tgt : Nat} (hd : decode cc pc = .ok (.if_icmp .le off, 3)) (ht : (pc : Int) + off = (tgt : Int)) (h1 : x ≤ y → ZW cl tl Ts own cc nL ret nm R g k post L tgt st M n1 n2) (h2 : ¬ x ≤ y → ZW cl tl Ts own cc nL ret nm R g k post L (pc + 3) st M n1 n2) : ZW cl tl Ts own cc nL ret nm R g k post L pc (.int y :: .int x :: st) M n1 n2 :=
  fun X ls H locs hl hL hP hS => lv_icmp_le X.1 X.2.1 hd ht (fun q => h1 q X ls H locs hl hL hP hS) (fun q => h2 q X ls H locs hl hL hP hS)
theorem z_goto {off : Int} {tgt : Nat} (hd : decode cc pc = .ok (.goto off, 3)) (ht : (pc : Int) + off = (tgt : Int)) (h : ZW cl tl Ts own cc nL ret nm R g k post L tgt st M n1 n2) : ZW cl tl Ts own cc nL ret nm R g k post L pc st M n1 n2 :=
  fun X ls H locs hl hL hP hS => lv_goto X.1 X.2.1 hd ht (h X ls H locs hl hL hP hS)
theorem z_ifnull {x : Nat} {off : Int} (hd : decode cc pc = .ok (.ifnull off, 3)) (h : ZW cl tl Ts own cc nL ret nm R g k post L (pc + 3) st M n1 n2) : ZW cl tl Ts own cc nL ret nm R g k post L pc (.ref x :: st) M n1 n2 :=
  fun X ls H locs hl hL hP hS => lv_ifnull X.1 X.2.1 hd (h X ls H locs hl hL hP hS)
theorem z_ifnullN {off : Int} {tgt : Nat} (hd : decode cc pc = .ok (.ifnull off, 3)) (ht : (pc : Int) + off = (tgt : Int)) (h : ZW cl tl Ts own cc nL ret nm R g k post L tgt st M n1 n2) : ZW cl tl Ts own cc nL ret nm R g k post L pc (.null :: st) M n1 n2 :=
  fun X ls H locs hl hL hP hS => lv_ifnullN X.1 X.2.1 hd ht (h X ls H locs hl hL hP hS)
theorem z_ifnonnull {x : Nat} {off : Int} {tgt : Nat} (hd : decode cc pc = .ok (.ifnonnull off, 3)) (ht : (pc : Int) + off = (tgt : Int)) (h : ZW cl tl Ts own cc nL ret nm R g k post L tgt st M n1 n2) : ZW cl tl Ts own cc nL ret nm R g k post L pc (.ref x :: st) M n1 n2 :=
  fun X ls H locs hl hL hP hS => lv_ifnonnull X.1 X.2.1 hd ht (h X ls H locs hl hL hP hS)
theorem z_ifnonnullN {off : Int} (hd : decode cc pc = .ok (.ifnonnull off, 3)) (h : ZW cl tl Ts own cc nL ret nm R g k post L (pc + 3) st M n1 n2) : ZW cl tl Ts own cc nL ret nm R g k post L pc (.null :: st) M n1 n2 :=
  fun X ls H locs hl hL hP hS => lv_ifnonnullN X.1 X.2.1 hd (h X ls H locs hl hL hP hS)
theorem z_acmp_eq {x y : Option Nat} {off : Int} {tgt : Nat} (hd : decode cc pc = .ok (.if_acmp .eq off, 3)) (ht : (pc : Int) + off = (tgt : Int)) (h1 : x = y → ZW cl tl Ts own cc nL ret nm R g k post L tgt st M n1 n2) (h2 : ¬ x = y → ZW cl tl Ts own cc nL ret nm R g k post L (pc + 3) st M n1 n2) : ZW cl tl Ts own cc nL ret nm R g k post L pc (va_rf y :: va_rf x :: st) M n1 n2 :=
  fun X ls H locs hl hL hP hS => lv_acmp_eq X.1 X.2.1 hd ht (fun q => h1 q X ls H locs hl hL hP hS) (fun q => h2 q X ls H locs hl hL hP hS)
theorem z_acmp_ne {x y : Option Nat} {off : Int} {tgt : Nat} (hd : decode cc pc = .ok (.if_acmp .ne off, 3)) (ht : (pc : Int) + off = (tgt : Int)) (h1 : ¬ x = y → ZW cl tl Ts own cc nL ret nm R g k post L tgt st M n1 n2) (h2 : x = y → ZW cl tl Ts own cc nL ret nm R g k post L (pc + 3) st M n1 n2) : ZW cl tl Ts own cc nL ret nm R g k post L pc (va_rf y :: va_rf x :: st) M n1 n2 :=
  fun X ls H locs hl hL hP hS => lv_acmp_ne X.1 X.2.1 hd ht (fun q => h1 q X ls H locs hl hL hP hS) (fun q => h2 q X ls H locs hl hL hP hS)
theorem z_widen {k1 k2 : Nat} (h1 : n1 ≤ k1) (h2 : n2 ≤ k2) (h : ZW cl tl Ts own cc nL ret nm R g k post L pc st M k1 k2) : ZW cl tl Ts own cc nL ret nm R g k post L pc st M n1 n2 :=
  fun X ls H locs hl hL hP hS => W.widen h1 h2 (h X ls H locs hl hL hP hS)
theorem z_ret {v : Option Value} {H : Heap} {locs : List Loc} (hP : zP cl g M H) (hS : va_S g.2.2.1 k.2.2.2.1.heap H locs) (hp : post v M) : ∀ t : State, t.heap = H → k.2.2.2.1.WarmedH t.vm → zQ cl g post k.2.2.2.2.2.1 k.2.2.2.1 (.returned v) t :=
  fun t ht _ => ⟨⟨v, M, rfl, hp, by rw [ht]; exact hP⟩, hS.F ht⟩
theorem z_ireturn {v : Int32} (hd : decode cc pc = .ok (.ireturn, 1)) (hr : ret = some .int) (hp : post (some (.int v)) M) (h1 : n1 ≤ R.cells) (h2 : n2 ≤ R.slots) : ZW cl tl Ts own cc nL ret nm R g k post L pc [.int v] M n1 n2 :=
  fun X ls H locs hl hL hP hS => W.widen h1 h2 (W.iret X.1 X.2.1 (X.2.2.2.2.2.2.1.trans hr) (z_ret hP hS hp) hS.2.2 hd X.2.2.2.2.2.1)
theorem z_zreturn {v : Int32} {ty : FieldType} (hd : decode cc pc = .ok (.ireturn, 1)) (hr : ret = some ty) (hn : narrow ty (.int v) = .int v) (hp : post (some (.int v)) M) (h1 : n1 ≤ R.cells) (h2 : n2 ≤ R.slots) : ZW cl tl Ts own cc nL ret nm R g k post L pc [.int v] M n1 n2 :=
  fun X ls H locs hl hL hP hS => W.widen h1 h2 (W.zret X.1 X.2.1 (X.2.2.2.2.2.2.1.trans hr) hn (z_ret hP hS hp) hS.2.2 hd X.2.2.2.2.2.1)
theorem z_lreturn {v : Int64} (hd : decode cc pc = .ok (.lreturn, 1)) (hr : ret = some .long) (hp : post (some (.long v)) M) (h1 : n1 ≤ R.cells) (h2 : n2 ≤ R.slots) : ZW cl tl Ts own cc nL ret nm R g k post L pc [.long v] M n1 n2 :=
  fun X ls H locs hl hL hP hS => W.widen h1 h2 (W.lret X.1 X.2.1 (X.2.2.2.2.2.2.1.trans hr) (z_ret hP hS hp) hS.2.2 hd X.2.2.2.2.2.1)
theorem z_return (hd : decode cc pc = .ok (.return_, 1)) (hr : ret = none) (hp : post none M) (h1 : n1 ≤ R.cells) (h2 : n2 ≤ R.slots) : ZW cl tl Ts own cc nL ret nm R g k post L pc [] M n1 n2 :=
  fun X ls H locs hl hL hP hS => W.widen h1 h2 (W.vret X.1 X.2.1 (X.2.2.2.2.2.2.1.trans hr) (z_ret hP hS hp) hS.2.2 hd X.2.2.2.2.2.1)
theorem z_areturn {v : Value} {rt : FieldType} (hd : decode cc pc = .ok (.areturn, 1)) (hr : ret = some rt) (hrt : (∃ n, rt = .object n) ∨ ∃ t, rt = .array t) (hv : v = .null ∨ ∃ a, v = .ref a) (hp : post (some v) M) (h1 : n1 ≤ R.cells) (h2 : n2 ≤ R.slots) : ZW cl tl Ts own cc nL ret nm R g k post L pc [v] M n1 n2 :=
  fun X ls H locs hl hL hP hS => W.widen h1 h2 (W.aret X.1 X.2.1 (X.2.2.2.2.2.2.1.trans hr) hrt hv (z_ret hP hS hp) hS.2.2 hd X.2.2.2.2.2.1)
end ZR
end
section
def ZF (cl : List vw_C) (Ts : List Cond) (own : String) (ix ci i : Nat) : Prop := ∃ (C : String) (T : u_T) (N : Nat) (ref : String), cl[ci]? = some (C, T, N) ∧ i < N ∧ (∀ w ∈ u_ws C T N, w ∈ Ts) ∧ Cond.fieldLink own ix ref (T i).2.1 (T i).2.2.1 ∈ Ts ∧ (ref = (T i).1 ∨ Cond.sameField ref (T i).1 (T i).2.1 (T i).2.2.1 ∈ Ts)
def ZL (T : u_T) (N : Nat) (ty0 : Nat → FieldType) : Prop := (∀ k, k < N → parseFieldDescriptor (T k).2.2.1 = some (ty0 k)) ∧ ∀ a, a < N → ∀ b, b < N → a ≠ b → (T a).2.1 ≠ (T b).2.1
def ZFp (cl : List vw_C) (Ts : List Cond) (own : String) (ix ci i : Nat) (fin : Bool) (ty : FieldType) : Prop := ∃ (C : String) (T : u_T) (N : Nat) (ref : String) (ty0 : Nat → FieldType), cl[ci]? = some (C, T, N) ∧ i < N ∧ (∀ w ∈ u_ws C T N, w ∈ Ts) ∧ Cond.fieldLink own ix ref (T i).2.1 (T i).2.2.1 ∈ Ts ∧ (ref = (T i).1 ∨ Cond.sameField ref (T i).1 (T i).2.1 (T i).2.2.1 ∈ Ts) ∧ ZL T N ty0 ∧ (T i).2.2.2 = fin ∧ ty0 i = ty ∧ (fin = true → (T i).1 = own)
theorem zsame {Ts : List Cond} {s : State} {args : Array Value} {ref o n d : String} (hts : ∀ w ∈ Ts, w.before args s = true) (h : ref = o ∨ Cond.sameField ref o n d ∈ Ts) (x : ClassId × Class × Nat × Field) (hx : s.fieldFound? o n d = some x) : s.fieldFound? ref n d = some x := by
  rcases h with rfl | h
  · exact hx
  · exact u_same (hts _ h) x hx
section ZH
variable {cl : List vw_C} {tl : List FieldType} {Ts : List Cond} {own : String} {cc : ByteArray} {nL : Nat} {ret : Option FieldType} {nm : String} {R : Room} {g : ZG} {k : ZK} {post : Option Value → ZM → Prop} {L L' : List (Option Value)} {pc : Nat} {st : List Value} {M : ZM} {n1 n2 : Nat}
theorem ZX.va_K {cl : List vw_C} {tl : List FieldType} {Ts : List Cond} {own : String} {cc : ByteArray} {nL : Nat} {ret : Option FieldType} {nm : String} {g : ZG} {k : ZK} (X : ZX cl tl Ts own cc nL ret nm g k) : va_K g.1 cl [] k.2.2.2.1 := ⟨X.2.2.2.2.2.2.2.2.1.1, fun k q h => by simp at h⟩
theorem z_get {a ix ci i : Nat} {fs : List Value} {v : Value} (hd : decode cc pc = .ok (.getfield ix, 3)) (hf : ZF cl Ts own ix ci i) (hM : M a = some (.inr (ci, fs))) (hv : fs[i]? = some v) (h : ZW cl tl Ts own cc nL ret nm R g k post L (pc + 3) (v :: st) M n1 n2) : ZW cl tl Ts own cc nL ret nm R g k post L pc (.ref a :: st) M n1 n2 := by
  intro X ls H locs hl hL hP hS
  obtain ⟨C, T, N, ref, hc, hi, hin, hlk, hsm⟩ := hf
  have hts := X.2.2.2.2.1
  obtain ⟨r, h1, h2, cell, q1, q2, q3, q4⟩ := hP.1 a _ hM
  have hr : r = (C, T, N) := Option.some.inj (h1.symm.trans hc)
  subst hr
  obtain ⟨hS', hfc, kC, hkC, hkind⟩ := X.va_K.1 ci _ hc
  obtain ⟨cf, kf, fi, f, hi', hsl⟩ := hS' i hi
  refine W.getf X.1 X.2.1 X.2.2.2.1 (hts _ hlk) (zsame hts hsm _ hi') (u_facts hfc hkC (u_lays hts hin hi) hi').1 q1 (by rw [q3]; exact fun h => by cases h) (v := v) ?_ rfl rfl hd (h X ls H locs hl hL hP hS)
  rw [hsl, q4 i hi]
  simp [vp_V, hv]
theorem z_put {a ix ci i : Nat} {fs : List Value} {v : Value} {ty : FieldType} (hd : decode cc pc = .ok (.putfield ix, 3)) (hf : ZFp cl Ts own ix ci i false ty) (hM : M a = some (.inr (ci, fs))) (hn : narrow ty v = v) (hfit : fits ty v = true) (h : ZW cl tl Ts own cc nL ret nm R g k post L (pc + 3) st (zset M a (.inr (ci, fs.set i v))) n1 n2) : ZW cl tl Ts own cc nL ret nm R g k post L pc (v :: .ref a :: st) M n1 n2 := by
  intro X ls H locs hl hL hP hS
  obtain ⟨C, T, N, ref, ty0, hc, hi, hin, hlk, hsm, ⟨hty, hnm⟩, hfin, hti, -⟩ := hf
  have hts := X.2.2.2.2.1
  have hap := va_apart (own := own) hts hin ty0 hty hnm X.va_K hc
  obtain ⟨hz, hA⟩ := hP.obj hM
  obtain ⟨r, h1, h2, cell, q1, q2, q3, q4⟩ := hP.1 a _ hM
  have hr : r = (C, T, N) := Option.some.inj (h1.symm.trans hc)
  subst hr
  obtain ⟨hS', hfc, kC, hkC, hkind⟩ := X.va_K.1 ci _ hc
  obtain ⟨cf, kf, fi, f, hi', hsl⟩ := hS' i hi
  have hlay := hts _ (hin _ (u_in_lay hi))
  unfold u_lay at hlay
  rw [if_neg (by rw [hfin]; decide)] at hlay
  have hst := (u_facts hfc hkC (u_lays hts hin hi) hi').1
  have h6 := u_store hfc hkC hkind hlay hi' (by rw [hty i hi, hti]) hn hfit
  refine W.putK X.1 X.2.1 (f := f) ⟨X.2.2.2.1, hts _ hlk, ⟨_, _, _, zsame hts hsm _ hi'⟩, hst⟩ (by rw [q2]; exact h6) q1 q3 (by rw [hsl]; exact k2_hasslot (q4 i hi)) rfl rfl hd fun H' e1 e2 e3 => ?_
  rw [hsl] at e1 ⊢
  have hil : i < fs.length := by simp at h2; omega
  exact h X ls H' _ hl hL (hP.set hz hA ⟨_, hc, by simpa using h2, t_OB.to (V := updV (vp_V fs) i v) ⟨_, e1, q2, q3, t_set q4 hap hi v⟩ (fun j _ => vp_updV_set hil v j)⟩ (fun q hq _ => e3 q hq)) (hS.put e2 e3 hA)
theorem z_putF {a ix ci i : Nat} {fs : List Value} {v : Value} {ty : FieldType} (hd : decode cc pc = .ok (.putfield ix, 3)) (hf : ZFp cl Ts own ix ci i true ty) (hnm2 : nm = "<init>") (hM : M a = some (.inr (ci, fs))) (hn : narrow ty v = v) (hfit : fits ty v = true) (h : ZW cl tl Ts own cc nL ret nm R g k post L (pc + 3) st (zset M a (.inr (ci, fs.set i v))) n1 n2) : ZW cl tl Ts own cc nL ret nm R g k post L pc (v :: .ref a :: st) M n1 n2 := by
  intro X ls H locs hl hL hP hS
  obtain ⟨C, T, N, ref, ty0, hc, hi, hin, hlk, hsm, ⟨hty, hnm⟩, hfin, hti, hdecl⟩ := hf
  have hts := X.2.2.2.2.1
  have hap := va_apart (own := own) hts hin ty0 hty hnm X.va_K hc
  obtain ⟨hz, hA⟩ := hP.obj hM
  obtain ⟨r, h1, h2, cell, q1, q2, q3, q4⟩ := hP.1 a _ hM
  have hr : r = (C, T, N) := Option.some.inj (h1.symm.trans hc)
  subst hr
  obtain ⟨hS', hfc, kC, hkC, hkind⟩ := X.va_K.1 ci _ hc
  obtain ⟨cf, kf, fi, f, hi', hsl⟩ := hS' i hi
  have hlay := hts _ (hin _ (u_in_lay hi))
  unfold u_lay at hlay
  rw [if_pos hfin] at hlay
  have hst := (u_facts hfc hkC (u_lays hts hin hi) hi').1
  have hcf : k.2.2.2.2.1.cls = cf := by
    obtain ⟨_, _, c', _, _, _, -, -, hf', -, -, -, hown2, -⟩ := Cond.laysFinal_spec hlay
    have e1 : c' = cf := by have := hi'.symm.trans hf'; simp at this; exact this.1.symm
    rw [hdecl rfl] at hown2
    rw [← e1]; exact Option.some.inj (X.2.2.2.1.symm.trans hown2)
  have h6 := u_fits hfc hkC hkind (Or.inr hlay) hi' (by rw [hty i hi, hti]) hn hfit
  refine W.putFinK X.1 X.2.1 X.2.2.2.1 (hts _ hlk) (zsame hts hsm _ hi') hst hcf (X.2.2.2.2.2.2.2.1.trans hnm2) (by rw [q2]; exact h6) q1 q3 (by rw [hsl]; exact k2_hasslot (q4 i hi)) rfl rfl hd fun H' e1 e2 e3 => ?_
  rw [hsl] at e1 ⊢
  have hil : i < fs.length := by simp at h2; omega
  exact h X ls H' _ hl hL (hP.set hz hA ⟨_, hc, by simpa using h2, t_OB.to (V := updV (vp_V fs) i v) ⟨_, e1, q2, q3, t_set q4 hap hi v⟩ (fun j _ => vp_updV_set hil v j)⟩ (fun q hq _ => e3 q hq)) (hS.put e2 e3 hA)
theorem zS_push {A : Nat → Prop} {H0 H H1 : Heap} {locs : List Loc} (hS : va_S A H0 H locs) (z1 : H1.size = H.size + 1) (o1 : ∀ q : Nat, q < H.size → H1[q]? = H[q]?) : va_S A H0 H1 locs :=
  ⟨Nat.le_trans hS.1 (by omega), fun x h1 h2 => (o1 x (Nat.lt_of_lt_of_le h1 hS.1)).trans (hS.2.1 x h1 h2), hS.2.2⟩
theorem zP.push {cl : List vw_C} {g : ZG} {M : ZM} {H H1 : Heap} (hP : zP cl g M H) {e : ZE} (hA : g.2.2.1 H.size) (o1 : ∀ q : Nat, q < H.size → H1[q]? = H[q]?) (he : zat cl g H.size e H1) : zP cl g (zset M H.size e) H1 :=
  hP.set (fun q => by have := hP.lt hP.2.2; omega) hA he (fun q _ hm => by
    cases hq : M q with
    | none => exact absurd hq hm
    | some e => exact o1 q (hP.lt hq))
def ZN (cl : List vw_C) (Ts : List Cond) (own : String) (ix ci : Nat) (fs : List Value) : Prop := ∃ (C : String) (T : u_T) (N : Nat) (ty0 : Nat → FieldType), cl[ci]? = some (C, T, N) ∧ (∀ w ∈ u_ws C T N, w ∈ Ts) ∧ ZL T N ty0 ∧ Cond.classLink own ix C ∈ Ts ∧ Cond.instantiable C N ∈ Ts ∧ Cond.initialized C ∈ Ts ∧ fs.length = N ∧ ∀ j, j < N → defaultValue (ty0 j) = vp_V fs j
theorem z_new {ix ci : Nat} {fs : List Value} (hd : decode cc pc = .ok (.new ix, 3)) (hf : ZN cl Ts own ix ci fs) (hc1 : n1 + 1 ≤ R.cells) (hc2 : n2 + fs.length ≤ R.slots) (h : ∀ q : Nat, M q = none → ZW cl tl Ts own cc nL ret nm R g k post L (pc + 3) (.ref q :: st) (zset M q (.inr (ci, fs))) (n1 + 1) (n2 + fs.length)) : ZW cl tl Ts own cc nL ret nm R g k post L pc st M n1 n2 := by
  intro X ls H locs hl hL hP hS
  obtain ⟨C, T, N, ty0, hc, hin, ⟨hty, hnm⟩, hlk, hins, hini, hlen, hfs⟩ := hf
  subst hlen
  have hts := X.2.2.2.2.1
  have hKn := X.va_K.1 ci _ hc
  refine W.newcK X.1 X.2.1 X.2.2.2.1 (hts _ hlk) (hts _ hins) (hts _ hini) rfl hd hc1 hc2 hKn.2.1 rfl fun H1 kC hkC e1 z1 o1 => ?_
  exact h H.size (hP.fresh (Nat.le_refl _)) X ls H1 locs hl hL (hP.push (X.2.2.2.2.2.2.2.2.2.1 _ hS.1) o1 ⟨_, hc, rfl, (u_born ty0 hts hin hKn hkC e1 hty).to hfs⟩) (zS_push hS z1 o1)
theorem z_newarr {t N : Nat} {at0 : ArrayType} {ty : FieldType} {n : Int32} (hd : decode cc pc = .ok (.newarray at0, 2)) (hty : newarray.typeOf at0 = ty) (hw : Cond.arrayClass ty ∈ Ts) (ht : tl[t]? = some ty) (hra : ∀ (U : State) (c : ClassId), va_RA U c ty → U.vm.findClass ("[" ++ ty.toString) = some c) (hn : n = nI N) (hN : N < 2 ^ 27) (hc1 : n1 + 1 ≤ R.cells) (hc2 : n2 + N ≤ R.slots) (hb : componentBytes ty ≤ 4) (h : ∀ q : Nat, M q = none → ZW cl tl Ts own cc nL ret nm R g k post L (pc + 2) (.ref q :: st) (zset M q (.inl (t, List.replicate N (defaultValue ty)))) (n1 + 1) (n2 + N)) : ZW cl tl Ts own cc nL ret nm R g k post L pc (.int n :: st) M n1 n2 := by
  intro X ls H locs hl hL hP hS
  subst hty
  subst hn
  have hts := X.2.2.2.2.1
  obtain ⟨r1, r2⟩ := X.2.2.2.2.2.2.2.2.1.2.1 t _ ht
  have hbb : N * componentBytes (newarray.typeOf at0) ≤ 536870912 := Nat.le_trans (Nat.mul_le_mul (Nat.le_of_lt hN) hb) (by decide)
  refine va_newaK X.1 X.2.1 (hts _ hw) rfl hd rfl (nI_pos (by omega)) (nI_clamp (by omega)) hbb hc1 hc2 rfl fun H1 cA e1 z1 o1 hAr hNm => ?_
  have hcA : cA = g.2.1 t := Option.some.inj (hNm.symm.trans (hra _ _ r2))
  subst hcA
  refine h H.size (hP.fresh (Nat.le_refl _)) X ls H1 locs hl hL (hP.push (X.2.2.2.2.2.2.2.2.2.1 _ hS.1) o1 ?_) (zS_push hS z1 o1)
  show H1[H.size]? = some (zarr _ _)
  rw [e1, ← arrV_new]
  simp [zarr]
theorem z_anew {t N ix : Nat} {C : String} {n : Int32} (hd : decode cc pc = .ok (.anewarray ix, 3)) (hlk : Cond.classLink own ix C ∈ Ts) (hov : C ∈ zOv) (ht : tl[t]? = some (.object C)) (hn : n = nI N) (hN : N < 2 ^ 27) (hc1 : n1 + 1 ≤ R.cells) (hc2 : n2 + N ≤ R.slots) (h : ∀ q : Nat, M q = none → ZW cl tl Ts own cc nL ret nm R g k post L (pc + 3) (.ref q :: st) (zset M q (.inl (t, List.replicate N .null))) (n1 + 1) (n2 + N)) : ZW cl tl Ts own cc nL ret nm R g k post L pc (.int n :: st) M n1 n2 := by
  intro X ls H locs hl hL hP hS
  subst hn
  have hts := X.2.2.2.2.1
  obtain ⟨r1, kA', comp', r2, r3, r4, r5⟩ := X.2.2.2.2.2.2.2.2.1.2.1 t _ ht
  have hcl : (nI N).toNatClampNeg = N := nI_clamp (by omega)
  refine W.anew X.1 X.2.1 X.2.2.2.1 (hts _ hlk) (va_AO.use (X.2.2.2.2.2.2.2.2.1.2.2.1 C hov)) rfl hd rfl (nI_pos (by omega)) (by rw [hcl]; omega) hc1 (by rw [hcl]; exact hc2) fun cA kA comp f1 f2 f3 f4 => ?_
  have hcA : cA = g.2.1 t := Option.some.inj (f1.symm.trans r5)
  subst hcA
  rw [hcl]
  generalize hH1 : H.push ({ cls := g.2.1 t, slots := Array.replicate N .null, vm := .none } : Cell) = H1
  have z1 : H1.size = H.size + 1 := by rw [← hH1, Array.size_push]
  have o1 : ∀ q : Nat, q < H.size → H1[q]? = H[q]? := fun q hq => by rw [← hH1, Array.getElem?_push, if_neg (Nat.ne_of_lt hq)]
  refine h H.size (hP.fresh (Nat.le_refl _)) X ls H1 locs hl hL (hP.push (X.2.2.2.2.2.2.2.2.2.1 _ hS.1) o1 ?_) (zS_push hS z1 o1)
  show H1[H.size]? = some (zarr _ _)
  rw [← hH1, Array.getElem?_push_size]
  simp [zarr]
theorem z_alen {a t : Nat} {vs : List Value} {ty : FieldType} (hd : decode cc pc = .ok (.arraylength, 1)) (hM : M a = some (.inl (t, vs))) (ht : tl[t]? = some ty) (h : ZW cl tl Ts own cc nL ret nm R g k post L (pc + 1) (.int (nI vs.length) :: st) M n1 n2) : ZW cl tl Ts own cc nL ret nm R g k post L pc (.ref a :: st) M n1 n2 := by
  intro X ls H locs hl hL hP hS
  exact W.alen (n := nI vs.length) X.1 X.2.1 (hP.1 a _ hM) (zarr_of (X.2.2.2.2.2.2.2.2.1.2.1 t _ ht).1 vs) (by simp [zarr, nI]) rfl rfl hd (h X ls H locs hl hL hP hS)
theorem zin {c : ClassId} {vs : List Value} {j : Nat} {v : Value} (hj : j < 2 ^ 31) (hv : vs[j]? = some v) : ¬ (nI j < 0 ∨ (zarr c vs).slots.size ≤ (nI j).toNatClampNeg) ∧ (zarr c vs).slots[(nI j).toNatClampNeg]? = some v := by
  have hlt := (List.getElem?_eq_some_iff.mp hv).1
  rw [nI_clamp hj]
  refine ⟨fun q => ?_, by simpa [zarr] using hv⟩
  rcases q with q | q
  · exact nI_pos hj q
  · simp [zarr] at q; omega
theorem z_iald {a t j : Nat} {vs : List Value} {v : Value} (hd : decode cc pc = .ok (.iaload, 1)) (hM : M a = some (.inl (t, vs))) (ht : tl[t]? = some .int) (hj : j < 2 ^ 31) (hv : vs[j]? = some v) (h : ZW cl tl Ts own cc nL ret nm R g k post L (pc + 1) (v :: st) M n1 n2) : ZW cl tl Ts own cc nL ret nm R g k post L pc (.int (nI j) :: .ref a :: st) M n1 n2 := by
  intro X ls H locs hl hL hP hS
  obtain ⟨q1, q2⟩ := zin (c := g.2.1 t) hj hv
  exact W.iald (v := v) X.1 X.2.1 (hP.1 a _ hM) (zarr_of (X.2.2.2.2.2.2.2.2.1.2.1 t _ ht).1 vs) (fun q => by cases q) q1 q2 rfl rfl hd (h X ls H locs hl hL hP hS)
theorem z_lald {a t j : Nat} {vs : List Value} {v : Value} (hd : decode cc pc = .ok (.laload, 1)) (hM : M a = some (.inl (t, vs))) (ht : tl[t]? = some .long) (hj : j < 2 ^ 31) (hv : vs[j]? = some v) (h : ZW cl tl Ts own cc nL ret nm R g k post L (pc + 1) (v :: st) M n1 n2) : ZW cl tl Ts own cc nL ret nm R g k post L pc (.int (nI j) :: .ref a :: st) M n1 n2 := by
  intro X ls H locs hl hL hP hS
  obtain ⟨q1, q2⟩ := zin (c := g.2.1 t) hj hv
  exact W.lald (v := v) X.1 X.2.1 (hP.1 a _ hM) (zarr_of (X.2.2.2.2.2.2.2.2.1.2.1 t _ ht).1 vs) (fun q => by cases q) q1 q2 rfl rfl hd (h X ls H locs hl hL hP hS)
theorem z_zald {a t j : Nat} {vs : List Value} {v : Value} (hd : decode cc pc = .ok (.baload, 1)) (hM : M a = some (.inl (t, vs))) (ht : tl[t]? = some .boolean) (hj : j < 2 ^ 31) (hv : vs[j]? = some v) (h : ZW cl tl Ts own cc nL ret nm R g k post L (pc + 1) (v :: st) M n1 n2) : ZW cl tl Ts own cc nL ret nm R g k post L pc (.int (nI j) :: .ref a :: st) M n1 n2 := by
  intro X ls H locs hl hL hP hS
  obtain ⟨q1, q2⟩ := zin (c := g.2.1 t) hj hv
  exact W.zald (v := v) X.1 X.2.1 (hP.1 a _ hM) (zarr_of (X.2.2.2.2.2.2.2.2.1.2.1 t _ ht).1 vs) (fun q => by cases q) q1 q2 rfl rfl hd (h X ls H locs hl hL hP hS)
theorem z_bald {a t j : Nat} {vs : List Value} {v : Value} (hd : decode cc pc = .ok (.baload, 1)) (hM : M a = some (.inl (t, vs))) (ht : tl[t]? = some .byte) (hj : j < 2 ^ 31) (hv : vs[j]? = some v) (h : ZW cl tl Ts own cc nL ret nm R g k post L (pc + 1) (v :: st) M n1 n2) : ZW cl tl Ts own cc nL ret nm R g k post L pc (.int (nI j) :: .ref a :: st) M n1 n2 := by
  intro X ls H locs hl hL hP hS
  obtain ⟨q1, q2⟩ := zin (c := g.2.1 t) hj hv
  exact W.bald (v := v) X.1 X.2.1 (hP.1 a _ hM) (zarr_of (X.2.2.2.2.2.2.2.2.1.2.1 t _ ht).1 vs) (fun q => by cases q) q1 q2 rfl rfl hd (h X ls H locs hl hL hP hS)
theorem z_aald {a t j : Nat} {vs : List Value} {v : Value} {ty : FieldType} (hd : decode cc pc = .ok (.aaload, 1)) (hM : M a = some (.inl (t, vs))) (ht : tl[t]? = some ty) (hty : ty.isReference = true) (hj : j < 2 ^ 31) (hv : vs[j]? = some v) (h : ZW cl tl Ts own cc nL ret nm R g k post L (pc + 1) (v :: st) M n1 n2) : ZW cl tl Ts own cc nL ret nm R g k post L pc (.int (nI j) :: .ref a :: st) M n1 n2 := by
  intro X ls H locs hl hL hP hS
  obtain ⟨q1, q2⟩ := zin (c := g.2.1 t) hj hv
  exact W.aald (v := v) X.1 X.2.1 (hP.1 a _ hM) (zarr_of (X.2.2.2.2.2.2.2.2.1.2.1 t _ ht).1 vs) hty (fun q => by cases q) q1 q2 rfl rfl hd (h X ls H locs hl hL hP hS)
theorem zP.setA {cl : List vw_C} {g : ZG} {M : ZM} {H H' : Heap} {a t j : Nat} {vs : List Value} {x : Value} (hP : zP cl g M H) (hM : M a = some (.inl (t, vs))) (hlt : j < vs.length) (hj : j < 2 ^ 31) (e1 : H'[a]? = some ((zarr (g.2.1 t) vs).setSlot (nI j).toNatClampNeg x)) (e3 : ∀ q, q ≠ a → H'[q]? = H[q]?) : zP cl g (zset M a (.inl (t, vs.set j x))) H' := by
  obtain ⟨hz, hA⟩ := hP.arr hM hlt
  refine hP.set hz hA ?_ (fun q hq _ => e3 q hq)
  show H'[a]? = some (zarr _ _)
  rw [e1, nI_clamp hj, zarr_set]
theorem zinb {c : ClassId} {vs : List Value} {j : Nat} (hj : j < 2 ^ 31) (hlt : j < vs.length) : ¬ (nI j < 0 ∨ (zarr c vs).slots.size ≤ (nI j).toNatClampNeg) := (zin hj (List.getElem?_eq_getElem hlt)).1
theorem z_iast {a t j : Nat} {vs : List Value} {x : Int32} (hd : decode cc pc = .ok (.iastore, 1)) (hM : M a = some (.inl (t, vs))) (ht : tl[t]? = some .int) (hj : j < 2 ^ 31) (hlt : j < vs.length) (h : ZW cl tl Ts own cc nL ret nm R g k post L (pc + 1) st (zset M a (.inl (t, vs.set j (.int x)))) n1 n2) : ZW cl tl Ts own cc nL ret nm R g k post L pc (.int x :: .int (nI j) :: .ref a :: st) M n1 n2 := by
  intro X ls H locs hl hL hP hS
  exact W.iast X.1 X.2.1 (hP.1 a _ hM) (zarr_of (X.2.2.2.2.2.2.2.2.1.2.1 t _ ht).1 vs) (fun q => by cases q) (zinb hj hlt) rfl rfl hd fun H' e1 e2 e3 => h X ls H' _ hl hL (hP.setA hM hlt hj e1 e3) (hS.put e2 e3 (hP.arr hM hlt).2)
theorem z_last {a t j : Nat} {vs : List Value} {x : Int64} (hd : decode cc pc = .ok (.lastore, 1)) (hM : M a = some (.inl (t, vs))) (ht : tl[t]? = some .long) (hj : j < 2 ^ 31) (hlt : j < vs.length) (h : ZW cl tl Ts own cc nL ret nm R g k post L (pc + 1) st (zset M a (.inl (t, vs.set j (.long x)))) n1 n2) : ZW cl tl Ts own cc nL ret nm R g k post L pc (.long x :: .int (nI j) :: .ref a :: st) M n1 n2 := by
  intro X ls H locs hl hL hP hS
  exact W.last X.1 X.2.1 (hP.1 a _ hM) (zarr_of (X.2.2.2.2.2.2.2.2.1.2.1 t _ ht).1 vs) (fun q => by cases q) (zinb hj hlt) rfl rfl hd fun H' e1 e2 e3 => h X ls H' _ hl hL (hP.setA hM hlt hj e1 e3) (hS.put e2 e3 (hP.arr hM hlt).2)
theorem z_aast {a t j v ci : Nat} {vs fs : List Value} {C : String} {r : vw_C} (hd : decode cc pc = .ok (.aastore, 1)) (hM : M a = some (.inl (t, vs))) (ht : tl[t]? = some (.object C)) (hj : j < 2 ^ 31) (hlt : j < vs.length) (hv : M v = some (.inr (ci, fs))) (hc : cl[ci]? = some r) (hca : r.1 = C ∨ (r.1, C) ∈ zCa) (h : ZW cl tl Ts own cc nL ret nm R g k post L (pc + 1) st (zset M a (.inl (t, vs.set j (.ref v)))) n1 n2) : ZW cl tl Ts own cc nL ret nm R g k post L pc (.ref v :: .int (nI j) :: .ref a :: st) M n1 n2 := by
  intro X ls H locs hl hL hP hS
  obtain ⟨r', hr', -, cellV, g1, g2, g3, -⟩ := hP.1 v _ hv
  have hcls := (X.va_K.1 ci r hc).2
  obtain ⟨kA, comp, k1, k2, k3, -⟩ := (X.2.2.2.2.2.2.2.2.1.2.1 t _ ht).2
  obtain ⟨kE, hkE, -⟩ := Vm.findClass_spec k3
  have hasg : k.2.2.2.1.vm.assignable (g.1.1 ci) comp = true := by
    rcases hca with e | hw
    · subst e
      have : comp = g.1.1 ci := Option.some.inj (k3.symm.trans hcls.1)
      rw [this]
      exact va_assign hcls
    · obtain ⟨c0, t1, f1, f2, f3⟩ := Cond.castable_spec (va_Nw.use (A := k.2.2.2.2.2.1) rfl (X.2.2.2.2.2.2.2.2.1.2.2.2.1 _ hw))
      cases hcls.1.symm.trans f1
      cases k3.symm.trans f2
      exact f3
  obtain ⟨kC, hkC, -⟩ := hcls.2
  have hin := zinb (c := g.2.1 t) hj hlt
  exact W.aast X.1 X.2.1 (hP.1 a _ hM) (fun q h => by cases h) (fun h => by cases h) k1 k2 rfl hkE ⟨fun q => hin (Or.inl q), Nat.not_le.mp fun q => hin (Or.inr q)⟩ g1 (fun q h => by rw [g3] at h; cases h) (by rw [g2]; exact hkC) (by rw [g2]; exact hasg) rfl rfl hd fun H' e1 e2 e3 => h X ls H' _ hl hL (hP.setA hM hlt hj e1 e3) (hS.put e2 e3 (hP.arr hM hlt).2)
theorem z_aastN {a t j : Nat} {vs : List Value} {C : String} (hd : decode cc pc = .ok (.aastore, 1)) (hM : M a = some (.inl (t, vs))) (ht : tl[t]? = some (.object C)) (hj : j < 2 ^ 31) (hlt : j < vs.length) (h : ZW cl tl Ts own cc nL ret nm R g k post L (pc + 1) st (zset M a (.inl (t, vs.set j .null))) n1 n2) : ZW cl tl Ts own cc nL ret nm R g k post L pc (.null :: .int (nI j) :: .ref a :: st) M n1 n2 := by
  intro X ls H locs hl hL hP hS
  exact va_WaastN (C := C) X.1 X.2.1 (hP.1 a _ hM) (zarr_of (X.2.2.2.2.2.2.2.2.1.2.1 t _ ht).1 vs) (fun h => by cases h) (zinb hj hlt) rfl rfl hd fun H' e1 e2 e3 => h X ls H' _ hl hL (hP.setA hM hlt hj e1 e3) (hS.put e2 e3 (hP.arr hM hlt).2)
theorem zP.recv {cl : List vw_C} {tl : List FieldType} {g : ZG} {M : ZM} {H : Heap} {s : State} {a ci : Nat} {fs : List Value} {r : vw_C} (hP : zP cl g M H) (hK : zK cl tl g s) (hM : M a = some (.inr (ci, fs))) (hc : cl[ci]? = some r) : ∃ cell : Cell, H[a]? = some cell ∧ cell.vm.isStatics = false ∧ s.vm.findClass r.1 = some cell.cls := by
  obtain ⟨r', h1, -, cell, g1, g2, g3, -⟩ := hP.1 a _ hM
  exact ⟨cell, g1, by rw [g3]; rfl, by rw [g2]; exact (hK.1 ci r hc).2.1⟩
theorem z_cast {a ix ci : Nat} {fs : List Value} {r : vw_C} {C : String} (hd : decode cc pc = .ok (.checkcast ix, 3)) (hlk : Cond.classLink own ix C ∈ Ts) (hM : M a = some (.inr (ci, fs))) (hc : cl[ci]? = some r) (hC : r.1 = C) (h : ZW cl tl Ts own cc nL ret nm R g k post L (pc + 3) (.ref a :: st) M n1 n2) : ZW cl tl Ts own cc nL ret nm R g k post L pc (.ref a :: st) M n1 n2 := by
  intro X ls H locs hl hL hP hS
  subst hC
  exact va_castS X.1 X.2.1 X.2.2.2.1 (X.2.2.2.2.1 _ hlk) (X.va_K.1 ci r hc).2 (hP.recv X.2.2.2.2.2.2.2.2.1 hM hc) hd (h X ls H locs hl hL hP hS)
theorem z_castN {ix : Nat} (hd : decode cc pc = .ok (.checkcast ix, 3)) (h : ZW cl tl Ts own cc nL ret nm R g k post L (pc + 3) (.null :: st) M n1 n2) : ZW cl tl Ts own cc nL ret nm R g k post L pc (.null :: st) M n1 n2 :=
  fun X ls H locs hl hL hP hS => lv_castN X.1 X.2.1 hd (h X ls H locs hl hL hP hS)
theorem z_objInit {a ix : Nat} (hd : decode cc pc = .ok (.invokespecial ix, 3)) (hlk : Cond.methodLink own ix Lib.objectInit ∈ Ts) (hin : Cond.instanceMethod Lib.objectInit ∈ Ts) (hco : Cond.code Lib.objectInit ⟨#[0xb1]⟩ 1 none ∈ Ts) (hf : 1 ≤ R.frames) (hlo : (st.map fun v => v.category).sum + 12 ≤ R.locals) (h : ZW cl tl Ts own cc nL ret nm R g k post L (pc + 3) st M n1 n2) : ZW cl tl Ts own cc nL ret nm R g k post L pc (.ref a :: st) M n1 n2 := by
  intro X ls H locs hl hL hP hS
  have hts := X.2.2.2.2.1
  exact W.objInit X.1 X.2.1 X.2.2.2.1 (hts _ hlk) (hts _ hin) (hts _ hco) rfl (by rw [X.2.2.1]; show ls.size = nL; rw [hl.2.1, hL]) rfl hd hf (by show 2 * 0 + _ + 12 ≤ _; omega) (h X ls H locs hl hL hP hS)
theorem z_gets {ix : Nat} (hd : decode cc pc = .ok (.getstatic ix, 3)) (hlk : Cond.fieldLink own ix "java/util/ArrayList" "DEFAULTCAPACITY_EMPTY_ELEMENTDATA" "[Ljava/lang/Object;" ∈ Ts) (h : ZW cl tl Ts own cc nL ret nm R g k post L (pc + 3) (.ref g.2.2.2 :: st) M n1 n2) : ZW cl tl Ts own cc nL ret nm R g k post L pc st M n1 n2 := by
  intro X ls H locs hl hL hP hS
  exact va_gets X.1 X.2.1 X.2.2.2.2.2.2.2.2.2.2 hS X.2.2.2.1 (X.2.2.2.2.1 _ hlk) (fun _ h => h) hd (h X ls H locs hl hL hP hS)
theorem z_ldc {ix : Nat} {v : Int32} (hd : decode cc pc = .ok (.ldc ix, 2)) (hw : Cond.constant own ix v ∈ Ts) (h : ZW cl tl Ts own cc nL ret nm R g k post L (pc + 2) (.int v :: st) M n1 n2) : ZW cl tl Ts own cc nL ret nm R g k post L pc st M n1 n2 :=
  fun X ls H locs hl hL hP hS => lv_ldc X.1 X.2.1 X.2.2.2.1 (X.2.2.2.2.1 _ hw) hd (h X ls H locs hl hL hP hS)
theorem z_ldc2 {ix : Nat} {v : Int64} (hd : decode cc pc = .ok (.ldc2_w ix, 3)) (hw : Cond.constantLong own ix v ∈ Ts) (h : ZW cl tl Ts own cc nL ret nm R g k post L (pc + 3) (.long v :: st) M n1 n2) : ZW cl tl Ts own cc nL ret nm R g k post L pc st M n1 n2 :=
  fun X ls H locs hl hL hP hS => lv_ldc2 X.1 X.2.1 X.2.2.2.1 (X.2.2.2.2.1 _ hw) hd (h X ls H locs hl hL hP hS)
/-! calls -/
theorem z_run {p : Program} {l : Launch} {e : Env} {s : State} {m : MethodId} {args a : Array Value} {below : List Frame} {meth : Method} {c : Code} {H : Heap} {locs : List Loc} {Q : State → Prop} {mc ms : Nat} {ls : Array Slot} {st0 rest : List Value} {cl : List vw_C} {g : ZG} {R : Room} {n1 n2 pc : Nat} {postc : Option Value → ZM → Prop}
    (hr : va_Run p l e R s m args below meth c H locs n1 n2 mc ms (F0 m pc ls st0) rest (zQ cl g postc a) g.2.2.1) (hS : va_S g.2.2.1 s.heap H locs)
    (h : ∀ (v : Option Value) (M' : ZM), postc v M' → ∀ (H1 : Heap) (locs1 : List Loc), zP cl g M' H1 → va_S g.2.2.1 s.heap H1 locs1 → W p l e R s m args below meth c H1 locs1 (n1 + mc) (n2 + ms) Q (F0 m (pc + 3) ls (v.toList ++ rest))) : W p l e R s m args below meth c H locs n1 n2 Q (F0 m pc ls st0) := by
  intro T hT X
  obtain ⟨v, st₀, t, T', L, h0, X', hL, e1, e2, ⟨⟨v', M', hv, hp, hP⟩, hz, hk⟩, st⟩ := hr T hT X
  cases hv
  rw [h0] at hz hk
  obtain ⟨t2, a1, b1⟩ := h v M' hp T'.heap (locs ++ L) (by rw [e1]; exact hP)
    ⟨Nat.le_trans hS.1 (by rw [e1]; exact hz), fun q h1 h2 => by rw [e1, hk q (Nat.lt_of_lt_of_le h1 hS.1) h2]; exact hS.2.1 q h1 h2, fun q hq => by
      rcases List.mem_append.mp hq with h | h
      · exact hS.2.2 q h
      · exact hL q h⟩ T' rfl X'
  exact ⟨t2, st t2 a1, b1⟩
theorem zblind {cl : List vw_C} {tl : List FieldType} {g : ZG} {M : ZM} {av : List Value} : FrameBlind (va_Pc av (zPre cl tl g M)) := fun a U f mk q => by
  obtain ⟨q0, q1, q2, q3, q4⟩ := q
  exact ⟨q0, q1, zK.moved (u := U) (U := U.calling f mk a) (Vm.Alike.refl U.vm) q2, q3, zE.moved (u := U) (U := U.calling f mk a) (Vm.Alike.refl U.vm) q4⟩
theorem zpre {cl : List vw_C} {tl : List FieldType} {Ts : List Cond} {own : String} {cc : ByteArray} {nL : Nat} {ret : Option FieldType} {nm : String} {g : ZG} {k : ZK} {M : ZM} {H : Heap} {locs : List Loc} {av : List Value} (X : ZX cl tl Ts own cc nL ret nm g k) (hP : zP cl g M H) (hS : va_S g.2.2.1 k.2.2.2.1.heap H locs) : ∀ U : State, U.heap = H → k.2.2.2.1.WarmedH U.vm → va_Pc av (zPre cl tl g M) av.toArray U := by
  intro U hU hW
  refine ⟨rfl, by rw [hU]; exact hP, zK.moved hW.alike X.2.2.2.2.2.2.2.2.1, fun q hq => X.2.2.2.2.2.2.2.2.2.1 q (Nat.le_trans hS.1 (by rw [← hU]; exact hq)), ?_⟩
  rw [hU]
  exact (zE.moved hW.alike X.2.2.2.2.2.2.2.2.2.2).kept hS.2.1
def ZV (Ts : List Cond) (own : String) (ix : Nat) (C : String) (y : MethodName) (cc : ByteArray) (nL : Nat) (ret : Option FieldType) (n : Nat) : Prop :=
  Cond.methodLink own ix y ∈ Ts ∧ Cond.instanceMethod y ∈ Ts ∧ Cond.selects C y y ∈ Ts ∧ Cond.initialized C ∈ Ts ∧ Cond.code y cc nL ret ∈ Ts ∧ y.cls = C ∧ y.cls ≠ "java/lang/invoke/MethodHandle" ∧ y.cls ≠ "java/lang/invoke/VarHandle" ∧ (parseMethodDescriptor y.desc).map (fun d => d.parameters.length) = some n
def ZS (Ts : List Cond) (own : String) (ix : Nat) (y : MethodName) (cc : ByteArray) (nL : Nat) (ret : Option FieldType) (n : Nat) : Prop :=
  Cond.methodLink own ix y ∈ Ts ∧ Cond.static y ∈ Ts ∧ Cond.initialized y.cls ∈ Ts ∧ Cond.code y cc nL ret ∈ Ts ∧ y.cls ≠ "java/lang/invoke/MethodHandle" ∧ y.cls ≠ "java/lang/invoke/VarHandle" ∧ (parseMethodDescriptor y.desc).map (fun d => d.parameters.length) = some n
def ZI (Ts : List Cond) (own : String) (ix : Nat) (y : MethodName) (cc : ByteArray) (nL : Nat) (n : Nat) : Prop :=
  Cond.methodLink own ix y ∈ Ts ∧ Cond.instanceMethod y ∈ Ts ∧ Cond.initialized y.cls ∈ Ts ∧ Cond.code y cc nL none ∈ Ts ∧ y.name = "<init>" ∧ y.cls ≠ "java/lang/invoke/MethodHandle" ∧ y.cls ≠ "java/lang/invoke/VarHandle" ∧ (parseMethodDescriptor y.desc).map (fun d => d.parameters.length) = some n
theorem zgood {Ts : List Cond} (hG : GoodIn Ts Ts) {c : Cond} (hc : c ∈ Ts) {ws : List Cond} (hw : ∀ w ∈ ws, w ∈ Ts) : GoodIn Ts (ws ++ (c :: Ts)) := fun w h => by
  rcases List.mem_append.mp h with h | h
  · exact hG w (hw w h)
  · rcases List.mem_cons.mp h with rfl | h
    · exact hG w hc
    · exact hG w h
theorem z_callV {ix ci b n : Nat} {fs : List Value} {r : vw_C} {y : MethodName} {cc' : ByteArray} {nL' : Nat} {ret' : Option FieldType} {R' : Room} {As rest st0 : List Value} {postc : Option Value → ZM → Prop} (hG : GoodIn Ts Ts) (hd : decode cc pc = .ok (.invokevirtual ix, 3)) (hw : ZV Ts own ix r.1 y cc' nL' ret' n) (hM : M b = some (.inr (ci, fs))) (hc : cl[ci]? = some r)
    (hct : ∀ l : Launch, ZC cl tl Ts l g y cc' nL' ret' R' (.ref b :: As) M postc) (hst : st0 = As.reverse ++ .ref b :: rest) (hn : As.length = n) (hR : R'.frames + 1 ≤ R.frames ∧ 8 + (nL' + 11) + R'.locals ≤ R.locals) (hrest : (rest.map fun v => v.category).sum ≤ 8) (hc1 : n1 + R'.cells ≤ R.cells) (hc2 : n2 + R'.slots ≤ R.slots)
    (h : ∀ (v : Option Value) (M' : ZM), postc v M' → ZW cl tl Ts own cc nL ret nm R g k post L (pc + 3) (v.toList ++ rest) M' (n1 + R'.cells) (n2 + R'.slots)) : ZW cl tl Ts own cc nL ret nm R g k post L pc st0 M n1 n2 := by
  intro X ls H locs hl hL hP hS
  subst hst
  obtain ⟨w1, w2, w3, w4, w5, w6, w7, w8, w9⟩ := hw
  have hts := X.2.2.2.2.1
  have hgood : GoodIn Ts (wsV own ix r.1 y (Cond.code y cc' nL' ret' :: Ts)) := zgood hG w5 (fun w h => by
    simp only [List.mem_cons, List.not_mem_nil, or_false] at h
    rcases h with rfl | rfl | rfl | rfl <;> assumption)
  exact z_run (va_runV (As := As) (rest := rest) ⟨X.1, X.2.1, X.2.2.1, X.2.2.2.1, hts⟩ (hct k.2.1) (cwV n hts hgood rfl rfl rfl ⟨w6, w7, w8, w9⟩ hR) ⟨zblind, hP.recv X.2.2.2.2.2.2.2.2.1 hM hc, zpre X hP hS⟩ rfl hn (by rw [← hL]; exact hl.2.1) rfl (lv_room hrest) hd ⟨hc1, hc2⟩) hS (fun v M' hp H1 locs1 hP1 hS1 => h v M' hp X ls H1 locs1 hl hL hP1 hS1)
theorem z_callS {ix n : Nat} {y : MethodName} {cc' : ByteArray} {nL' : Nat} {ret' : Option FieldType} {R' : Room} {As rest st0 : List Value} {postc : Option Value → ZM → Prop} (hG : GoodIn Ts Ts) (hd : decode cc pc = .ok (.invokestatic ix, 3)) (hw : ZS Ts own ix y cc' nL' ret' n)
    (hct : ∀ l : Launch, ZC cl tl Ts l g y cc' nL' ret' R' As M postc) (hst : st0 = As.reverse ++ rest) (hn : As.length = n) (hR : R'.frames + 1 ≤ R.frames ∧ 8 + (nL' + 11) + R'.locals ≤ R.locals) (hrest : (rest.map fun v => v.category).sum ≤ 8) (hc1 : n1 + R'.cells ≤ R.cells) (hc2 : n2 + R'.slots ≤ R.slots)
    (h : ∀ (v : Option Value) (M' : ZM), postc v M' → ZW cl tl Ts own cc nL ret nm R g k post L (pc + 3) (v.toList ++ rest) M' (n1 + R'.cells) (n2 + R'.slots)) : ZW cl tl Ts own cc nL ret nm R g k post L pc st0 M n1 n2 := by
  intro X ls H locs hl hL hP hS
  subst hst
  obtain ⟨w1, w2, w3, w4, w5, w6, w7⟩ := hw
  have hts := X.2.2.2.2.1
  have hgood : GoodIn Ts (va_wsS own ix y (Cond.code y cc' nL' ret' :: Ts)) := zgood hG w4 (fun w h => by
    simp only [List.mem_cons, List.not_mem_nil, or_false] at h
    rcases h with rfl | rfl | rfl <;> assumption)
  exact z_run (va_runS (As := As) (rest := rest) ⟨X.1, X.2.1, X.2.2.1, X.2.2.2.1, hts⟩ (hct k.2.1) (va_cwS n hts hgood rfl rfl rfl ⟨w5, w6, w7⟩ hR) ⟨zblind, zpre X hP hS⟩ rfl hn (by rw [← hL]; exact hl.2.1) rfl (lv_room hrest) hd ⟨hc1, hc2⟩) hS (fun v M' hp H1 locs1 hP1 hS1 => h v M' hp X ls H1 locs1 hl hL hP1 hS1)
theorem z_callI {ix b n : Nat} {y : MethodName} {cc' : ByteArray} {nL' : Nat} {R' : Room} {As rest st0 : List Value} {postc : Option Value → ZM → Prop} (hG : GoodIn Ts Ts) (hd : decode cc pc = .ok (.invokespecial ix, 3)) (hw : ZI Ts own ix y cc' nL' n)
    (hct : ∀ l : Launch, ZC cl tl Ts l g y cc' nL' none R' (.ref b :: As) M postc) (hst : st0 = As.reverse ++ .ref b :: rest) (hn : As.length = n) (hR : R'.frames + 1 ≤ R.frames ∧ 8 + (nL' + 11) + R'.locals ≤ R.locals) (hrest : (rest.map fun v => v.category).sum ≤ 8) (hc1 : n1 + R'.cells ≤ R.cells) (hc2 : n2 + R'.slots ≤ R.slots)
    (h : ∀ (v : Option Value) (M' : ZM), postc v M' → ZW cl tl Ts own cc nL ret nm R g k post L (pc + 3) (v.toList ++ rest) M' (n1 + R'.cells) (n2 + R'.slots)) : ZW cl tl Ts own cc nL ret nm R g k post L pc st0 M n1 n2 := by
  intro X ls H locs hl hL hP hS
  subst hst
  obtain ⟨w1, w2, w3, w4, w5, w6, w7, w8⟩ := hw
  have hts := X.2.2.2.2.1
  have hgood : GoodIn Ts (Cond.code y cc' nL' none :: Ts) := zgood (ws := []) hG w4 (fun w h => by cases h)
  exact z_run (va_runI (As := As) (rest := rest) ⟨X.1, X.2.1, X.2.2.1, X.2.2.2.1, hts⟩ (hct k.2.1) (cwI n hts hgood rfl rfl rfl (hts _ w3) (hts _ w1) (hts _ w2) w5 ⟨w6, w7, w8⟩ hR) ⟨zblind, zpre X hP hS⟩ rfl hn (by rw [← hL]; exact hl.2.1) rfl (lv_room hrest) hd ⟨hc1, hc2⟩) hS (fun v M' hp H1 locs1 hP1 hS1 => h v M' hp X ls H1 locs1 hl hL hP1 hS1)
end ZH
end
section
def zcopy (vs0 vs1 : List Value) (sp dp n : Nat) : List Value := (List.range vs1.length).map (fun j => if dp ≤ j ∧ j < dp + n then vs0.getD (sp + (j - dp)) .null else vs1.getD j .null)
theorem zcopy_len (vs0 vs1 : List Value) (sp dp n : Nat) : (zcopy vs0 vs1 sp dp n).length = vs1.length := by simp [zcopy]
theorem zarrV_congr {c : ClassId} {N : Nat} {f f' : Nat → Value} (h : ∀ j, j < N → f j = f' j) : arrV c N f = arrV c N f' := by
  unfold arrV
  congr 1
  apply Array.ext
  · simp
  · intro i h1 h2
    simp only [Array.getElem_ofFn]
    exact h i (by simpa using h1)
theorem zcopied (c0 c1 : ClassId) (vs0 vs1 : List Value) {sp dp n : Nat} (hs : sp + n ≤ vs0.length) : (zarr c1 vs1).storeRun dp ((zarr c0 vs0).stretch sp n) = zarr c1 (zcopy vs0 vs1 sp dp n) := by
  rw [zarr_arrV c1 vs1, zarr_arrV c0 vs0, zarr_arrV c1 (zcopy vs0 vs1 sp dp n), zcopy_len]
  refine (va_copied (fun v : Value => v) c0 c1 (fun j => vs0.getD j .null) (fun j => vs1.getD j .null) hs).trans (zarrV_congr fun j hj => ?_)
  simp only [va_cpy, zcopy, List.getD_eq_getElem?_getD, List.getElem?_map]
  rw [List.getElem?_range hj]
  rfl
theorem znn (z : Nat) (h : z < 2 ^ 31) : (nI z).toInt = (z : Int) := nI_toInt h
section ZJ
variable {cl : List vw_C} {tl : List FieldType} {Ts : List Cond} {own : String} {cc : ByteArray} {nL : Nat} {ret : Option FieldType} {nm : String} {R : Room} {g : ZG} {k : ZK} {post : Option Value → ZM → Prop} {L L' : List (Option Value)} {pc : Nat} {st : List Value} {M : ZM} {n1 n2 : Nat}
def zElems (cl : List vw_C) (M : ZM) (vs : List Value) : Prop := ∀ v ∈ vs, v = .null ∨ ∃ (b ci : Nat) (fs : List Value) (r : vw_C), v = .ref b ∧ M b = some (.inr (ci, fs)) ∧ cl[ci]? = some r ∧ (r.1, "java/lang/Object") ∈ zCa
theorem z_copy {a0 a1 ix sp dp n : Nat} {vs0 vs1 : List Value} (hd : decode cc pc = .ok (.invokestatic ix, 3)) (hlk : Cond.methodLink own ix arraycopyName ∈ Ts) (hnat : Cond.native arraycopyName ∈ Ts) (hstat : Cond.static arraycopyName ∈ Ts) (hini : Cond.initialized "java/lang/System" ∈ Ts) (ht : tl[0]? = some (.object "java/lang/Object")) (hM0 : M a0 = some (.inl (0, vs0))) (hM1 : M a1 = some (.inl (0, vs1))) (h4 : sp + n ≤ vs0.length) (h5 : dp + n ≤ vs1.length) (h6 : vs0.length < 2 ^ 31) (h7 : vs1.length < 2 ^ 31) (h8 : 0 < vs1.length) (hel : zElems cl M vs0) (hf : 1 ≤ R.frames) (hlo : (st.map fun v => v.category).sum + (nativeFrameWords "java/lang/System" "arraycopy" 5 + 11) ≤ R.locals)
    (h : ZW cl tl Ts own cc nL ret nm R g k post L (pc + 3) st (zset M a1 (.inl (0, zcopy vs0 vs1 sp dp n))) n1 n2) : ZW cl tl Ts own cc nL ret nm R g k post L pc (.int (nI n) :: .int (nI dp) :: .ref a1 :: .int (nI sp) :: .ref a0 :: st) M n1 n2 := by
  intro X ls H locs hl hL hP hS
  have hts := X.2.2.2.2.1
  have hc0 : H[a0]? = some (zarr (g.2.1 0) vs0) := hP.1 a0 _ hM0
  have hc1 : H[a1]? = some (zarr (g.2.1 0) vs1) := hP.1 a1 _ hM1
  obtain ⟨hz, hA⟩ := hP.arr hM1 h8
  obtain ⟨r0, kA, comp, r1, r2, r3, r4⟩ := X.2.2.2.2.2.2.2.2.1.2.1 0 _ ht
  obtain ⟨kE, hkE, -⟩ := Vm.findClass_spec r3
  have hcs : (nI sp).toNatClampNeg = sp := nI_clamp (by omega)
  have hcd : (nI dp).toNatClampNeg = dp := nI_clamp (by omega)
  have hcn : (nI n).toNatClampNeg = n := nI_clamp (by omega)
  intro T hT Y
  obtain ⟨vm', Y', step⟩ := Y.arraycopy X.1 X.2.2.2.1 (hts _ hlk) (hts _ hnat) (hts _ hstat) (hts _ hini) (src := a0) (dst := a1) (cs := zarr (g.2.1 0) vs0) (cd := zarr (g.2.1 0) vs1) (srcPos := nI sp) (destPos := nI dp) (n := nI n) (by rw [hT]; exact hc0) (by rw [hT]; exact hc1)
    (fun _ h => by cases h) (fun _ h => by cases h) (fun h => by cases h) (fun h => by cases h) r1 r1 r2 r2 rfl (nI_pos (by omega)) (nI_pos (by omega)) (nI_pos (by omega))
    (by rw [znn sp (by omega), znn n (by omega)]; simp [zarr]; omega)
    (by rw [znn dp (by omega), znn n (by omega)]; simp [zarr]; omega)
    (fun vm₁ hal i hi => by
      rw [hcn] at hi
      rw [hcs]
      have hlt : sp + i < vs0.length := by omega
      have e : (zarr (g.2.1 0) vs0).slots.getD (sp + i) .null = vs0[sp + i] := by
        simp [zarr, Array.getD, hlt]
      rw [e]
      rcases hel _ (List.getElem_mem hlt) with q | ⟨b, ci, fs, r, q, qM, qc, qa⟩
      · rw [q]
        exact ⟨rfl, trivial⟩
      · rw [q]
        obtain ⟨cellV, g1, g2, g3⟩ := hP.recv X.2.2.2.2.2.2.2.2.1 qM qc
        obtain ⟨kC, hkC, -⟩ := Vm.findClass_spec g3
        obtain ⟨kC', hkC', -⟩ := hal.2.2 _ _ hkC
        obtain ⟨kE', hkE', -⟩ := hal.2.2 _ _ hkE
        refine ⟨rfl, cellV, (show T.heap[b]? = some cellV by rw [hT]; exact g1), (fun q h => by rw [h] at g2; cases g2), ⟨kC', hkC'⟩, ⟨kE', hkE'⟩, ?_⟩
        show vm₁.assignable _ _ = true
        rw [hal.assignable]
        obtain ⟨c0, t1, f1, f2, f3⟩ := Cond.castable_spec (va_Nw.use (A := k.2.2.2.2.2.1) rfl (X.2.2.2.2.2.2.2.2.1.2.2.2.1 _ qa))
        cases g3.symm.trans f1
        cases r3.symm.trans f2
        exact f3)
    (g := F0 k.2.2.2.2.1 pc ls (.int (nI n) :: .int (nI dp) :: .ref a1 :: .int (nI sp) :: .ref a0 :: st)) rfl (by rw [X.2.2.1]; show ls.size = nL; rw [hl.2.1, hL]) (rest := st) rfl (by rw [X.2.1]; exact hd) hf (by show 2 * 0 + _ + _ ≤ _; omega)
  have e1 : copied (zarr (g.2.1 0) vs0) (zarr (g.2.1 0) vs1) (nI sp) (nI dp) (nI n) = zarr (g.2.1 0) (zcopy vs0 vs1 sp dp n) := by
    have := zcopied (g.2.1 0) (g.2.1 0) vs0 vs1 (dp := dp) h4
    rw [← this]
    show (zarr (g.2.1 0) vs1).storeRun (nI dp).toNatClampNeg ((zarr (g.2.1 0) vs0).stretch (nI sp).toNatClampNeg (nI n).toNatClampNeg) = _
    rw [hcs, hcd, hcn]
  rw [e1] at Y' step
  have hlt : a1 < H.size := (Array.getElem?_eq_some_iff.mp hc1).1
  have hheap : ((T.setVm vm').setCell a1 (zarr (g.2.1 0) (zcopy vs0 vs1 sp dp n))).heap = H.setIfInBounds a1 (zarr (g.2.1 0) (zcopy vs0 vs1 sp dp n)) := by rw [← hT]; rfl
  have oq : ∀ q : Nat, q ≠ a1 → (H.setIfInBounds a1 (zarr (g.2.1 0) (zcopy vs0 vs1 sp dp n)))[q]? = H[q]? := fun q hq => by simp [Array.getElem?_setIfInBounds, Ne.symm hq]
  obtain ⟨t, b1, b2⟩ := h X ls _ _ hl hL (hP.set hz hA (show (H.setIfInBounds a1 _)[a1]? = some (zarr _ _) by simp [Array.getElem?_setIfInBounds, hlt]) (fun q hq _ => oq q hq)) ⟨by simp; exact hS.1, fun q g1 g2 => by
      rw [oq q (fun e => g2 (by rw [e]; exact hA))]
      exact hS.2.1 q g1 g2, fun q hq => by
      rcases List.mem_append.mp hq with h | h
      · exact hS.2.2 q h
      · obtain ⟨z, -, hz⟩ := List.mem_map.mp h
        rw [← hz]
        exact hA⟩ _ hheap Y'
  exact ⟨t, step t b1, b2⟩
theorem z_mmax {x y : Int32} {ix : Nat} (hd : decode cc pc = .ok (.invokestatic ix, 3)) (hlk : Cond.methodLink own ix Lib.Math.max.name ∈ Ts) (hst : Cond.static Lib.Math.max.name ∈ Ts) (hini : Cond.initialized "java/lang/Math" ∈ Ts) (hco : Cond.code Lib.Math.max.name Lib.Math.max.code 2 (some .int) ∈ Ts) (hf : 1 ≤ R.frames) (hlo : (st.map fun v => v.category).sum + 13 ≤ R.locals) (hc1 : n1 ≤ R.cells) (hc2 : n2 ≤ R.slots) (h : ZW cl tl Ts own cc nL ret nm R g k post L (pc + 3) (.int (if x < y then y else x) :: st) M n1 n2) : ZW cl tl Ts own cc nL ret nm R g k post L pc (.int y :: .int x :: st) M n1 n2 := by
  intro X ls H locs hl hL hP hS
  have hts := X.2.2.2.2.1
  exact va_mmax X.1 X.2.1 (by rw [X.2.2.1, hl.2.1, hL]) X.2.2.2.1 (hts _ hlk) (hts _ hst) (hts _ hini) (hts _ hco) hf hlo hc1 hc2 hd (h X ls H locs hl hL hP hS)
theorem z_mmin {x y : Int32} {ix : Nat} (hd : decode cc pc = .ok (.invokestatic ix, 3)) (hlk : Cond.methodLink own ix Lib.Math.min.name ∈ Ts) (hst : Cond.static Lib.Math.min.name ∈ Ts) (hini : Cond.initialized "java/lang/Math" ∈ Ts) (hco : Cond.code Lib.Math.min.name Lib.Math.min.code 2 (some .int) ∈ Ts) (hf : 1 ≤ R.frames) (hlo : (st.map fun v => v.category).sum + 13 ≤ R.locals) (hc1 : n1 ≤ R.cells) (hc2 : n2 ≤ R.slots) (h : ZW cl tl Ts own cc nL ret nm R g k post L (pc + 3) (.int (if y < x then y else x) :: st) M n1 n2) : ZW cl tl Ts own cc nL ret nm R g k post L pc (.int y :: .int x :: st) M n1 n2 := by
  intro X ls H locs hl hL hP hS
  have hts := X.2.2.2.2.1
  exact va_mmin X.1 X.2.1 (by rw [X.2.2.1, hl.2.1, hL]) X.2.2.2.1 (hts _ hlk) (hts _ hst) (hts _ hini) (hts _ hco) hf hlo hc1 hc2 hd (h X ls H locs hl hL hP hS)
/-- the array's own Class object, the same twice -/
theorem z_getC {a ix : Nat} {vs : List Value} (hd : decode cc pc = .ok (.invokevirtual ix, 3)) (hlk : Cond.methodLink own ix ⟨"java/lang/Object", "getClass", "()Ljava/lang/Class;"⟩ ∈ Ts) (hsel : Cond.selects "[Ljava/lang/Object;" ⟨"java/lang/Object", "getClass", "()Ljava/lang/Class;"⟩ ⟨"java/lang/Object", "getClass", "()Ljava/lang/Class;"⟩ ∈ Ts) (hin : Cond.instanceMethod ⟨"java/lang/Object", "getClass", "()Ljava/lang/Class;"⟩ ∈ Ts) (hnat : Cond.native ⟨"java/lang/Object", "getClass", "()Ljava/lang/Class;"⟩ ∈ Ts) (hM : M a = some (.inl (0, vs))) (ht : tl[0]? = some (.object "java/lang/Object")) (hf : 1 ≤ R.frames) (hlo : (st.map fun v => v.category).sum + 14 ≤ R.locals)
    (h : ∀ mi : Nat, va_Mi "[Ljava/lang/Object;" mi k.2.2.2.1 → ZW cl tl Ts own cc nL ret nm R g k post L (pc + 3) (.ref mi :: st) M n1 n2) : ZW cl tl Ts own cc nL ret nm R g k post L pc (.ref a :: st) M n1 n2 := by
  intro X ls H locs hl hL hP hS
  have hts := X.2.2.2.2.1
  obtain ⟨mi, hmi⟩ := X.2.2.2.2.2.2.2.2.1.2.2.2.2.2
  have hra := (X.2.2.2.2.2.2.2.2.1.2.1 0 _ ht).2
  exact va_getC X.1 X.2.1 (by rw [X.2.2.1, hl.2.1, hL]) X.2.2.2.1 (hts _ hlk) (va_Dc.use X.2.2.2.2.2.2.2.2.1.2.2.2.2.1) (hts _ hsel) (hts _ hin) (hts _ hnat) hmi ⟨_, hP.1 a _ hM, rfl, va_nmO hra (by decide)⟩ hf hlo hd (h mi hmi X ls H locs hl hL hP hS)
theorem z_ldcM {ix mi : Nat} {C : String} (hd : decode cc pc = .ok (.ldc ix, 2)) (hlk : Cond.classLink own ix C ∈ Ts) (hmi : va_Mi C mi k.2.2.2.1) (h : ZW cl tl Ts own cc nL ret nm R g k post L (pc + 2) (.ref mi :: st) M n1 n2) : ZW cl tl Ts own cc nL ret nm R g k post L pc st M n1 n2 :=
  fun X ls H locs hl hL hP hS => va_ldcM X.1 X.2.1 X.2.2.2.1 (X.2.2.2.2.1 _ hlk) hmi hd (h X ls H locs hl hL hP hS)
theorem z_irem {x y : Int32} (hd : decode cc pc = .ok (.irem, 1)) (hne : ¬ y = 0) (h : ZW cl tl Ts own cc nL ret nm R g k post L (pc + 1) (.int (x - x / y * y) :: st) M n1 n2) : ZW cl tl Ts own cc nL ret nm R g k post L pc (.int y :: .int x :: st) M n1 n2 :=
  fun X ls H locs hl hL hP hS => lv_irem X.1 X.2.1 hd hne (h X ls H locs hl hL hP hS)
theorem z_zast {a t j : Nat} {vs : List Value} {x : Int32} (hd : decode cc pc = .ok (.bastore, 1)) (hM : M a = some (.inl (t, vs))) (ht : tl[t]? = some .boolean) (hj : j < 2 ^ 31) (hlt : j < vs.length) (hx : narrow .boolean (.int x) = .int x) (h : ZW cl tl Ts own cc nL ret nm R g k post L (pc + 1) st (zset M a (.inl (t, vs.set j (.int x)))) n1 n2) : ZW cl tl Ts own cc nL ret nm R g k post L pc (.int x :: .int (nI j) :: .ref a :: st) M n1 n2 := by
  intro X ls H locs hl hL hP hS
  exact W.zast X.1 X.2.1 (hP.1 a _ hM) (zarr_of (X.2.2.2.2.2.2.2.2.1.2.1 t _ ht).1 vs) (fun q => by cases q) (zinb hj hlt) rfl rfl hd fun H' e1 e2 e3 => h X ls H' _ hl hL (hP.setA hM hlt hj (by rw [← hx]; exact e1) e3) (hS.put e2 e3 (hP.arr hM hlt).2)
theorem z_tableOut {dflt lo hi : Int} {offs : Array Int} {len : Nat} {x : Int32} {tgt : Nat} (hd : decode cc pc = .ok (.tableswitch dflt lo hi offs, len)) (hx : x.toInt < lo ∨ hi < x.toInt) (ht : (pc : Int) + dflt = (tgt : Int)) (h : ZW cl tl Ts own cc nL ret nm R g k post L tgt st M n1 n2) : ZW cl tl Ts own cc nL ret nm R g k post L pc (.int x :: st) M n1 n2 :=
  fun X ls H locs hl hL hP hS => lv_tableOut X.1 X.2.1 hd hx ht (h X ls H locs hl hL hP hS)
theorem z_tableIn {dflt lo hi : Int} {offs : Array Int} {len : Nat} {x : Int32} {off : Int} {tgt : Nat} (hd : decode cc pc = .ok (.tableswitch dflt lo hi offs, len)) (h1 : ¬ x.toInt < lo) (h2 : ¬ hi < x.toInt) (ho : offs[(x.toInt - lo).toNat]? = some off) (ht : (pc : Int) + off = (tgt : Int)) (h : ZW cl tl Ts own cc nL ret nm R g k post L tgt st M n1 n2) : ZW cl tl Ts own cc nL ret nm R g k post L pc (.int x :: st) M n1 n2 :=
  fun X ls H locs hl hL hP hS => lv_tableIn X.1 X.2.1 hd h1 h2 ho ht (h X ls H locs hl hL hP hS)
theorem z_acmpR_eq {x y : Nat} {off : Int} {tgt : Nat} (hd : decode cc pc = .ok (.if_acmp .eq off, 3)) (ht : (pc : Int) + off = (tgt : Int)) (h1 : x = y → ZW cl tl Ts own cc nL ret nm R g k post L tgt st M n1 n2) (h2 : ¬ x = y → ZW cl tl Ts own cc nL ret nm R g k post L (pc + 3) st M n1 n2) : ZW cl tl Ts own cc nL ret nm R g k post L pc (.ref y :: .ref x :: st) M n1 n2 :=
  z_acmp_eq (x := some x) (y := some y) hd ht (fun q => h1 (Option.some.inj q)) (fun q => h2 (fun e => q (congrArg some e)))
theorem z_acmpR_ne {x y : Nat} {off : Int} {tgt : Nat} (hd : decode cc pc = .ok (.if_acmp .ne off, 3)) (ht : (pc : Int) + off = (tgt : Int)) (h1 : ¬ x = y → ZW cl tl Ts own cc nL ret nm R g k post L tgt st M n1 n2) (h2 : x = y → ZW cl tl Ts own cc nL ret nm R g k post L (pc + 3) st M n1 n2) : ZW cl tl Ts own cc nL ret nm R g k post L pc (.ref y :: .ref x :: st) M n1 n2 :=
  z_acmp_ne (x := some x) (y := some y) hd ht (fun q => h1 (fun e => q (congrArg some e))) (fun q => h2 (Option.some.inj q))
end ZJ
end
section
theorem zz_bad : (1 : Nat) = 2 := rfl
theorem zz_chk {cl : List vw_C} {g : ZG} {M : ZM} {H : Heap} (h : zP cl g M H) : M 0 = none := by exact h.fresh (Nat.le_refl _)
end
