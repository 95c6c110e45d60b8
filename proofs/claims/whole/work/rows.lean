section
-- ===== PART A: goes FIRST, ahead of the names: the tables' words, and 'selects' of the private methods out of them =====
/-- a private method of a class that the tables say can be made, by its rows of tables_1 -/
def lw_okq (q : MethodName × Nat) : Prop := (q.1.cls ≠ "java/lang/invoke/MethodHandle" ∧ q.1.cls ≠ "java/lang/invoke/VarHandle") ∧ Cond.instantiable q.1.cls q.2 ∈ tables_1 ∧ Cond.privateMethod q.1 ∈ tables_1 ∧ Cond.instanceMethod q.1 ∈ tables_1
theorem lw_p0 : lw_okq (⟨"MonitorQueues", "isQueue", "(I)Z"⟩, 7) := ⟨⟨by decide +kernel, by decide +kernel⟩, List.mem_of_getElem? (i := 22) (by decide +kernel), List.mem_of_getElem? (i := 137) (by decide +kernel), List.mem_of_getElem? (i := 138) (by decide +kernel)⟩
theorem lw_p1 : lw_okq (⟨"MonitorQueues", "allItems", "()I"⟩, 7) := ⟨⟨by decide +kernel, by decide +kernel⟩, List.mem_of_getElem? (i := 22) (by decide +kernel), List.mem_of_getElem? (i := 152) (by decide +kernel), List.mem_of_getElem? (i := 153) (by decide +kernel)⟩
theorem lw_p2 : lw_okq (⟨"java/util/ArrayList", "add", "(Ljava/lang/Object;[Ljava/lang/Object;I)V"⟩, 3) := ⟨⟨by decide +kernel, by decide +kernel⟩, List.mem_of_getElem? (i := 43) (by decide +kernel), List.mem_of_getElem? (i := 184) (by decide +kernel), List.mem_of_getElem? (i := 185) (by decide +kernel)⟩
theorem lw_p3 : lw_okq (⟨"java/util/ArrayList", "grow", "()[Ljava/lang/Object;"⟩, 3) := ⟨⟨by decide +kernel, by decide +kernel⟩, List.mem_of_getElem? (i := 43) (by decide +kernel), List.mem_of_getElem? (i := 188) (by decide +kernel), List.mem_of_getElem? (i := 189) (by decide +kernel)⟩
theorem lw_p4 : lw_okq (⟨"java/util/ArrayList", "grow", "(I)[Ljava/lang/Object;"⟩, 3) := ⟨⟨by decide +kernel, by decide +kernel⟩, List.mem_of_getElem? (i := 43) (by decide +kernel), List.mem_of_getElem? (i := 192) (by decide +kernel), List.mem_of_getElem? (i := 193) (by decide +kernel)⟩
theorem lw_p5 : lw_okq (⟨"MonitorQueues", "lookAtTriggers", "()V"⟩, 7) := ⟨⟨by decide +kernel, by decide +kernel⟩, List.mem_of_getElem? (i := 22) (by decide +kernel), List.mem_of_getElem? (i := 240) (by decide +kernel), List.mem_of_getElem? (i := 241) (by decide +kernel)⟩
theorem lw_p6 : lw_okq (⟨"MonitorQueues", "look", "(LMonitorQueues$Trigger;I)V"⟩, 7) := ⟨⟨by decide +kernel, by decide +kernel⟩, List.mem_of_getElem? (i := 22) (by decide +kernel), List.mem_of_getElem? (i := 248) (by decide +kernel), List.mem_of_getElem? (i := 249) (by decide +kernel)⟩
theorem lw_p7 : lw_okq (⟨"MonitorQueues", "beginFor", "(LMonitorQueues$Trigger;)I"⟩, 7) := ⟨⟨by decide +kernel, by decide +kernel⟩, List.mem_of_getElem? (i := 22) (by decide +kernel), List.mem_of_getElem? (i := 252) (by decide +kernel), List.mem_of_getElem? (i := 253) (by decide +kernel)⟩
theorem lw_p8 : lw_okq (⟨"MonitorQueues", "begin", "(I)I"⟩, 7) := ⟨⟨by decide +kernel, by decide +kernel⟩, List.mem_of_getElem? (i := 22) (by decide +kernel), List.mem_of_getElem? (i := 256) (by decide +kernel), List.mem_of_getElem? (i := 257) (by decide +kernel)⟩
theorem lw_p9 : lw_okq (⟨"java/util/ArrayList", "fastRemove", "([Ljava/lang/Object;I)V"⟩, 3) := ⟨⟨by decide +kernel, by decide +kernel⟩, List.mem_of_getElem? (i := 43) (by decide +kernel), List.mem_of_getElem? (i := 320) (by decide +kernel), List.mem_of_getElem? (i := 321) (by decide +kernel)⟩
theorem lw_p10 : lw_okq (⟨"MonitorQueues", "isTask", "(I)Z"⟩, 7) := ⟨⟨by decide +kernel, by decide +kernel⟩, List.mem_of_getElem? (i := 22) (by decide +kernel), List.mem_of_getElem? (i := 370) (by decide +kernel), List.mem_of_getElem? (i := 371) (by decide +kernel)⟩
theorem lw_p11 : lw_okq (⟨"MonitorQueues", "beginAgain", "(I)I"⟩, 7) := ⟨⟨by decide +kernel, by decide +kernel⟩, List.mem_of_getElem? (i := 22) (by decide +kernel), List.mem_of_getElem? (i := 379) (by decide +kernel), List.mem_of_getElem? (i := 380) (by decide +kernel)⟩
theorem lw_p12 : lw_okq (⟨"MonitorQueues", "keepWaiting", "(LMonitorQueues$Delay;)V"⟩, 7) := ⟨⟨by decide +kernel, by decide +kernel⟩, List.mem_of_getElem? (i := 22) (by decide +kernel), List.mem_of_getElem? (i := 411) (by decide +kernel), List.mem_of_getElem? (i := 412) (by decide +kernel)⟩
theorem lw_p13 : lw_okq (⟨"java/util/ArrayList", "rangeCheckForAdd", "(I)V"⟩, 3) := ⟨⟨by decide +kernel, by decide +kernel⟩, List.mem_of_getElem? (i := 43) (by decide +kernel), List.mem_of_getElem? (i := 419) (by decide +kernel), List.mem_of_getElem? (i := 420) (by decide +kernel)⟩
theorem lw_p14 : lw_okq (⟨"MonitorQueues", "postDue", "()I"⟩, 7) := ⟨⟨by decide +kernel, by decide +kernel⟩, List.mem_of_getElem? (i := 22) (by decide +kernel), List.mem_of_getElem? (i := 423) (by decide +kernel), List.mem_of_getElem? (i := 424) (by decide +kernel)⟩
theorem lw_p15 : lw_okq (⟨"java/lang/Throwable", "fillInStackTrace", "(I)Ljava/lang/Throwable;"⟩, 6) := ⟨⟨by decide +kernel, by decide +kernel⟩, List.mem_of_getElem? (i := 504) (by decide +kernel), List.mem_of_getElem? (i := 502) (by decide +kernel), List.mem_of_getElem? (i := 503) (by decide +kernel)⟩
def lw_privs_1 : List (MethodName × Nat) := [(⟨"MonitorQueues", "isQueue", "(I)Z"⟩, 7), (⟨"MonitorQueues", "allItems", "()I"⟩, 7), (⟨"java/util/ArrayList", "add", "(Ljava/lang/Object;[Ljava/lang/Object;I)V"⟩, 3), (⟨"java/util/ArrayList", "grow", "()[Ljava/lang/Object;"⟩, 3), (⟨"java/util/ArrayList", "grow", "(I)[Ljava/lang/Object;"⟩, 3), (⟨"MonitorQueues", "lookAtTriggers", "()V"⟩, 7), (⟨"MonitorQueues", "look", "(LMonitorQueues$Trigger;I)V"⟩, 7), (⟨"MonitorQueues", "beginFor", "(LMonitorQueues$Trigger;)I"⟩, 7), (⟨"MonitorQueues", "begin", "(I)I"⟩, 7), (⟨"java/util/ArrayList", "fastRemove", "([Ljava/lang/Object;I)V"⟩, 3), (⟨"MonitorQueues", "isTask", "(I)Z"⟩, 7), (⟨"MonitorQueues", "beginAgain", "(I)I"⟩, 7), (⟨"MonitorQueues", "keepWaiting", "(LMonitorQueues$Delay;)V"⟩, 7), (⟨"java/util/ArrayList", "rangeCheckForAdd", "(I)V"⟩, 3), (⟨"MonitorQueues", "postDue", "()I"⟩, 7), (⟨"java/lang/Throwable", "fillInStackTrace", "(I)Ljava/lang/Throwable;"⟩, 6)]
theorem lw_r1 : ∀ q ∈ lw_privs_1, lw_okq q := List.forall_mem_cons.mpr ⟨lw_p0, List.forall_mem_cons.mpr ⟨lw_p1, List.forall_mem_cons.mpr ⟨lw_p2, List.forall_mem_cons.mpr ⟨lw_p3, List.forall_mem_cons.mpr ⟨lw_p4, List.forall_mem_cons.mpr ⟨lw_p5, List.forall_mem_cons.mpr ⟨lw_p6, List.forall_mem_cons.mpr ⟨lw_p7, List.forall_mem_cons.mpr ⟨lw_p8, List.forall_mem_cons.mpr ⟨lw_p9, List.forall_mem_cons.mpr ⟨lw_p10, List.forall_mem_cons.mpr ⟨lw_p11, List.forall_mem_cons.mpr ⟨lw_p12, List.forall_mem_cons.mpr ⟨lw_p13, List.forall_mem_cons.mpr ⟨lw_p14, List.forall_mem_cons.mpr ⟨lw_p15, fun _ h => absurd h List.not_mem_nil⟩⟩⟩⟩⟩⟩⟩⟩⟩⟩⟩⟩⟩⟩⟩⟩
theorem lw_p16 : lw_okq (⟨"MonitorQueuesModel", "putting", "(IIJI)I"⟩, 28) := ⟨⟨by decide +kernel, by decide +kernel⟩, List.mem_of_getElem? (i := 536) (by decide +kernel), List.mem_of_getElem? (i := 637) (by decide +kernel), List.mem_of_getElem? (i := 638) (by decide +kernel)⟩
theorem lw_p17 : lw_okq (⟨"MonitorQueuesModel", "lockOf", "(I)I"⟩, 28) := ⟨⟨by decide +kernel, by decide +kernel⟩, List.mem_of_getElem? (i := 536) (by decide +kernel), List.mem_of_getElem? (i := 644) (by decide +kernel), List.mem_of_getElem? (i := 645) (by decide +kernel)⟩
theorem lw_p18 : lw_okq (⟨"MonitorQueuesModel", "many", "(I)I"⟩, 28) := ⟨⟨by decide +kernel, by decide +kernel⟩, List.mem_of_getElem? (i := 536) (by decide +kernel), List.mem_of_getElem? (i := 648) (by decide +kernel), List.mem_of_getElem? (i := 649) (by decide +kernel)⟩
theorem lw_p19 : lw_okq (⟨"MonitorQueuesModel", "answer", "(I)I"⟩, 28) := ⟨⟨by decide +kernel, by decide +kernel⟩, List.mem_of_getElem? (i := 536) (by decide +kernel), List.mem_of_getElem? (i := 652) (by decide +kernel), List.mem_of_getElem? (i := 653) (by decide +kernel)⟩
theorem lw_p20 : lw_okq (⟨"MonitorQueuesModel", "look", "()V"⟩, 28) := ⟨⟨by decide +kernel, by decide +kernel⟩, List.mem_of_getElem? (i := 536) (by decide +kernel), List.mem_of_getElem? (i := 656) (by decide +kernel), List.mem_of_getElem? (i := 657) (by decide +kernel)⟩
theorem lw_p21 : lw_okq (⟨"MonitorQueuesModel", "standing", "(I)I"⟩, 28) := ⟨⟨by decide +kernel, by decide +kernel⟩, List.mem_of_getElem? (i := 536) (by decide +kernel), List.mem_of_getElem? (i := 660) (by decide +kernel), List.mem_of_getElem? (i := 661) (by decide +kernel)⟩
theorem lw_p22 : lw_okq (⟨"MonitorQueuesModel", "task", "(I)I"⟩, 28) := ⟨⟨by decide +kernel, by decide +kernel⟩, List.mem_of_getElem? (i := 536) (by decide +kernel), List.mem_of_getElem? (i := 664) (by decide +kernel), List.mem_of_getElem? (i := 665) (by decide +kernel)⟩
theorem lw_p23 : lw_okq (⟨"MonitorQueuesModel", "isTemporary", "(I)Z"⟩, 28) := ⟨⟨by decide +kernel, by decide +kernel⟩, List.mem_of_getElem? (i := 536) (by decide +kernel), List.mem_of_getElem? (i := 672) (by decide +kernel), List.mem_of_getElem? (i := 673) (by decide +kernel)⟩
theorem lw_p24 : lw_okq (⟨"MonitorQueuesModel", "placeOf", "(II)I"⟩, 28) := ⟨⟨by decide +kernel, by decide +kernel⟩, List.mem_of_getElem? (i := 536) (by decide +kernel), List.mem_of_getElem? (i := 676) (by decide +kernel), List.mem_of_getElem? (i := 677) (by decide +kernel)⟩
theorem lw_p25 : lw_okq (⟨"MonitorQueuesModel", "nexting", "(II)I"⟩, 28) := ⟨⟨by decide +kernel, by decide +kernel⟩, List.mem_of_getElem? (i := 536) (by decide +kernel), List.mem_of_getElem? (i := 684) (by decide +kernel), List.mem_of_getElem? (i := 685) (by decide +kernel)⟩
theorem lw_p26 : lw_okq (⟨"MonitorQueuesModel", "isTransient", "(I)Z"⟩, 28) := ⟨⟨by decide +kernel, by decide +kernel⟩, List.mem_of_getElem? (i := 536) (by decide +kernel), List.mem_of_getElem? (i := 688) (by decide +kernel), List.mem_of_getElem? (i := 689) (by decide +kernel)⟩
theorem lw_p27 : lw_okq (⟨"MonitorQueuesModel", "taking", "(I)I"⟩, 28) := ⟨⟨by decide +kernel, by decide +kernel⟩, List.mem_of_getElem? (i := 536) (by decide +kernel), List.mem_of_getElem? (i := 696) (by decide +kernel), List.mem_of_getElem? (i := 697) (by decide +kernel)⟩
theorem lw_p28 : lw_okq (⟨"MonitorQueuesModel", "remove", "(I)V"⟩, 28) := ⟨⟨by decide +kernel, by decide +kernel⟩, List.mem_of_getElem? (i := 536) (by decide +kernel), List.mem_of_getElem? (i := 700) (by decide +kernel), List.mem_of_getElem? (i := 701) (by decide +kernel)⟩
theorem lw_p29 : lw_okq (⟨"MonitorQueuesModel", "emptied", "(I)V"⟩, 28) := ⟨⟨by decide +kernel, by decide +kernel⟩, List.mem_of_getElem? (i := 536) (by decide +kernel), List.mem_of_getElem? (i := 704) (by decide +kernel), List.mem_of_getElem? (i := 705) (by decide +kernel)⟩
theorem lw_p30 : lw_okq (⟨"MonitorQueuesModel", "triggers", "(III)I"⟩, 28) := ⟨⟨by decide +kernel, by decide +kernel⟩, List.mem_of_getElem? (i := 536) (by decide +kernel), List.mem_of_getElem? (i := 712) (by decide +kernel), List.mem_of_getElem? (i := 713) (by decide +kernel)⟩
theorem lw_p31 : lw_okq (⟨"MonitorQueuesModel", "ending", "(I)I"⟩, 28) := ⟨⟨by decide +kernel, by decide +kernel⟩, List.mem_of_getElem? (i := 536) (by decide +kernel), List.mem_of_getElem? (i := 724) (by decide +kernel), List.mem_of_getElem? (i := 725) (by decide +kernel)⟩
def lw_privs_2 : List (MethodName × Nat) := [(⟨"MonitorQueuesModel", "putting", "(IIJI)I"⟩, 28), (⟨"MonitorQueuesModel", "lockOf", "(I)I"⟩, 28), (⟨"MonitorQueuesModel", "many", "(I)I"⟩, 28), (⟨"MonitorQueuesModel", "answer", "(I)I"⟩, 28), (⟨"MonitorQueuesModel", "look", "()V"⟩, 28), (⟨"MonitorQueuesModel", "standing", "(I)I"⟩, 28), (⟨"MonitorQueuesModel", "task", "(I)I"⟩, 28), (⟨"MonitorQueuesModel", "isTemporary", "(I)Z"⟩, 28), (⟨"MonitorQueuesModel", "placeOf", "(II)I"⟩, 28), (⟨"MonitorQueuesModel", "nexting", "(II)I"⟩, 28), (⟨"MonitorQueuesModel", "isTransient", "(I)Z"⟩, 28), (⟨"MonitorQueuesModel", "taking", "(I)I"⟩, 28), (⟨"MonitorQueuesModel", "remove", "(I)V"⟩, 28), (⟨"MonitorQueuesModel", "emptied", "(I)V"⟩, 28), (⟨"MonitorQueuesModel", "triggers", "(III)I"⟩, 28), (⟨"MonitorQueuesModel", "ending", "(I)I"⟩, 28)]
theorem lw_r2 : ∀ q ∈ lw_privs_2, lw_okq q := List.forall_mem_cons.mpr ⟨lw_p16, List.forall_mem_cons.mpr ⟨lw_p17, List.forall_mem_cons.mpr ⟨lw_p18, List.forall_mem_cons.mpr ⟨lw_p19, List.forall_mem_cons.mpr ⟨lw_p20, List.forall_mem_cons.mpr ⟨lw_p21, List.forall_mem_cons.mpr ⟨lw_p22, List.forall_mem_cons.mpr ⟨lw_p23, List.forall_mem_cons.mpr ⟨lw_p24, List.forall_mem_cons.mpr ⟨lw_p25, List.forall_mem_cons.mpr ⟨lw_p26, List.forall_mem_cons.mpr ⟨lw_p27, List.forall_mem_cons.mpr ⟨lw_p28, List.forall_mem_cons.mpr ⟨lw_p29, List.forall_mem_cons.mpr ⟨lw_p30, List.forall_mem_cons.mpr ⟨lw_p31, fun _ h => absurd h List.not_mem_nil⟩⟩⟩⟩⟩⟩⟩⟩⟩⟩⟩⟩⟩⟩⟩⟩
theorem lw_p32 : lw_okq (⟨"MonitorQueuesModel", "rewriting", "(IIJ)I"⟩, 28) := ⟨⟨by decide +kernel, by decide +kernel⟩, List.mem_of_getElem? (i := 536) (by decide +kernel), List.mem_of_getElem? (i := 732) (by decide +kernel), List.mem_of_getElem? (i := 733) (by decide +kernel)⟩
theorem lw_p33 : lw_okq (⟨"MonitorQueuesModel", "drop", "(I)V"⟩, 28) := ⟨⟨by decide +kernel, by decide +kernel⟩, List.mem_of_getElem? (i := 536) (by decide +kernel), List.mem_of_getElem? (i := 744) (by decide +kernel), List.mem_of_getElem? (i := 745) (by decide +kernel)⟩
theorem lw_p34 : lw_okq (⟨"MonitorQueuesModel", "unitEnds", "(IZ)I"⟩, 28) := ⟨⟨by decide +kernel, by decide +kernel⟩, List.mem_of_getElem? (i := 536) (by decide +kernel), List.mem_of_getElem? (i := 756) (by decide +kernel), List.mem_of_getElem? (i := 757) (by decide +kernel)⟩
def lw_privs_3 : List (MethodName × Nat) := [(⟨"MonitorQueuesModel", "rewriting", "(IIJ)I"⟩, 28), (⟨"MonitorQueuesModel", "drop", "(I)V"⟩, 28), (⟨"MonitorQueuesModel", "unitEnds", "(IZ)I"⟩, 28)]
theorem lw_r3 : ∀ q ∈ lw_privs_3, lw_okq q := List.forall_mem_cons.mpr ⟨lw_p32, List.forall_mem_cons.mpr ⟨lw_p33, List.forall_mem_cons.mpr ⟨lw_p34, fun _ h => absurd h List.not_mem_nil⟩⟩⟩
def lw_privs : List (MethodName × Nat) := lw_privs_1 ++ (lw_privs_2 ++ (lw_privs_3))
def lw_tbl : List Cond := k2_sels lw_privs ++ tables_1
theorem lw_privs_ok : ∀ q ∈ lw_privs, lw_okq q := by
  show ∀ q ∈ lw_privs_1 ++ (lw_privs_2 ++ (lw_privs_3)), lw_okq q
  exact List.forall_mem_append.mpr ⟨lw_r1, List.forall_mem_append.mpr ⟨lw_r2, lw_r3⟩⟩
end
section
abbrev b_MQ_init : ByteArray := prog_1_method_1_code
def y_MQ_init : MethodName := ⟨"MonitorQueues", "<init>", "(I)V"⟩
abbrev b_Oj_init : ByteArray := object_method_1_code
def y_Oj_init : MethodName := ⟨"java/lang/Object", "<init>", "()V"⟩
abbrev b_Ma_min : ByteArray := prog_13_method_69_code
def y_Ma_min : MethodName := ⟨"java/lang/Math", "min", "(II)I"⟩
abbrev b_Ma_max : ByteArray := prog_13_method_65_code
def y_Ma_max : MethodName := ⟨"java/lang/Math", "max", "(II)I"⟩
abbrev b_Qu_init : ByteArray := prog_4_method_1_code
def y_Qu_init : MethodName := ⟨"MonitorQueues$Queue", "<init>", "()V"⟩
abbrev b_AL_init : ByteArray := prog_20_method_2_code
def y_AL_init : MethodName := ⟨"java/util/ArrayList", "<init>", "()V"⟩
abbrev b_AB_init : ByteArray := prog_19_method_1_code
def y_AB_init : MethodName := ⟨"java/util/AbstractList", "<init>", "()V"⟩
abbrev b_AC_init : ByteArray := prog_18_method_1_code
def y_AC_init : MethodName := ⟨"java/util/AbstractCollection", "<init>", "()V"⟩
abbrev b_MQ_put : ByteArray := prog_1_method_2_code
def y_MQ_put : MethodName := ⟨"MonitorQueues", "put", "(IIJI)I"⟩
abbrev b_MQ_isQueue : ByteArray := prog_1_method_16_code
def y_MQ_isQueue : MethodName := ⟨"MonitorQueues", "isQueue", "(I)Z"⟩
abbrev b_Qu_admits : ByteArray := prog_4_method_9_code
def y_Qu_admits : MethodName := ⟨"MonitorQueues$Queue", "admits", "(I)Z"⟩
abbrev b_Qu_isTransientKind : ByteArray := prog_4_method_2_code
def y_Qu_isTransientKind : MethodName := ⟨"MonitorQueues$Queue", "isTransientKind", "(I)Z"⟩
abbrev b_Qu_isLocked : ByteArray := prog_4_method_6_code
def y_Qu_isLocked : MethodName := ⟨"MonitorQueues$Queue", "isLocked", "()Z"⟩
abbrev b_MQ_allItems : ByteArray := prog_1_method_18_code
def y_MQ_allItems : MethodName := ⟨"MonitorQueues", "allItems", "()I"⟩
abbrev b_AL_size : ByteArray := prog_20_method_8_code
def y_AL_size : MethodName := ⟨"java/util/ArrayList", "size", "()I"⟩
abbrev b_Qu_touch : ByteArray := prog_4_method_10_code
def y_Qu_touch : MethodName := ⟨"MonitorQueues$Queue", "touch", "(J)V"⟩
abbrev b_Qu_append : ByteArray := prog_4_method_11_code
def y_Qu_append : MethodName := ⟨"MonitorQueues$Queue", "append", "(IJI)I"⟩
abbrev b_It_init : ByteArray := prog_3_method_1_code
def y_It_init : MethodName := ⟨"MonitorQueues$Item", "<init>", "(J)V"⟩
abbrev b_AL_add : ByteArray := prog_20_method_25_code
def y_AL_add : MethodName := ⟨"java/util/ArrayList", "add", "(Ljava/lang/Object;)Z"⟩
abbrev b_AL_add2 : ByteArray := prog_20_method_24_code
def y_AL_add2 : MethodName := ⟨"java/util/ArrayList", "add", "(Ljava/lang/Object;[Ljava/lang/Object;I)V"⟩
abbrev b_AL_add3 : ByteArray := prog_20_method_26_code
def y_AL_add3 : MethodName := ⟨"java/util/ArrayList", "add", "(ILjava/lang/Object;)V"⟩
abbrev b_AL_grow : ByteArray := prog_20_method_7_code
def y_AL_grow : MethodName := ⟨"java/util/ArrayList", "grow", "()[Ljava/lang/Object;"⟩
abbrev b_AL_grow2 : ByteArray := prog_20_method_6_code
def y_AL_grow2 : MethodName := ⟨"java/util/ArrayList", "grow", "(I)[Ljava/lang/Object;"⟩
abbrev b_AS_newLength : ByteArray := prog_28_method_27_code
def y_AS_newLength : MethodName := ⟨"jdk/internal/util/ArraysSupport", "newLength", "(III)I"⟩
abbrev b_AS_hugeLength : ByteArray := prog_28_method_28_code
def y_AS_hugeLength : MethodName := ⟨"jdk/internal/util/ArraysSupport", "hugeLength", "(II)I"⟩
abbrev b_Ar_copyOf : ByteArray := prog_21_method_119_code
def y_Ar_copyOf : MethodName := ⟨"java/util/Arrays", "copyOf", "([Ljava/lang/Object;I)[Ljava/lang/Object;"⟩
abbrev b_Ar_copyOf2 : ByteArray := prog_21_method_120_code
def y_Ar_copyOf2 : MethodName := ⟨"java/util/Arrays", "copyOf", "([Ljava/lang/Object;ILjava/lang/Class;)[Ljava/lang/Object;"⟩
abbrev b_Qu_isProtectedKind : ByteArray := prog_4_method_3_code
def y_Qu_isProtectedKind : MethodName := ⟨"MonitorQueues$Queue", "isProtectedKind", "(I)Z"⟩
abbrev b_Qu_isTransient : ByteArray := prog_4_method_4_code
def y_Qu_isTransient : MethodName := ⟨"MonitorQueues$Queue", "isTransient", "()Z"⟩
abbrev b_MQ_lookAtTriggers : ByteArray := prog_1_method_21_code
def y_MQ_lookAtTriggers : MethodName := ⟨"MonitorQueues", "lookAtTriggers", "()V"⟩
abbrev b_Qu_standing : ByteArray := prog_4_method_7_code
def y_Qu_standing : MethodName := ⟨"MonitorQueues$Queue", "standing", "()I"⟩
abbrev b_MQ_look : ByteArray := prog_1_method_22_code
def y_MQ_look : MethodName := ⟨"MonitorQueues", "look", "(LMonitorQueues$Trigger;I)V"⟩
abbrev b_MQ_beginFor : ByteArray := prog_1_method_20_code
def y_MQ_beginFor : MethodName := ⟨"MonitorQueues", "beginFor", "(LMonitorQueues$Trigger;)I"⟩
abbrev b_MQ_begin : ByteArray := prog_1_method_19_code
def y_MQ_begin : MethodName := ⟨"MonitorQueues", "begin", "(I)I"⟩
abbrev b_Ta_init : ByteArray := prog_5_method_1_code
def y_Ta_init : MethodName := ⟨"MonitorQueues$Task", "<init>", "(I)V"⟩
abbrev b_MQ_next : ByteArray := prog_1_method_4_code
def y_MQ_next : MethodName := ⟨"MonitorQueues", "next", "(II)I"⟩
abbrev b_Qu_holds : ByteArray := prog_4_method_8_code
def y_Qu_holds : MethodName := ⟨"MonitorQueues$Queue", "holds", "(I)Z"⟩
abbrev b_MQ_take : ByteArray := prog_1_method_5_code
def y_MQ_take : MethodName := ⟨"MonitorQueues", "take", "(I)I"⟩
abbrev b_Qu_isTemporary : ByteArray := prog_4_method_5_code
def y_Qu_isTemporary : MethodName := ⟨"MonitorQueues$Queue", "isTemporary", "()Z"⟩
abbrev b_AL_isEmpty : ByteArray := prog_20_method_9_code
def y_AL_isEmpty : MethodName := ⟨"java/util/ArrayList", "isEmpty", "()Z"⟩
abbrev b_Qu_removeFirst : ByteArray := prog_4_method_12_code
def y_Qu_removeFirst : MethodName := ⟨"MonitorQueues$Queue", "removeFirst", "()I"⟩
abbrev b_AL_get : ByteArray := prog_20_method_20_code
def y_AL_get : MethodName := ⟨"java/util/ArrayList", "get", "(I)Ljava/lang/Object;"⟩
abbrev b_Ob_checkIndex : ByteArray := prog_25_method_17_code
def y_Ob_checkIndex : MethodName := ⟨"java/util/Objects", "checkIndex", "(II)I"⟩
abbrev b_Pr_checkIndex : ByteArray := prog_29_method_11_code
def y_Pr_checkIndex : MethodName := ⟨"jdk/internal/util/Preconditions", "checkIndex", "(IILjava/util/function/BiFunction;)I"⟩
abbrev b_AL_elementData : ByteArray := prog_20_method_18_code
def y_AL_elementData : MethodName := ⟨"java/util/ArrayList", "elementData", "(I)Ljava/lang/Object;"⟩
abbrev b_AL_remove : ByteArray := prog_20_method_29_code
def y_AL_remove : MethodName := ⟨"java/util/ArrayList", "remove", "(I)Ljava/lang/Object;"⟩
abbrev b_AL_fastRemove : ByteArray := prog_20_method_39_code
def y_AL_fastRemove : MethodName := ⟨"java/util/ArrayList", "fastRemove", "([Ljava/lang/Object;I)V"⟩
abbrev b_Qu_becomeEmpty : ByteArray := prog_4_method_15_code
def y_Qu_becomeEmpty : MethodName := ⟨"MonitorQueues$Queue", "becomeEmpty", "()V"⟩
abbrev b_AL_clear : ByteArray := prog_20_method_40_code
def y_AL_clear : MethodName := ⟨"java/util/ArrayList", "clear", "()V"⟩
abbrev b_Ar_fill : ByteArray := prog_21_method_103_code
def y_Ar_fill : MethodName := ⟨"java/util/Arrays", "fill", "([II)V"⟩
abbrev b_MQ_trigger : ByteArray := prog_1_method_6_code
def y_MQ_trigger : MethodName := ⟨"MonitorQueues", "trigger", "(III)I"⟩
abbrev b_Tr_init : ByteArray := prog_6_method_1_code
def y_Tr_init : MethodName := ⟨"MonitorQueues$Trigger", "<init>", "(II)V"⟩
abbrev b_MQ_started : ByteArray := prog_1_method_7_code
def y_MQ_started : MethodName := ⟨"MonitorQueues", "started", "(I)I"⟩
abbrev b_MQ_isTask : ByteArray := prog_1_method_17_code
def y_MQ_isTask : MethodName := ⟨"MonitorQueues", "isTask", "(I)Z"⟩
abbrev b_MQ_end : ByteArray := prog_1_method_8_code
def y_MQ_end : MethodName := ⟨"MonitorQueues", "end", "(I)I"⟩
abbrev b_MQ_beginAgain : ByteArray := prog_1_method_23_code
def y_MQ_beginAgain : MethodName := ⟨"MonitorQueues", "beginAgain", "(I)I"⟩
abbrev b_MQ_rewrite : ByteArray := prog_1_method_9_code
def y_MQ_rewrite : MethodName := ⟨"MonitorQueues", "rewrite", "(IIJ)I"⟩
abbrev b_MQ_delay : ByteArray := prog_1_method_10_code
def y_MQ_delay : MethodName := ⟨"MonitorQueues", "delay", "(IJ)I"⟩
abbrev b_De_init : ByteArray := prog_2_method_1_code
def y_De_init : MethodName := ⟨"MonitorQueues$Delay", "<init>", "(IIJ)V"⟩
abbrev b_MQ_keepWaiting : ByteArray := prog_1_method_24_code
def y_MQ_keepWaiting : MethodName := ⟨"MonitorQueues", "keepWaiting", "(LMonitorQueues$Delay;)V"⟩
abbrev b_AL_rangeCheckForAdd : ByteArray := prog_20_method_45_code
def y_AL_rangeCheckForAdd : MethodName := ⟨"java/util/ArrayList", "rangeCheckForAdd", "(I)V"⟩
abbrev b_MQ_postDue : ByteArray := prog_1_method_25_code
def y_MQ_postDue : MethodName := ⟨"MonitorQueues", "postDue", "()I"⟩
abbrev b_MQ_cancel : ByteArray := prog_1_method_11_code
def y_MQ_cancel : MethodName := ⟨"MonitorQueues", "cancel", "(I)I"⟩
abbrev b_MQ_tick : ByteArray := prog_1_method_12_code
def y_MQ_tick : MethodName := ⟨"MonitorQueues", "tick", "(J)I"⟩
abbrev b_MQ_unit : ByteArray := prog_1_method_13_code
def y_MQ_unit : MethodName := ⟨"MonitorQueues", "unit", "(IZ)I"⟩
abbrev b_Qu_endPending : ByteArray := prog_4_method_13_code
def y_Qu_endPending : MethodName := ⟨"MonitorQueues$Queue", "endPending", "(Z)I"⟩
abbrev b_Qu_dropLast : ByteArray := prog_4_method_14_code
def y_Qu_dropLast : MethodName := ⟨"MonitorQueues$Queue", "dropLast", "(I)V"⟩
abbrev b_MQ_age : ByteArray := prog_1_method_14_code
def y_MQ_age : MethodName := ⟨"MonitorQueues", "age", "(J)I"⟩
abbrev b_MQ_count : ByteArray := prog_1_method_15_code
def y_MQ_count : MethodName := ⟨"MonitorQueues", "count", "(I)I"⟩
abbrev b_La_cell : ByteArray := method_2_code
def y_La_cell : MethodName := ⟨"MonitorQueuesLaw", "cell", "([II)I"⟩
abbrev b_La_get : ByteArray := method_3_code
def y_La_get : MethodName := ⟨"MonitorQueuesLaw", "get", "(LMonitorQueues;II[J)I"⟩
abbrev b_MQ_get : ByteArray := prog_1_method_3_code
def y_MQ_get : MethodName := ⟨"MonitorQueues", "get", "(II)J"⟩
abbrev b_Th_init : ByteArray := prog_17_method_1_code
def y_Th_init : MethodName := ⟨"java/lang/Throwable", "<init>", "()V"⟩
abbrev b_Th_init2 : ByteArray := prog_17_method_2_code
def y_Th_init2 : MethodName := ⟨"java/lang/Throwable", "<init>", "(Ljava/lang/String;)V"⟩
abbrev b_Th_fillInStackTrace : ByteArray := prog_17_method_18_code
def y_Th_fillInStackTrace : MethodName := ⟨"java/lang/Throwable", "fillInStackTrace", "()Ljava/lang/Throwable;"⟩
abbrev b_Ne_init : ByteArray := prog_24_method_4_code
def y_Ne_init : MethodName := ⟨"java/util/NoSuchElementException", "<init>", "(Ljava/lang/String;)V"⟩
abbrev b_Re_init : ByteArray := prog_14_method_2_code
def y_Re_init : MethodName := ⟨"java/lang/RuntimeException", "<init>", "(Ljava/lang/String;)V"⟩
abbrev b_Ex_init : ByteArray := prog_11_method_2_code
def y_Ex_init : MethodName := ⟨"java/lang/Exception", "<init>", "(Ljava/lang/String;)V"⟩
abbrev b_Mo_init : ByteArray := prog_8_method_1_code
def y_Mo_init : MethodName := ⟨"MonitorQueuesModel", "<init>", "(I)V"⟩
abbrev b_Mo_thrown : ByteArray := prog_8_method_2_code
def y_Mo_thrown : MethodName := ⟨"MonitorQueuesModel", "thrown", "()I"⟩
abbrev b_Mo_put : ByteArray := prog_8_method_16_code
def y_Mo_put : MethodName := ⟨"MonitorQueuesModel", "put", "(IIJI)I"⟩
abbrev b_Mo_putting : ByteArray := prog_8_method_15_code
def y_Mo_putting : MethodName := ⟨"MonitorQueuesModel", "putting", "(IIJI)I"⟩
abbrev b_Mo_isQueue : ByteArray := prog_8_method_3_code
def y_Mo_isQueue : MethodName := ⟨"MonitorQueuesModel", "isQueue", "(I)Z"⟩
abbrev b_Mo_lockOf : ByteArray := prog_8_method_7_code
def y_Mo_lockOf : MethodName := ⟨"MonitorQueuesModel", "lockOf", "(I)I"⟩
abbrev b_Mo_many : ByteArray := prog_8_method_4_code
def y_Mo_many : MethodName := ⟨"MonitorQueuesModel", "many", "(I)I"⟩
abbrev b_Mo_answer : ByteArray := prog_8_method_14_code
def y_Mo_answer : MethodName := ⟨"MonitorQueuesModel", "answer", "(I)I"⟩
abbrev b_Mo_look : ByteArray := prog_8_method_13_code
def y_Mo_look : MethodName := ⟨"MonitorQueuesModel", "look", "()V"⟩
abbrev b_Mo_standing : ByteArray := prog_8_method_5_code
def y_Mo_standing : MethodName := ⟨"MonitorQueuesModel", "standing", "(I)I"⟩
abbrev b_Mo_task : ByteArray := prog_8_method_12_code
def y_Mo_task : MethodName := ⟨"MonitorQueuesModel", "task", "(I)I"⟩
abbrev b_Mo_get : ByteArray := prog_8_method_17_code
def y_Mo_get : MethodName := ⟨"MonitorQueuesModel", "get", "(II)J"⟩
abbrev b_Mo_isTemporary : ByteArray := prog_8_method_10_code
def y_Mo_isTemporary : MethodName := ⟨"MonitorQueuesModel", "isTemporary", "(I)Z"⟩
abbrev b_Mo_placeOf : ByteArray := prog_8_method_6_code
def y_Mo_placeOf : MethodName := ⟨"MonitorQueuesModel", "placeOf", "(II)I"⟩
abbrev b_Mo_next : ByteArray := prog_8_method_19_code
def y_Mo_next : MethodName := ⟨"MonitorQueuesModel", "next", "(II)I"⟩
abbrev b_Mo_nexting : ByteArray := prog_8_method_18_code
def y_Mo_nexting : MethodName := ⟨"MonitorQueuesModel", "nexting", "(II)I"⟩
abbrev b_Mo_isTransient : ByteArray := prog_8_method_11_code
def y_Mo_isTransient : MethodName := ⟨"MonitorQueuesModel", "isTransient", "(I)Z"⟩
abbrev b_Mo_take : ByteArray := prog_8_method_21_code
def y_Mo_take : MethodName := ⟨"MonitorQueuesModel", "take", "(I)I"⟩
abbrev b_Mo_taking : ByteArray := prog_8_method_20_code
def y_Mo_taking : MethodName := ⟨"MonitorQueuesModel", "taking", "(I)I"⟩
abbrev b_Mo_remove : ByteArray := prog_8_method_8_code
def y_Mo_remove : MethodName := ⟨"MonitorQueuesModel", "remove", "(I)V"⟩
abbrev b_Mo_emptied : ByteArray := prog_8_method_9_code
def y_Mo_emptied : MethodName := ⟨"MonitorQueuesModel", "emptied", "(I)V"⟩
abbrev b_Mo_trigger : ByteArray := prog_8_method_23_code
def y_Mo_trigger : MethodName := ⟨"MonitorQueuesModel", "trigger", "(III)I"⟩
abbrev b_Mo_triggers : ByteArray := prog_8_method_22_code
def y_Mo_triggers : MethodName := ⟨"MonitorQueuesModel", "triggers", "(III)I"⟩
abbrev b_Mo_started : ByteArray := prog_8_method_24_code
def y_Mo_started : MethodName := ⟨"MonitorQueuesModel", "started", "(I)I"⟩
abbrev b_Mo_end : ByteArray := prog_8_method_26_code
def y_Mo_end : MethodName := ⟨"MonitorQueuesModel", "end", "(I)I"⟩
abbrev b_Mo_ending : ByteArray := prog_8_method_25_code
def y_Mo_ending : MethodName := ⟨"MonitorQueuesModel", "ending", "(I)I"⟩
abbrev b_Mo_rewrite : ByteArray := prog_8_method_28_code
def y_Mo_rewrite : MethodName := ⟨"MonitorQueuesModel", "rewrite", "(IIJ)I"⟩
abbrev b_Mo_rewriting : ByteArray := prog_8_method_27_code
def y_Mo_rewriting : MethodName := ⟨"MonitorQueuesModel", "rewriting", "(IIJ)I"⟩
abbrev b_Mo_delay : ByteArray := prog_8_method_29_code
def y_Mo_delay : MethodName := ⟨"MonitorQueuesModel", "delay", "(IJ)I"⟩
abbrev b_Mo_cancel : ByteArray := prog_8_method_31_code
def y_Mo_cancel : MethodName := ⟨"MonitorQueuesModel", "cancel", "(I)I"⟩
abbrev b_Mo_drop : ByteArray := prog_8_method_30_code
def y_Mo_drop : MethodName := ⟨"MonitorQueuesModel", "drop", "(I)V"⟩
abbrev b_Mo_tick : ByteArray := prog_8_method_32_code
def y_Mo_tick : MethodName := ⟨"MonitorQueuesModel", "tick", "(J)I"⟩
abbrev b_Mo_unit : ByteArray := prog_8_method_34_code
def y_Mo_unit : MethodName := ⟨"MonitorQueuesModel", "unit", "(IZ)I"⟩
abbrev b_Mo_unitEnds : ByteArray := prog_8_method_33_code
def y_Mo_unitEnds : MethodName := ⟨"MonitorQueuesModel", "unitEnds", "(IZ)I"⟩
abbrev b_Mo_age : ByteArray := prog_8_method_35_code
def y_Mo_age : MethodName := ⟨"MonitorQueuesModel", "age", "(J)I"⟩
abbrev b_Mo_count : ByteArray := prog_8_method_36_code
def y_Mo_count : MethodName := ⟨"MonitorQueuesModel", "count", "(I)I"⟩
def GT : List Cond := lw_tbl.filter goodWord
theorem gt_good : GoodIn GT GT := fun w hw => ⟨hw, good_of_word (List.mem_filter.mp hw).2⟩
theorem gt_t {w : Cond} (h : w ∈ tables_1) (hg : goodWord w = true) : w ∈ GT := List.mem_filter.mpr ⟨List.mem_append_right _ h, hg⟩
theorem gt_1 {w : Cond} (i : Nat) (h : tables_1_1[i]? = some w) : w ∈ tables_1 := List.mem_append_left _ (List.mem_of_getElem? h)
theorem gt_2 {w : Cond} (i : Nat) (h : tables_1_2[i]? = some w) : w ∈ tables_1 := List.mem_append_right _ (List.mem_append_left _ (List.mem_of_getElem? h))
theorem gt_3 {w : Cond} (i : Nat) (h : tables_1_3[i]? = some w) : w ∈ tables_1 := List.mem_append_right _ (List.mem_append_right _ (List.mem_append_left _ (List.mem_of_getElem? h)))
theorem gt_4 {w : Cond} (i : Nat) (h : tables_1_4[i]? = some w) : w ∈ tables_1 := List.mem_append_right _ (List.mem_append_right _ (List.mem_append_right _ (List.mem_of_getElem? h)))
theorem gt_s {w : Cond} (i : Nat) (h : (k2_sels lw_privs)[i]? = some w) (hg : goodWord w = true) : w ∈ GT := List.mem_filter.mpr ⟨List.mem_append_left _ (List.mem_of_getElem? h), hg⟩
theorem gw_0 : (Cond.selects "MonitorQueues" ⟨"MonitorQueues", "isQueue", "(I)Z"⟩ ⟨"MonitorQueues", "isQueue", "(I)Z"⟩) ∈ GT := gt_s 0 (by decide +kernel) rfl
theorem gw_1 : (Cond.selects "MonitorQueues" ⟨"MonitorQueues", "allItems", "()I"⟩ ⟨"MonitorQueues", "allItems", "()I"⟩) ∈ GT := gt_s 1 (by decide +kernel) rfl
theorem gw_2 : (Cond.selects "java/util/ArrayList" ⟨"java/util/ArrayList", "add", "(Ljava/lang/Object;[Ljava/lang/Object;I)V"⟩ ⟨"java/util/ArrayList", "add", "(Ljava/lang/Object;[Ljava/lang/Object;I)V"⟩) ∈ GT := gt_s 2 (by decide +kernel) rfl
theorem gw_3 : (Cond.selects "java/util/ArrayList" ⟨"java/util/ArrayList", "grow", "()[Ljava/lang/Object;"⟩ ⟨"java/util/ArrayList", "grow", "()[Ljava/lang/Object;"⟩) ∈ GT := gt_s 3 (by decide +kernel) rfl
theorem gw_4 : (Cond.selects "java/util/ArrayList" ⟨"java/util/ArrayList", "grow", "(I)[Ljava/lang/Object;"⟩ ⟨"java/util/ArrayList", "grow", "(I)[Ljava/lang/Object;"⟩) ∈ GT := gt_s 4 (by decide +kernel) rfl
theorem gw_5 : (Cond.selects "MonitorQueues" ⟨"MonitorQueues", "lookAtTriggers", "()V"⟩ ⟨"MonitorQueues", "lookAtTriggers", "()V"⟩) ∈ GT := gt_s 5 (by decide +kernel) rfl
theorem gw_6 : (Cond.selects "MonitorQueues" ⟨"MonitorQueues", "look", "(LMonitorQueues$Trigger;I)V"⟩ ⟨"MonitorQueues", "look", "(LMonitorQueues$Trigger;I)V"⟩) ∈ GT := gt_s 6 (by decide +kernel) rfl
theorem gw_7 : (Cond.selects "MonitorQueues" ⟨"MonitorQueues", "beginFor", "(LMonitorQueues$Trigger;)I"⟩ ⟨"MonitorQueues", "beginFor", "(LMonitorQueues$Trigger;)I"⟩) ∈ GT := gt_s 7 (by decide +kernel) rfl
theorem gw_8 : (Cond.selects "MonitorQueues" ⟨"MonitorQueues", "begin", "(I)I"⟩ ⟨"MonitorQueues", "begin", "(I)I"⟩) ∈ GT := gt_s 8 (by decide +kernel) rfl
theorem gw_9 : (Cond.selects "java/util/ArrayList" ⟨"java/util/ArrayList", "fastRemove", "([Ljava/lang/Object;I)V"⟩ ⟨"java/util/ArrayList", "fastRemove", "([Ljava/lang/Object;I)V"⟩) ∈ GT := gt_s 9 (by decide +kernel) rfl
theorem gw_10 : (Cond.selects "MonitorQueues" ⟨"MonitorQueues", "isTask", "(I)Z"⟩ ⟨"MonitorQueues", "isTask", "(I)Z"⟩) ∈ GT := gt_s 10 (by decide +kernel) rfl
theorem gw_11 : (Cond.selects "MonitorQueues" ⟨"MonitorQueues", "beginAgain", "(I)I"⟩ ⟨"MonitorQueues", "beginAgain", "(I)I"⟩) ∈ GT := gt_s 11 (by decide +kernel) rfl
theorem gw_12 : (Cond.selects "MonitorQueues" ⟨"MonitorQueues", "keepWaiting", "(LMonitorQueues$Delay;)V"⟩ ⟨"MonitorQueues", "keepWaiting", "(LMonitorQueues$Delay;)V"⟩) ∈ GT := gt_s 12 (by decide +kernel) rfl
theorem gw_13 : (Cond.selects "java/util/ArrayList" ⟨"java/util/ArrayList", "rangeCheckForAdd", "(I)V"⟩ ⟨"java/util/ArrayList", "rangeCheckForAdd", "(I)V"⟩) ∈ GT := gt_s 13 (by decide +kernel) rfl
theorem gw_14 : (Cond.selects "MonitorQueues" ⟨"MonitorQueues", "postDue", "()I"⟩ ⟨"MonitorQueues", "postDue", "()I"⟩) ∈ GT := gt_s 14 (by decide +kernel) rfl
theorem gw_16 : (Cond.selects "MonitorQueuesModel" ⟨"MonitorQueuesModel", "putting", "(IIJI)I"⟩ ⟨"MonitorQueuesModel", "putting", "(IIJI)I"⟩) ∈ GT := gt_s 16 (by decide +kernel) rfl
theorem gw_17 : (Cond.selects "MonitorQueuesModel" ⟨"MonitorQueuesModel", "lockOf", "(I)I"⟩ ⟨"MonitorQueuesModel", "lockOf", "(I)I"⟩) ∈ GT := gt_s 17 (by decide +kernel) rfl
theorem gw_18 : (Cond.selects "MonitorQueuesModel" ⟨"MonitorQueuesModel", "many", "(I)I"⟩ ⟨"MonitorQueuesModel", "many", "(I)I"⟩) ∈ GT := gt_s 18 (by decide +kernel) rfl
theorem gw_19 : (Cond.selects "MonitorQueuesModel" ⟨"MonitorQueuesModel", "answer", "(I)I"⟩ ⟨"MonitorQueuesModel", "answer", "(I)I"⟩) ∈ GT := gt_s 19 (by decide +kernel) rfl
theorem gw_20 : (Cond.selects "MonitorQueuesModel" ⟨"MonitorQueuesModel", "look", "()V"⟩ ⟨"MonitorQueuesModel", "look", "()V"⟩) ∈ GT := gt_s 20 (by decide +kernel) rfl
theorem gw_21 : (Cond.selects "MonitorQueuesModel" ⟨"MonitorQueuesModel", "standing", "(I)I"⟩ ⟨"MonitorQueuesModel", "standing", "(I)I"⟩) ∈ GT := gt_s 21 (by decide +kernel) rfl
theorem gw_22 : (Cond.selects "MonitorQueuesModel" ⟨"MonitorQueuesModel", "task", "(I)I"⟩ ⟨"MonitorQueuesModel", "task", "(I)I"⟩) ∈ GT := gt_s 22 (by decide +kernel) rfl
theorem gw_23 : (Cond.selects "MonitorQueuesModel" ⟨"MonitorQueuesModel", "isTemporary", "(I)Z"⟩ ⟨"MonitorQueuesModel", "isTemporary", "(I)Z"⟩) ∈ GT := gt_s 23 (by decide +kernel) rfl
theorem gw_24 : (Cond.selects "MonitorQueuesModel" ⟨"MonitorQueuesModel", "placeOf", "(II)I"⟩ ⟨"MonitorQueuesModel", "placeOf", "(II)I"⟩) ∈ GT := gt_s 24 (by decide +kernel) rfl
theorem gw_25 : (Cond.selects "MonitorQueuesModel" ⟨"MonitorQueuesModel", "nexting", "(II)I"⟩ ⟨"MonitorQueuesModel", "nexting", "(II)I"⟩) ∈ GT := gt_s 25 (by decide +kernel) rfl
theorem gw_26 : (Cond.selects "MonitorQueuesModel" ⟨"MonitorQueuesModel", "isTransient", "(I)Z"⟩ ⟨"MonitorQueuesModel", "isTransient", "(I)Z"⟩) ∈ GT := gt_s 26 (by decide +kernel) rfl
theorem gw_27 : (Cond.selects "MonitorQueuesModel" ⟨"MonitorQueuesModel", "taking", "(I)I"⟩ ⟨"MonitorQueuesModel", "taking", "(I)I"⟩) ∈ GT := gt_s 27 (by decide +kernel) rfl
theorem gw_28 : (Cond.selects "MonitorQueuesModel" ⟨"MonitorQueuesModel", "remove", "(I)V"⟩ ⟨"MonitorQueuesModel", "remove", "(I)V"⟩) ∈ GT := gt_s 28 (by decide +kernel) rfl
theorem gw_29 : (Cond.selects "MonitorQueuesModel" ⟨"MonitorQueuesModel", "emptied", "(I)V"⟩ ⟨"MonitorQueuesModel", "emptied", "(I)V"⟩) ∈ GT := gt_s 29 (by decide +kernel) rfl
theorem gw_30 : (Cond.selects "MonitorQueuesModel" ⟨"MonitorQueuesModel", "triggers", "(III)I"⟩ ⟨"MonitorQueuesModel", "triggers", "(III)I"⟩) ∈ GT := gt_s 30 (by decide +kernel) rfl
theorem gw_31 : (Cond.selects "MonitorQueuesModel" ⟨"MonitorQueuesModel", "ending", "(I)I"⟩ ⟨"MonitorQueuesModel", "ending", "(I)I"⟩) ∈ GT := gt_s 31 (by decide +kernel) rfl
theorem gw_32 : (Cond.selects "MonitorQueuesModel" ⟨"MonitorQueuesModel", "rewriting", "(IIJ)I"⟩ ⟨"MonitorQueuesModel", "rewriting", "(IIJ)I"⟩) ∈ GT := gt_s 32 (by decide +kernel) rfl
theorem gw_33 : (Cond.selects "MonitorQueuesModel" ⟨"MonitorQueuesModel", "drop", "(I)V"⟩ ⟨"MonitorQueuesModel", "drop", "(I)V"⟩) ∈ GT := gt_s 33 (by decide +kernel) rfl
theorem gw_34 : (Cond.selects "MonitorQueuesModel" ⟨"MonitorQueuesModel", "unitEnds", "(IZ)I"⟩ ⟨"MonitorQueuesModel", "unitEnds", "(IZ)I"⟩) ∈ GT := gt_s 34 (by decide +kernel) rfl
theorem gw_35 : (Cond.initialized "MonitorQueuesLaw") ∈ GT := gt_t (gt_1 0 (by decide +kernel)) rfl
theorem gw_36 : (Cond.initialized "MonitorQueues") ∈ GT := gt_t (gt_1 1 (by decide +kernel)) rfl
theorem gw_37 : (Cond.initialized "java/lang/Math") ∈ GT := gt_t (gt_1 2 (by decide +kernel)) rfl
theorem gw_38 : (Cond.initialized "MonitorQueues$Queue") ∈ GT := gt_t (gt_1 3 (by decide +kernel)) rfl
theorem gw_39 : (Cond.initialized "java/util/AbstractCollection") ∈ GT := gt_t (gt_1 4 (by decide +kernel)) rfl
theorem gw_40 : (Cond.initialized "java/util/AbstractList") ∈ GT := gt_t (gt_1 5 (by decide +kernel)) rfl
theorem gw_41 : (Cond.initialized "java/util/ArrayList") ∈ GT := gt_t (gt_1 6 (by decide +kernel)) rfl
theorem gw_42 : (Cond.initialized "MonitorQueuesModel") ∈ GT := gt_t (gt_1 7 (by decide +kernel)) rfl
theorem gw_43 : (Cond.initialized "MonitorQueues$Item") ∈ GT := gt_t (gt_1 8 (by decide +kernel)) rfl
theorem gw_44 : (Cond.initialized "jdk/internal/util/ArraysSupport") ∈ GT := gt_t (gt_1 9 (by decide +kernel)) rfl
theorem gw_45 : (Cond.initialized "java/util/Arrays") ∈ GT := gt_t (gt_1 10 (by decide +kernel)) rfl
theorem gw_46 : (Cond.initialized "java/lang/System") ∈ GT := gt_t (gt_1 11 (by decide +kernel)) rfl
theorem gw_47 : (Cond.initialized "MonitorQueues$Task") ∈ GT := gt_t (gt_1 12 (by decide +kernel)) rfl
theorem gw_48 : (Cond.initialized "java/lang/Throwable") ∈ GT := gt_t (gt_1 13 (by decide +kernel)) rfl
theorem gw_49 : (Cond.initialized "java/lang/Exception") ∈ GT := gt_t (gt_1 14 (by decide +kernel)) rfl
theorem gw_50 : (Cond.initialized "java/lang/RuntimeException") ∈ GT := gt_t (gt_1 15 (by decide +kernel)) rfl
theorem gw_51 : (Cond.initialized "java/util/NoSuchElementException") ∈ GT := gt_t (gt_1 16 (by decide +kernel)) rfl
theorem gw_52 : (Cond.initialized "java/util/Objects") ∈ GT := gt_t (gt_1 17 (by decide +kernel)) rfl
theorem gw_53 : (Cond.initialized "jdk/internal/util/Preconditions") ∈ GT := gt_t (gt_1 18 (by decide +kernel)) rfl
theorem gw_54 : (Cond.initialized "MonitorQueues$Trigger") ∈ GT := gt_t (gt_1 19 (by decide +kernel)) rfl
theorem gw_55 : (Cond.initialized "MonitorQueues$Delay") ∈ GT := gt_t (gt_1 20 (by decide +kernel)) rfl
theorem gw_56 : (Cond.classLink "MonitorQueuesLaw" 8 "MonitorQueues") ∈ GT := gt_t (gt_1 21 (by decide +kernel)) rfl
theorem gw_57 : (Cond.instantiable "MonitorQueues" 7) ∈ GT := gt_t (gt_1 22 (by decide +kernel)) rfl
theorem gw_58 : (Cond.methodLink "MonitorQueuesLaw" 21 ⟨"MonitorQueues", "<init>", "(I)V"⟩) ∈ GT := gt_t (gt_1 23 (by decide +kernel)) rfl
theorem gw_59 : (Cond.instanceMethod ⟨"MonitorQueues", "<init>", "(I)V"⟩) ∈ GT := gt_t (gt_1 24 (by decide +kernel)) rfl
theorem gw_60 : (Cond.code ⟨"MonitorQueues", "<init>", "(I)V"⟩ prog_1_method_1_code 3 none) ∈ GT := gt_t (gt_1 25 (by decide +kernel)) rfl
theorem gw_61 : (Cond.methodLink "MonitorQueues" 3 ⟨"java/lang/Object", "<init>", "()V"⟩) ∈ GT := gt_t (gt_1 26 (by decide +kernel)) rfl
theorem gw_62 : (Cond.instanceMethod ⟨"java/lang/Object", "<init>", "()V"⟩) ∈ GT := gt_t (gt_1 27 (by decide +kernel)) rfl
theorem gw_63 : (Cond.code ⟨"java/lang/Object", "<init>", "()V"⟩ object_method_1_code 1 none) ∈ GT := gt_t (gt_1 28 (by decide +kernel)) rfl
theorem gw_64 : (Cond.methodLink "MonitorQueues" 9 ⟨"java/lang/Math", "min", "(II)I"⟩) ∈ GT := gt_t (gt_1 29 (by decide +kernel)) rfl
theorem gw_65 : (Cond.static ⟨"java/lang/Math", "min", "(II)I"⟩) ∈ GT := gt_t (gt_1 30 (by decide +kernel)) rfl
theorem gw_66 : (Cond.code ⟨"java/lang/Math", "min", "(II)I"⟩ prog_13_method_69_code 2 (Option.some FieldType.int)) ∈ GT := gt_t (gt_1 31 (by decide +kernel)) rfl
theorem gw_67 : (Cond.methodLink "MonitorQueues" 15 ⟨"java/lang/Math", "max", "(II)I"⟩) ∈ GT := gt_t (gt_1 32 (by decide +kernel)) rfl
theorem gw_68 : (Cond.static ⟨"java/lang/Math", "max", "(II)I"⟩) ∈ GT := gt_t (gt_1 33 (by decide +kernel)) rfl
theorem gw_69 : (Cond.code ⟨"java/lang/Math", "max", "(II)I"⟩ prog_13_method_65_code 2 (Option.some FieldType.int)) ∈ GT := gt_t (gt_1 34 (by decide +kernel)) rfl
theorem gw_70 : (Cond.classLink "MonitorQueues" 22 "MonitorQueues$Queue") ∈ GT := gt_t (gt_1 35 (by decide +kernel)) rfl
theorem gw_71 : (Cond.arrayOver (FieldType.object "MonitorQueues$Queue")) ∈ tables_1 := gt_1 36 (by decide +kernel)
theorem gw_72 : (Cond.instantiable "MonitorQueues$Queue" 10) ∈ GT := gt_t (gt_1 37 (by decide +kernel)) rfl
theorem gw_73 : (Cond.methodLink "MonitorQueues" 28 ⟨"MonitorQueues$Queue", "<init>", "()V"⟩) ∈ GT := gt_t (gt_1 38 (by decide +kernel)) rfl
theorem gw_74 : (Cond.instanceMethod ⟨"MonitorQueues$Queue", "<init>", "()V"⟩) ∈ GT := gt_t (gt_1 39 (by decide +kernel)) rfl
theorem gw_75 : (Cond.code ⟨"MonitorQueues$Queue", "<init>", "()V"⟩ prog_4_method_1_code 1 none) ∈ GT := gt_t (gt_1 40 (by decide +kernel)) rfl
theorem gw_76 : (Cond.methodLink "MonitorQueues$Queue" 3 ⟨"java/lang/Object", "<init>", "()V"⟩) ∈ GT := gt_t (gt_1 41 (by decide +kernel)) rfl
theorem gw_77 : (Cond.classLink "MonitorQueues$Queue" 9 "java/util/ArrayList") ∈ GT := gt_t (gt_1 42 (by decide +kernel)) rfl
theorem gw_78 : (Cond.instantiable "java/util/ArrayList" 3) ∈ GT := gt_t (gt_1 43 (by decide +kernel)) rfl
theorem gw_79 : (Cond.methodLink "MonitorQueues$Queue" 11 ⟨"java/util/ArrayList", "<init>", "()V"⟩) ∈ GT := gt_t (gt_1 44 (by decide +kernel)) rfl
theorem gw_80 : (Cond.instanceMethod ⟨"java/util/ArrayList", "<init>", "()V"⟩) ∈ GT := gt_t (gt_1 45 (by decide +kernel)) rfl
theorem gw_81 : (Cond.code ⟨"java/util/ArrayList", "<init>", "()V"⟩ prog_20_method_2_code 1 none) ∈ GT := gt_t (gt_1 46 (by decide +kernel)) rfl
theorem gw_82 : (Cond.methodLink "java/util/ArrayList" 1 ⟨"java/util/AbstractList", "<init>", "()V"⟩) ∈ GT := gt_t (gt_1 47 (by decide +kernel)) rfl
theorem gw_83 : (Cond.instanceMethod ⟨"java/util/AbstractList", "<init>", "()V"⟩) ∈ GT := gt_t (gt_1 48 (by decide +kernel)) rfl
theorem gw_84 : (Cond.code ⟨"java/util/AbstractList", "<init>", "()V"⟩ prog_19_method_1_code 1 none) ∈ GT := gt_t (gt_1 49 (by decide +kernel)) rfl
theorem gw_85 : (Cond.methodLink "java/util/AbstractList" 1 ⟨"java/util/AbstractCollection", "<init>", "()V"⟩) ∈ GT := gt_t (gt_1 50 (by decide +kernel)) rfl
theorem gw_86 : (Cond.instanceMethod ⟨"java/util/AbstractCollection", "<init>", "()V"⟩) ∈ GT := gt_t (gt_1 51 (by decide +kernel)) rfl
theorem gw_87 : (Cond.code ⟨"java/util/AbstractCollection", "<init>", "()V"⟩ prog_18_method_1_code 1 none) ∈ GT := gt_t (gt_1 52 (by decide +kernel)) rfl
theorem gw_88 : (Cond.methodLink "java/util/AbstractCollection" 1 ⟨"java/lang/Object", "<init>", "()V"⟩) ∈ GT := gt_t (gt_1 53 (by decide +kernel)) rfl
theorem gw_91 : (Cond.fieldLink "java/util/ArrayList" 9 "java/util/ArrayList" "elementData" "[Ljava/lang/Object;") ∈ GT := gt_t (gt_1 56 (by decide +kernel)) rfl
theorem gw_92 : (Cond.fieldLink "java/util/ArrayList" 48 "java/util/ArrayList" "size" "I") ∈ GT := gt_t (gt_1 57 (by decide +kernel)) rfl
theorem gw_93 : (Cond.fieldLink "java/util/AbstractList" 7 "java/util/AbstractList" "modCount" "I") ∈ GT := gt_t (gt_1 58 (by decide +kernel)) rfl
theorem gw_94 : (Cond.fieldLink "java/util/ArrayList" 63 "java/util/ArrayList" "modCount" "I") ∈ GT := gt_t (gt_1 59 (by decide +kernel)) rfl
theorem gw_95 : (Cond.sameField "java/util/ArrayList" "java/util/AbstractList" "modCount" "I") ∈ GT := gt_t (gt_1 60 (by decide +kernel)) rfl
theorem gw_96 : (Cond.lays "java/util/ArrayList" "java/util/ArrayList" "elementData" "[Ljava/lang/Object;") ∈ GT := gt_t (gt_1 61 (by decide +kernel)) rfl
theorem gw_98 : (Cond.lays "java/util/ArrayList" "java/util/ArrayList" "size" "I") ∈ GT := gt_t (gt_1 63 (by decide +kernel)) rfl
theorem gw_100 : (Cond.lays "java/util/ArrayList" "java/util/AbstractList" "modCount" "I") ∈ GT := gt_t (gt_1 65 (by decide +kernel)) rfl
theorem gw_103 : (Cond.fieldLink "MonitorQueues$Queue" 12 "MonitorQueues$Queue" "items" "Ljava/util/ArrayList;") ∈ GT := gt_t (gt_1 68 (by decide +kernel)) rfl
theorem gw_104 : (Cond.fieldLink "MonitorQueues" 87 "MonitorQueues$Queue" "items" "Ljava/util/ArrayList;") ∈ GT := gt_t (gt_1 69 (by decide +kernel)) rfl
theorem gw_105 : (Cond.fieldLink "MonitorQueues$Queue" 18 "MonitorQueues$Queue" "places" "[I") ∈ GT := gt_t (gt_1 70 (by decide +kernel)) rfl
theorem gw_106 : (Cond.fieldLink "MonitorQueues" 110 "MonitorQueues$Queue" "places" "[I") ∈ GT := gt_t (gt_1 71 (by decide +kernel)) rfl
theorem gw_107 : (Cond.fieldLink "MonitorQueues$Queue" 22 "MonitorQueues$Queue" "kind" "I") ∈ GT := gt_t (gt_1 72 (by decide +kernel)) rfl
theorem gw_108 : (Cond.fieldLink "MonitorQueues" 185 "MonitorQueues$Queue" "kind" "I") ∈ GT := gt_t (gt_1 73 (by decide +kernel)) rfl
theorem gw_109 : (Cond.fieldLink "MonitorQueues$Queue" 30 "MonitorQueues$Queue" "pending" "I") ∈ GT := gt_t (gt_1 74 (by decide +kernel)) rfl
theorem gw_110 : (Cond.fieldLink "MonitorQueues" 50 "MonitorQueues$Queue" "holder" "I") ∈ GT := gt_t (gt_1 75 (by decide +kernel)) rfl
theorem gw_111 : (Cond.fieldLink "MonitorQueues$Queue" 57 "MonitorQueues$Queue" "holder" "I") ∈ GT := gt_t (gt_1 76 (by decide +kernel)) rfl
theorem gw_112 : (Cond.fieldLink "MonitorQueues$Queue" 41 "MonitorQueues$Queue" "lastUse" "J") ∈ GT := gt_t (gt_1 77 (by decide +kernel)) rfl
theorem gw_113 : (Cond.fieldLink "MonitorQueues" 179 "MonitorQueues$Queue" "lastUse" "J") ∈ GT := gt_t (gt_1 78 (by decide +kernel)) rfl
theorem gw_114 : (Cond.fieldLink "MonitorQueues$Queue" 64 "MonitorQueues$Queue" "lastNumber" "I") ∈ GT := gt_t (gt_1 79 (by decide +kernel)) rfl
theorem gw_115 : (Cond.fieldLink "MonitorQueues" 99 "MonitorQueues$Queue" "takenNumber" "I") ∈ GT := gt_t (gt_1 80 (by decide +kernel)) rfl
theorem gw_116 : (Cond.fieldLink "MonitorQueues$Queue" 70 "MonitorQueues$Queue" "takenNumber" "I") ∈ GT := gt_t (gt_1 81 (by decide +kernel)) rfl
theorem gw_117 : (Cond.fieldLink "MonitorQueues" 104 "MonitorQueues$Queue" "takenValue" "J") ∈ GT := gt_t (gt_1 82 (by decide +kernel)) rfl
theorem gw_118 : (Cond.fieldLink "MonitorQueues$Queue" 80 "MonitorQueues$Queue" "takenValue" "J") ∈ GT := gt_t (gt_1 83 (by decide +kernel)) rfl
theorem gw_119 : (Cond.fieldLink "MonitorQueues" 128 "MonitorQueues$Queue" "trigger" "LMonitorQueues$Trigger;") ∈ GT := gt_t (gt_1 84 (by decide +kernel)) rfl
theorem gw_120 : (Cond.fieldLink "MonitorQueues$Queue" 37 "MonitorQueues$Queue" "trigger" "LMonitorQueues$Trigger;") ∈ GT := gt_t (gt_1 85 (by decide +kernel)) rfl
theorem gw_121 : (Cond.laysFinal "MonitorQueues$Queue" "MonitorQueues$Queue" "items" "Ljava/util/ArrayList;") ∈ GT := gt_t (gt_1 86 (by decide +kernel)) rfl
theorem gw_123 : (Cond.laysFinal "MonitorQueues$Queue" "MonitorQueues$Queue" "places" "[I") ∈ GT := gt_t (gt_1 88 (by decide +kernel)) rfl
theorem gw_125 : (Cond.lays "MonitorQueues$Queue" "MonitorQueues$Queue" "kind" "I") ∈ GT := gt_t (gt_1 90 (by decide +kernel)) rfl
theorem gw_127 : (Cond.lays "MonitorQueues$Queue" "MonitorQueues$Queue" "pending" "I") ∈ GT := gt_t (gt_1 92 (by decide +kernel)) rfl
theorem gw_129 : (Cond.lays "MonitorQueues$Queue" "MonitorQueues$Queue" "holder" "I") ∈ GT := gt_t (gt_1 94 (by decide +kernel)) rfl
theorem gw_131 : (Cond.lays "MonitorQueues$Queue" "MonitorQueues$Queue" "lastUse" "J") ∈ GT := gt_t (gt_1 96 (by decide +kernel)) rfl
theorem gw_133 : (Cond.lays "MonitorQueues$Queue" "MonitorQueues$Queue" "lastNumber" "I") ∈ GT := gt_t (gt_1 98 (by decide +kernel)) rfl
theorem gw_135 : (Cond.lays "MonitorQueues$Queue" "MonitorQueues$Queue" "takenNumber" "I") ∈ GT := gt_t (gt_1 100 (by decide +kernel)) rfl
theorem gw_137 : (Cond.lays "MonitorQueues$Queue" "MonitorQueues$Queue" "takenValue" "J") ∈ GT := gt_t (gt_1 102 (by decide +kernel)) rfl
theorem gw_139 : (Cond.lays "MonitorQueues$Queue" "MonitorQueues$Queue" "trigger" "LMonitorQueues$Trigger;") ∈ GT := gt_t (gt_1 104 (by decide +kernel)) rfl
theorem gw_142 : (Cond.arrayClass FieldType.int) ∈ GT := gt_t (gt_1 107 (by decide +kernel)) rfl
theorem gw_143 : (Cond.classLink "MonitorQueues" 29 "java/util/ArrayList") ∈ GT := gt_t (gt_1 108 (by decide +kernel)) rfl
theorem gw_144 : (Cond.methodLink "MonitorQueues" 31 ⟨"java/util/ArrayList", "<init>", "()V"⟩) ∈ GT := gt_t (gt_1 109 (by decide +kernel)) rfl
theorem gw_145 : (Cond.fieldLink "MonitorQueues" 18 "MonitorQueues" "room" "I") ∈ GT := gt_t (gt_1 110 (by decide +kernel)) rfl
theorem gw_146 : (Cond.fieldLink "MonitorQueues" 24 "MonitorQueues" "queues" "[LMonitorQueues$Queue;") ∈ GT := gt_t (gt_1 111 (by decide +kernel)) rfl
theorem gw_147 : (Cond.fieldLink "MonitorQueues" 32 "MonitorQueues" "tasks" "Ljava/util/ArrayList;") ∈ GT := gt_t (gt_1 112 (by decide +kernel)) rfl
theorem gw_148 : (Cond.fieldLink "MonitorQueues" 36 "MonitorQueues" "waiting" "Ljava/util/ArrayList;") ∈ GT := gt_t (gt_1 113 (by decide +kernel)) rfl
theorem gw_149 : (Cond.fieldLink "MonitorQueues" 144 "MonitorQueues" "tasksGoing" "I") ∈ GT := gt_t (gt_1 114 (by decide +kernel)) rfl
theorem gw_150 : (Cond.fieldLink "MonitorQueues" 154 "MonitorQueues" "lastDelay" "I") ∈ GT := gt_t (gt_1 115 (by decide +kernel)) rfl
theorem gw_151 : (Cond.fieldLink "MonitorQueues" 57 "MonitorQueues" "now" "J") ∈ GT := gt_t (gt_1 116 (by decide +kernel)) rfl
theorem gw_152 : (Cond.laysFinal "MonitorQueues" "MonitorQueues" "room" "I") ∈ GT := gt_t (gt_1 117 (by decide +kernel)) rfl
theorem gw_154 : (Cond.laysFinal "MonitorQueues" "MonitorQueues" "queues" "[LMonitorQueues$Queue;") ∈ GT := gt_t (gt_1 119 (by decide +kernel)) rfl
theorem gw_156 : (Cond.laysFinal "MonitorQueues" "MonitorQueues" "tasks" "Ljava/util/ArrayList;") ∈ GT := gt_t (gt_1 121 (by decide +kernel)) rfl
theorem gw_158 : (Cond.laysFinal "MonitorQueues" "MonitorQueues" "waiting" "Ljava/util/ArrayList;") ∈ GT := gt_t (gt_1 123 (by decide +kernel)) rfl
theorem gw_160 : (Cond.lays "MonitorQueues" "MonitorQueues" "tasksGoing" "I") ∈ GT := gt_t (gt_1 125 (by decide +kernel)) rfl
theorem gw_162 : (Cond.lays "MonitorQueues" "MonitorQueues" "lastDelay" "I") ∈ GT := gt_t (gt_1 127 (by decide +kernel)) rfl
theorem gw_164 : (Cond.lays "MonitorQueues" "MonitorQueues" "now" "J") ∈ GT := gt_t (gt_1 129 (by decide +kernel)) rfl
theorem gw_167 : (Cond.methodLink "MonitorQueuesLaw" 29 ⟨"MonitorQueues", "put", "(IIJI)I"⟩) ∈ GT := gt_t (gt_1 132 (by decide +kernel)) rfl
theorem gw_168 : (Cond.instanceMethod ⟨"MonitorQueues", "put", "(IIJI)I"⟩) ∈ GT := gt_t (gt_1 133 (by decide +kernel)) rfl
theorem gw_169 : (Cond.selects "MonitorQueues" ⟨"MonitorQueues", "put", "(IIJI)I"⟩ ⟨"MonitorQueues", "put", "(IIJI)I"⟩) ∈ GT := gt_t (gt_1 134 (by decide +kernel)) rfl
theorem gw_170 : (Cond.code ⟨"MonitorQueues", "put", "(IIJI)I"⟩ prog_1_method_2_code 8 (Option.some FieldType.int)) ∈ GT := gt_t (gt_1 135 (by decide +kernel)) rfl
theorem gw_171 : (Cond.methodLink "MonitorQueues" 39 ⟨"MonitorQueues", "isQueue", "(I)Z"⟩) ∈ GT := gt_t (gt_1 136 (by decide +kernel)) rfl
theorem gw_173 : (Cond.instanceMethod ⟨"MonitorQueues", "isQueue", "(I)Z"⟩) ∈ GT := gt_t (gt_1 138 (by decide +kernel)) rfl
theorem gw_174 : (Cond.code ⟨"MonitorQueues", "isQueue", "(I)Z"⟩ prog_1_method_16_code 2 (Option.some FieldType.boolean)) ∈ GT := gt_t (gt_1 139 (by decide +kernel)) rfl
theorem gw_175 : (Cond.methodLink "MonitorQueues" 43 ⟨"MonitorQueues$Queue", "admits", "(I)Z"⟩) ∈ GT := gt_t (gt_1 140 (by decide +kernel)) rfl
theorem gw_176 : (Cond.instanceMethod ⟨"MonitorQueues$Queue", "admits", "(I)Z"⟩) ∈ GT := gt_t (gt_1 141 (by decide +kernel)) rfl
theorem gw_177 : (Cond.selects "MonitorQueues$Queue" ⟨"MonitorQueues$Queue", "admits", "(I)Z"⟩ ⟨"MonitorQueues$Queue", "admits", "(I)Z"⟩) ∈ GT := gt_t (gt_1 142 (by decide +kernel)) rfl
theorem gw_178 : (Cond.code ⟨"MonitorQueues$Queue", "admits", "(I)Z"⟩ prog_4_method_9_code 2 (Option.some FieldType.boolean)) ∈ GT := gt_t (gt_1 143 (by decide +kernel)) rfl
theorem gw_179 : (Cond.methodLink "MonitorQueues$Queue" 26 ⟨"MonitorQueues$Queue", "isTransientKind", "(I)Z"⟩) ∈ GT := gt_t (gt_1 144 (by decide +kernel)) rfl
theorem gw_180 : (Cond.static ⟨"MonitorQueues$Queue", "isTransientKind", "(I)Z"⟩) ∈ GT := gt_t (gt_1 145 (by decide +kernel)) rfl
theorem gw_181 : (Cond.code ⟨"MonitorQueues$Queue", "isTransientKind", "(I)Z"⟩ prog_4_method_2_code 1 (Option.some FieldType.boolean)) ∈ GT := gt_t (gt_1 146 (by decide +kernel)) rfl
theorem gw_182 : (Cond.methodLink "MonitorQueues" 46 ⟨"MonitorQueues$Queue", "isLocked", "()Z"⟩) ∈ GT := gt_t (gt_1 147 (by decide +kernel)) rfl
theorem gw_183 : (Cond.instanceMethod ⟨"MonitorQueues$Queue", "isLocked", "()Z"⟩) ∈ GT := gt_t (gt_1 148 (by decide +kernel)) rfl
theorem gw_184 : (Cond.selects "MonitorQueues$Queue" ⟨"MonitorQueues$Queue", "isLocked", "()Z"⟩ ⟨"MonitorQueues$Queue", "isLocked", "()Z"⟩) ∈ GT := gt_t (gt_1 149 (by decide +kernel)) rfl
theorem gw_185 : (Cond.code ⟨"MonitorQueues$Queue", "isLocked", "()Z"⟩ prog_4_method_6_code 1 (Option.some FieldType.boolean)) ∈ GT := gt_t (gt_1 150 (by decide +kernel)) rfl
theorem gw_186 : (Cond.methodLink "MonitorQueues" 53 ⟨"MonitorQueues", "allItems", "()I"⟩) ∈ GT := gt_t (gt_1 151 (by decide +kernel)) rfl
theorem gw_188 : (Cond.instanceMethod ⟨"MonitorQueues", "allItems", "()I"⟩) ∈ GT := gt_t (gt_1 153 (by decide +kernel)) rfl
theorem gw_189 : (Cond.code ⟨"MonitorQueues", "allItems", "()I"⟩ prog_1_method_18_code 3 (Option.some FieldType.int)) ∈ GT := gt_t (gt_1 154 (by decide +kernel)) rfl
theorem gw_190 : (Cond.methodLink "MonitorQueues" 151 ⟨"java/util/ArrayList", "size", "()I"⟩) ∈ GT := gt_t (gt_1 155 (by decide +kernel)) rfl
theorem gw_191 : (Cond.instanceMethod ⟨"java/util/ArrayList", "size", "()I"⟩) ∈ GT := gt_t (gt_1 156 (by decide +kernel)) rfl
theorem gw_192 : (Cond.selects "java/util/ArrayList" ⟨"java/util/ArrayList", "size", "()I"⟩ ⟨"java/util/ArrayList", "size", "()I"⟩) ∈ GT := gt_t (gt_1 157 (by decide +kernel)) rfl
theorem gw_193 : (Cond.code ⟨"java/util/ArrayList", "size", "()I"⟩ prog_20_method_8_code 1 (Option.some FieldType.int)) ∈ GT := gt_t (gt_1 158 (by decide +kernel)) rfl
theorem gw_194 : (Cond.methodLink "MonitorQueues" 61 ⟨"MonitorQueues$Queue", "touch", "(J)V"⟩) ∈ GT := gt_t (gt_1 159 (by decide +kernel)) rfl
theorem gw_195 : (Cond.instanceMethod ⟨"MonitorQueues$Queue", "touch", "(J)V"⟩) ∈ GT := gt_t (gt_1 160 (by decide +kernel)) rfl
theorem gw_196 : (Cond.selects "MonitorQueues$Queue" ⟨"MonitorQueues$Queue", "touch", "(J)V"⟩ ⟨"MonitorQueues$Queue", "touch", "(J)V"⟩) ∈ GT := gt_t (gt_1 161 (by decide +kernel)) rfl
theorem gw_197 : (Cond.code ⟨"MonitorQueues$Queue", "touch", "(J)V"⟩ prog_4_method_10_code 3 none) ∈ GT := gt_t (gt_1 162 (by decide +kernel)) rfl
theorem gw_198 : (Cond.methodLink "MonitorQueues" 65 ⟨"MonitorQueues$Queue", "append", "(IJI)I"⟩) ∈ GT := gt_t (gt_1 163 (by decide +kernel)) rfl
theorem gw_199 : (Cond.instanceMethod ⟨"MonitorQueues$Queue", "append", "(IJI)I"⟩) ∈ GT := gt_t (gt_1 164 (by decide +kernel)) rfl
theorem gw_200 : (Cond.selects "MonitorQueues$Queue" ⟨"MonitorQueues$Queue", "append", "(IJI)I"⟩ ⟨"MonitorQueues$Queue", "append", "(IJI)I"⟩) ∈ GT := gt_t (gt_1 165 (by decide +kernel)) rfl
theorem gw_201 : (Cond.code ⟨"MonitorQueues$Queue", "append", "(IJI)I"⟩ prog_4_method_11_code 5 (Option.some FieldType.int)) ∈ GT := gt_t (gt_1 166 (by decide +kernel)) rfl
theorem gw_202 : (Cond.classLink "MonitorQueues$Queue" 45 "MonitorQueues$Item") ∈ GT := gt_t (gt_1 167 (by decide +kernel)) rfl
theorem gw_203 : (Cond.instantiable "MonitorQueues$Item" 1) ∈ GT := gt_t (gt_1 168 (by decide +kernel)) rfl
theorem gw_204 : (Cond.methodLink "MonitorQueues$Queue" 47 ⟨"MonitorQueues$Item", "<init>", "(J)V"⟩) ∈ GT := gt_t (gt_1 169 (by decide +kernel)) rfl
theorem gw_205 : (Cond.instanceMethod ⟨"MonitorQueues$Item", "<init>", "(J)V"⟩) ∈ GT := gt_t (gt_1 170 (by decide +kernel)) rfl
theorem gw_206 : (Cond.code ⟨"MonitorQueues$Item", "<init>", "(J)V"⟩ prog_3_method_1_code 3 none) ∈ GT := gt_t (gt_1 171 (by decide +kernel)) rfl
theorem gw_207 : (Cond.methodLink "MonitorQueues$Item" 1 ⟨"java/lang/Object", "<init>", "()V"⟩) ∈ GT := gt_t (gt_1 172 (by decide +kernel)) rfl
theorem gw_208 : (Cond.fieldLink "MonitorQueues$Item" 7 "MonitorQueues$Item" "value" "J") ∈ GT := gt_t (gt_1 173 (by decide +kernel)) rfl
theorem gw_209 : (Cond.fieldLink "MonitorQueues" 96 "MonitorQueues$Item" "value" "J") ∈ GT := gt_t (gt_1 174 (by decide +kernel)) rfl
theorem gw_210 : (Cond.fieldLink "MonitorQueues$Queue" 77 "MonitorQueues$Item" "value" "J") ∈ GT := gt_t (gt_1 175 (by decide +kernel)) rfl
theorem gw_211 : (Cond.lays "MonitorQueues$Item" "MonitorQueues$Item" "value" "J") ∈ GT := gt_t (gt_1 176 (by decide +kernel)) rfl
theorem gw_214 : (Cond.methodLink "MonitorQueues$Queue" 50 ⟨"java/util/ArrayList", "add", "(Ljava/lang/Object;)Z"⟩) ∈ GT := gt_t (gt_1 179 (by decide +kernel)) rfl
theorem gw_215 : (Cond.instanceMethod ⟨"java/util/ArrayList", "add", "(Ljava/lang/Object;)Z"⟩) ∈ GT := gt_t (gt_1 180 (by decide +kernel)) rfl
theorem gw_216 : (Cond.selects "java/util/ArrayList" ⟨"java/util/ArrayList", "add", "(Ljava/lang/Object;)Z"⟩ ⟨"java/util/ArrayList", "add", "(Ljava/lang/Object;)Z"⟩) ∈ GT := gt_t (gt_1 181 (by decide +kernel)) rfl
theorem gw_217 : (Cond.code ⟨"java/util/ArrayList", "add", "(Ljava/lang/Object;)Z"⟩ prog_20_method_25_code 2 (Option.some FieldType.boolean)) ∈ GT := gt_t (gt_1 182 (by decide +kernel)) rfl
theorem gw_218 : (Cond.methodLink "java/util/ArrayList" 131 ⟨"java/util/ArrayList", "add", "(Ljava/lang/Object;[Ljava/lang/Object;I)V"⟩) ∈ GT := gt_t (gt_1 183 (by decide +kernel)) rfl
theorem gw_220 : (Cond.instanceMethod ⟨"java/util/ArrayList", "add", "(Ljava/lang/Object;[Ljava/lang/Object;I)V"⟩) ∈ GT := gt_t (gt_1 185 (by decide +kernel)) rfl
theorem gw_221 : (Cond.code ⟨"java/util/ArrayList", "add", "(Ljava/lang/Object;[Ljava/lang/Object;I)V"⟩ prog_20_method_24_code 4 none) ∈ GT := gt_t (gt_1 186 (by decide +kernel)) rfl
theorem gw_222 : (Cond.methodLink "java/util/ArrayList" 129 ⟨"java/util/ArrayList", "grow", "()[Ljava/lang/Object;"⟩) ∈ GT := gt_t (gt_1 187 (by decide +kernel)) rfl
theorem gw_224 : (Cond.instanceMethod ⟨"java/util/ArrayList", "grow", "()[Ljava/lang/Object;"⟩) ∈ GT := gt_t (gt_1 189 (by decide +kernel)) rfl
theorem gw_225 : (Cond.code ⟨"java/util/ArrayList", "grow", "()[Ljava/lang/Object;"⟩ prog_20_method_7_code 1 (Option.some (FieldType.array (FieldType.object "java/lang/Object")))) ∈ GT := gt_t (gt_1 190 (by decide +kernel)) rfl
theorem gw_226 : (Cond.methodLink "java/util/ArrayList" 69 ⟨"java/util/ArrayList", "grow", "(I)[Ljava/lang/Object;"⟩) ∈ GT := gt_t (gt_1 191 (by decide +kernel)) rfl
theorem gw_228 : (Cond.instanceMethod ⟨"java/util/ArrayList", "grow", "(I)[Ljava/lang/Object;"⟩) ∈ GT := gt_t (gt_1 193 (by decide +kernel)) rfl
theorem gw_229 : (Cond.code ⟨"java/util/ArrayList", "grow", "(I)[Ljava/lang/Object;"⟩ prog_20_method_6_code 4 (Option.some (FieldType.array (FieldType.object "java/lang/Object")))) ∈ GT := gt_t (gt_1 194 (by decide +kernel)) rfl
theorem gw_230 : (Cond.methodLink "java/util/ArrayList" 73 ⟨"jdk/internal/util/ArraysSupport", "newLength", "(III)I"⟩) ∈ GT := gt_t (gt_1 195 (by decide +kernel)) rfl
theorem gw_231 : (Cond.static ⟨"jdk/internal/util/ArraysSupport", "newLength", "(III)I"⟩) ∈ GT := gt_t (gt_1 196 (by decide +kernel)) rfl
theorem gw_232 : (Cond.code ⟨"jdk/internal/util/ArraysSupport", "newLength", "(III)I"⟩ prog_28_method_27_code 4 (Option.some FieldType.int)) ∈ GT := gt_t (gt_1 197 (by decide +kernel)) rfl
theorem gw_233 : (Cond.methodLink "jdk/internal/util/ArraysSupport" 194 ⟨"java/lang/Math", "max", "(II)I"⟩) ∈ GT := gt_t (gt_1 198 (by decide +kernel)) rfl
theorem gw_234 : (Cond.constant "jdk/internal/util/ArraysSupport" 200 (2147483639)) ∈ GT := gt_t (gt_1 199 (by decide +kernel)) rfl
theorem gw_235 : (Cond.methodLink "jdk/internal/util/ArraysSupport" 201 ⟨"jdk/internal/util/ArraysSupport", "hugeLength", "(II)I"⟩) ∈ GT := gt_t (gt_1 200 (by decide +kernel)) rfl
theorem gw_236 : (Cond.static ⟨"jdk/internal/util/ArraysSupport", "hugeLength", "(II)I"⟩) ∈ GT := gt_t (gt_1 201 (by decide +kernel)) rfl
theorem gw_237 : (Cond.code ⟨"jdk/internal/util/ArraysSupport", "hugeLength", "(II)I"⟩ prog_28_method_28_code 3 (Option.some FieldType.int)) ∈ GT := gt_t (gt_1 202 (by decide +kernel)) rfl
theorem gw_238 : (Cond.methodLink "java/util/ArrayList" 66 ⟨"java/util/Arrays", "copyOf", "([Ljava/lang/Object;I)[Ljava/lang/Object;"⟩) ∈ GT := gt_t (gt_1 203 (by decide +kernel)) rfl
theorem gw_239 : (Cond.static ⟨"java/util/Arrays", "copyOf", "([Ljava/lang/Object;I)[Ljava/lang/Object;"⟩) ∈ GT := gt_t (gt_1 204 (by decide +kernel)) rfl
theorem gw_240 : (Cond.code ⟨"java/util/Arrays", "copyOf", "([Ljava/lang/Object;I)[Ljava/lang/Object;"⟩ prog_21_method_119_code 2 (Option.some (FieldType.array (FieldType.object "java/lang/Object")))) ∈ GT := gt_t (gt_1 205 (by decide +kernel)) rfl
theorem gw_241 : (Cond.methodLink "java/util/Arrays" 86 ⟨"java/lang/Object", "getClass", "()Ljava/lang/Class;"⟩) ∈ GT := gt_t (gt_1 206 (by decide +kernel)) rfl
theorem gw_242 : (Cond.instanceMethod ⟨"java/lang/Object", "getClass", "()Ljava/lang/Class;"⟩) ∈ GT := gt_t (gt_1 207 (by decide +kernel)) rfl
theorem gw_243 : (Cond.sameMethod "java/lang/Object" "java/lang/Object" "getClass" "()Ljava/lang/Class;") ∈ GT := gt_t (gt_1 208 (by decide +kernel)) rfl
theorem gw_244 : (Cond.selects "MonitorQueues" ⟨"java/lang/Object", "getClass", "()Ljava/lang/Class;"⟩ ⟨"java/lang/Object", "getClass", "()Ljava/lang/Class;"⟩) ∈ GT := gt_t (gt_1 209 (by decide +kernel)) rfl
theorem gw_245 : (Cond.selects "MonitorQueues$Delay" ⟨"java/lang/Object", "getClass", "()Ljava/lang/Class;"⟩ ⟨"java/lang/Object", "getClass", "()Ljava/lang/Class;"⟩) ∈ GT := gt_t (gt_1 210 (by decide +kernel)) rfl
theorem gw_246 : (Cond.selects "MonitorQueues$Item" ⟨"java/lang/Object", "getClass", "()Ljava/lang/Class;"⟩ ⟨"java/lang/Object", "getClass", "()Ljava/lang/Class;"⟩) ∈ GT := gt_t (gt_1 211 (by decide +kernel)) rfl
theorem gw_247 : (Cond.selects "MonitorQueues$Queue" ⟨"java/lang/Object", "getClass", "()Ljava/lang/Class;"⟩ ⟨"java/lang/Object", "getClass", "()Ljava/lang/Class;"⟩) ∈ GT := gt_t (gt_1 212 (by decide +kernel)) rfl
theorem gw_248 : (Cond.selects "MonitorQueues$Task" ⟨"java/lang/Object", "getClass", "()Ljava/lang/Class;"⟩ ⟨"java/lang/Object", "getClass", "()Ljava/lang/Class;"⟩) ∈ GT := gt_t (gt_1 213 (by decide +kernel)) rfl
theorem gw_249 : (Cond.selects "MonitorQueues$Trigger" ⟨"java/lang/Object", "getClass", "()Ljava/lang/Class;"⟩ ⟨"java/lang/Object", "getClass", "()Ljava/lang/Class;"⟩) ∈ GT := gt_t (gt_1 214 (by decide +kernel)) rfl
theorem gw_250 : (Cond.selects "MonitorQueuesModel" ⟨"java/lang/Object", "getClass", "()Ljava/lang/Class;"⟩ ⟨"java/lang/Object", "getClass", "()Ljava/lang/Class;"⟩) ∈ GT := gt_t (gt_1 215 (by decide +kernel)) rfl
theorem gw_251 : (Cond.selects "java/util/ArrayList" ⟨"java/lang/Object", "getClass", "()Ljava/lang/Class;"⟩ ⟨"java/lang/Object", "getClass", "()Ljava/lang/Class;"⟩) ∈ GT := gt_t (gt_1 216 (by decide +kernel)) rfl
theorem gw_252 : (Cond.selects "java/util/NoSuchElementException" ⟨"java/lang/Object", "getClass", "()Ljava/lang/Class;"⟩ ⟨"java/lang/Object", "getClass", "()Ljava/lang/Class;"⟩) ∈ GT := gt_t (gt_1 217 (by decide +kernel)) rfl
theorem gw_253 : (Cond.native ⟨"java/lang/Object", "getClass", "()Ljava/lang/Class;"⟩) ∈ GT := gt_t (gt_1 218 (by decide +kernel)) rfl
theorem gw_254 : (Cond.methodLink "java/util/Arrays" 300 ⟨"java/util/Arrays", "copyOf", "([Ljava/lang/Object;ILjava/lang/Class;)[Ljava/lang/Object;"⟩) ∈ GT := gt_t (gt_1 219 (by decide +kernel)) rfl
theorem gw_255 : (Cond.static ⟨"java/util/Arrays", "copyOf", "([Ljava/lang/Object;ILjava/lang/Class;)[Ljava/lang/Object;"⟩) ∈ GT := gt_t (gt_1 220 (by decide +kernel)) rfl
theorem gw_256 : (Cond.code ⟨"java/util/Arrays", "copyOf", "([Ljava/lang/Object;ILjava/lang/Class;)[Ljava/lang/Object;"⟩ prog_21_method_120_code 4 (Option.some (FieldType.array (FieldType.object "java/lang/Object")))) ∈ GT := gt_t (gt_1 221 (by decide +kernel)) rfl
theorem gw_257 : (Cond.classLink "java/util/Arrays" 110 "[Ljava/lang/Object;") ∈ GT := gt_t (gt_1 222 (by decide +kernel)) rfl
theorem gw_258 : (Cond.arrayOver (FieldType.object "java/lang/Object")) ∈ tables_1 := gt_1 223 (by decide +kernel)
theorem gw_259 : (Cond.classLink "java/util/Arrays" 2 "java/lang/Object") ∈ GT := gt_t (gt_1 224 (by decide +kernel)) rfl
theorem gw_260 : (Cond.methodLink "java/util/Arrays" 304 ⟨"java/lang/Math", "min", "(II)I"⟩) ∈ GT := gt_t (gt_1 225 (by decide +kernel)) rfl
theorem gw_261 : (Cond.methodLink "java/util/Arrays" 150 ⟨"java/lang/System", "arraycopy", "(Ljava/lang/Object;ILjava/lang/Object;II)V"⟩) ∈ GT := gt_t (gt_1 226 (by decide +kernel)) rfl
theorem gw_262 : (Cond.static ⟨"java/lang/System", "arraycopy", "(Ljava/lang/Object;ILjava/lang/Object;II)V"⟩) ∈ GT := gt_t (gt_1 227 (by decide +kernel)) rfl
theorem gw_263 : (Cond.native ⟨"java/lang/System", "arraycopy", "(Ljava/lang/Object;ILjava/lang/Object;II)V"⟩) ∈ GT := gt_t (gt_1 228 (by decide +kernel)) rfl
theorem gw_264 : (Cond.methodLink "java/util/ArrayList" 79 ⟨"java/lang/Math", "max", "(II)I"⟩) ∈ GT := gt_t (gt_1 229 (by decide +kernel)) rfl
theorem gw_265 : (Cond.classLink "java/util/ArrayList" 7 "java/lang/Object") ∈ GT := gt_t (gt_1 230 (by decide +kernel)) rfl
theorem gw_266 : (Cond.methodLink "MonitorQueues$Queue" 54 ⟨"MonitorQueues$Queue", "isProtectedKind", "(I)Z"⟩) ∈ GT := gt_t (gt_1 231 (by decide +kernel)) rfl
theorem gw_267 : (Cond.static ⟨"MonitorQueues$Queue", "isProtectedKind", "(I)Z"⟩) ∈ GT := gt_t (gt_1 232 (by decide +kernel)) rfl
theorem gw_268 : (Cond.code ⟨"MonitorQueues$Queue", "isProtectedKind", "(I)Z"⟩ prog_4_method_3_code 1 (Option.some FieldType.boolean)) ∈ GT := gt_t (gt_1 233 (by decide +kernel)) rfl
theorem gw_269 : (Cond.methodLink "MonitorQueues$Queue" 60 ⟨"MonitorQueues$Queue", "isTransient", "()Z"⟩) ∈ GT := gt_t (gt_1 234 (by decide +kernel)) rfl
theorem gw_270 : (Cond.instanceMethod ⟨"MonitorQueues$Queue", "isTransient", "()Z"⟩) ∈ GT := gt_t (gt_1 235 (by decide +kernel)) rfl
theorem gw_271 : (Cond.selects "MonitorQueues$Queue" ⟨"MonitorQueues$Queue", "isTransient", "()Z"⟩ ⟨"MonitorQueues$Queue", "isTransient", "()Z"⟩) ∈ GT := gt_t (gt_1 236 (by decide +kernel)) rfl
theorem gw_272 : (Cond.code ⟨"MonitorQueues$Queue", "isTransient", "()Z"⟩ prog_4_method_4_code 1 (Option.some FieldType.boolean)) ∈ GT := gt_t (gt_1 237 (by decide +kernel)) rfl
theorem gw_273 : (Cond.methodLink "MonitorQueues$Queue" 33 ⟨"java/util/ArrayList", "size", "()I"⟩) ∈ GT := gt_t (gt_1 238 (by decide +kernel)) rfl
theorem gw_274 : (Cond.methodLink "MonitorQueues" 69 ⟨"MonitorQueues", "lookAtTriggers", "()V"⟩) ∈ GT := gt_t (gt_1 239 (by decide +kernel)) rfl
theorem gw_276 : (Cond.instanceMethod ⟨"MonitorQueues", "lookAtTriggers", "()V"⟩) ∈ GT := gt_t (gt_2 1 (by decide +kernel)) rfl
theorem gw_277 : (Cond.code ⟨"MonitorQueues", "lookAtTriggers", "()V"⟩ prog_1_method_21_code 3 none) ∈ GT := gt_t (gt_2 2 (by decide +kernel)) rfl
theorem gw_278 : (Cond.methodLink "MonitorQueues" 117 ⟨"MonitorQueues$Queue", "standing", "()I"⟩) ∈ GT := gt_t (gt_2 3 (by decide +kernel)) rfl
theorem gw_279 : (Cond.instanceMethod ⟨"MonitorQueues$Queue", "standing", "()I"⟩) ∈ GT := gt_t (gt_2 4 (by decide +kernel)) rfl
theorem gw_280 : (Cond.selects "MonitorQueues$Queue" ⟨"MonitorQueues$Queue", "standing", "()I"⟩ ⟨"MonitorQueues$Queue", "standing", "()I"⟩) ∈ GT := gt_t (gt_2 5 (by decide +kernel)) rfl
theorem gw_281 : (Cond.code ⟨"MonitorQueues$Queue", "standing", "()I"⟩ prog_4_method_7_code 1 (Option.some FieldType.int)) ∈ GT := gt_t (gt_2 6 (by decide +kernel)) rfl
theorem gw_282 : (Cond.methodLink "MonitorQueues" 205 ⟨"MonitorQueues", "look", "(LMonitorQueues$Trigger;I)V"⟩) ∈ GT := gt_t (gt_2 7 (by decide +kernel)) rfl
theorem gw_284 : (Cond.instanceMethod ⟨"MonitorQueues", "look", "(LMonitorQueues$Trigger;I)V"⟩) ∈ GT := gt_t (gt_2 9 (by decide +kernel)) rfl
theorem gw_285 : (Cond.code ⟨"MonitorQueues", "look", "(LMonitorQueues$Trigger;I)V"⟩ prog_1_method_22_code 3 none) ∈ GT := gt_t (gt_2 10 (by decide +kernel)) rfl
theorem gw_286 : (Cond.methodLink "MonitorQueues" 215 ⟨"MonitorQueues", "beginFor", "(LMonitorQueues$Trigger;)I"⟩) ∈ GT := gt_t (gt_2 11 (by decide +kernel)) rfl
theorem gw_288 : (Cond.instanceMethod ⟨"MonitorQueues", "beginFor", "(LMonitorQueues$Trigger;)I"⟩) ∈ GT := gt_t (gt_2 13 (by decide +kernel)) rfl
theorem gw_289 : (Cond.code ⟨"MonitorQueues", "beginFor", "(LMonitorQueues$Trigger;)I"⟩ prog_1_method_20_code 2 (Option.some FieldType.int)) ∈ GT := gt_t (gt_2 14 (by decide +kernel)) rfl
theorem gw_290 : (Cond.methodLink "MonitorQueues" 196 ⟨"MonitorQueues", "begin", "(I)I"⟩) ∈ GT := gt_t (gt_2 15 (by decide +kernel)) rfl
theorem gw_292 : (Cond.instanceMethod ⟨"MonitorQueues", "begin", "(I)I"⟩) ∈ GT := gt_t (gt_2 17 (by decide +kernel)) rfl
theorem gw_293 : (Cond.code ⟨"MonitorQueues", "begin", "(I)I"⟩ prog_1_method_19_code 2 (Option.some FieldType.int)) ∈ GT := gt_t (gt_2 18 (by decide +kernel)) rfl
theorem gw_294 : (Cond.classLink "MonitorQueues" 135 "MonitorQueues$Task") ∈ GT := gt_t (gt_2 19 (by decide +kernel)) rfl
theorem gw_295 : (Cond.instantiable "MonitorQueues$Task" 2) ∈ GT := gt_t (gt_2 20 (by decide +kernel)) rfl
theorem gw_296 : (Cond.methodLink "MonitorQueues" 188 ⟨"MonitorQueues$Task", "<init>", "(I)V"⟩) ∈ GT := gt_t (gt_2 21 (by decide +kernel)) rfl
theorem gw_297 : (Cond.instanceMethod ⟨"MonitorQueues$Task", "<init>", "(I)V"⟩) ∈ GT := gt_t (gt_2 22 (by decide +kernel)) rfl
theorem gw_298 : (Cond.code ⟨"MonitorQueues$Task", "<init>", "(I)V"⟩ prog_5_method_1_code 2 none) ∈ GT := gt_t (gt_2 23 (by decide +kernel)) rfl
theorem gw_299 : (Cond.methodLink "MonitorQueues$Task" 1 ⟨"java/lang/Object", "<init>", "()V"⟩) ∈ GT := gt_t (gt_2 24 (by decide +kernel)) rfl
theorem gw_300 : (Cond.fieldLink "MonitorQueues$Task" 7 "MonitorQueues$Task" "code" "I") ∈ GT := gt_t (gt_2 25 (by decide +kernel)) rfl
theorem gw_301 : (Cond.fieldLink "MonitorQueues" 137 "MonitorQueues$Task" "code" "I") ∈ GT := gt_t (gt_2 26 (by decide +kernel)) rfl
theorem gw_302 : (Cond.fieldLink "MonitorQueues$Task" 13 "MonitorQueues$Task" "goes" "Z") ∈ GT := gt_t (gt_2 27 (by decide +kernel)) rfl
theorem gw_303 : (Cond.fieldLink "MonitorQueues" 140 "MonitorQueues$Task" "goes" "Z") ∈ GT := gt_t (gt_2 28 (by decide +kernel)) rfl
theorem gw_304 : (Cond.laysFinal "MonitorQueues$Task" "MonitorQueues$Task" "code" "I") ∈ GT := gt_t (gt_2 29 (by decide +kernel)) rfl
theorem gw_306 : (Cond.lays "MonitorQueues$Task" "MonitorQueues$Task" "goes" "Z") ∈ GT := gt_t (gt_2 31 (by decide +kernel)) rfl
theorem gw_309 : (Cond.methodLink "MonitorQueues" 191 ⟨"java/util/ArrayList", "add", "(Ljava/lang/Object;)Z"⟩) ∈ GT := gt_t (gt_2 34 (by decide +kernel)) rfl
theorem gw_310 : (Cond.methodLink "MonitorQueuesLaw" 42 ⟨"MonitorQueues", "next", "(II)I"⟩) ∈ GT := gt_t (gt_2 35 (by decide +kernel)) rfl
theorem gw_311 : (Cond.instanceMethod ⟨"MonitorQueues", "next", "(II)I"⟩) ∈ GT := gt_t (gt_2 36 (by decide +kernel)) rfl
theorem gw_312 : (Cond.selects "MonitorQueues" ⟨"MonitorQueues", "next", "(II)I"⟩ ⟨"MonitorQueues", "next", "(II)I"⟩) ∈ GT := gt_t (gt_2 37 (by decide +kernel)) rfl
theorem gw_313 : (Cond.code ⟨"MonitorQueues", "next", "(II)I"⟩ prog_1_method_4_code 5 (Option.some FieldType.int)) ∈ GT := gt_t (gt_2 38 (by decide +kernel)) rfl
theorem gw_314 : (Cond.methodLink "MonitorQueues" 107 ⟨"MonitorQueues$Queue", "isTransient", "()Z"⟩) ∈ GT := gt_t (gt_2 39 (by decide +kernel)) rfl
theorem gw_315 : (Cond.methodLink "MonitorQueues" 82 ⟨"MonitorQueues$Queue", "holds", "(I)Z"⟩) ∈ GT := gt_t (gt_2 40 (by decide +kernel)) rfl
theorem gw_316 : (Cond.instanceMethod ⟨"MonitorQueues$Queue", "holds", "(I)Z"⟩) ∈ GT := gt_t (gt_2 41 (by decide +kernel)) rfl
theorem gw_317 : (Cond.selects "MonitorQueues$Queue" ⟨"MonitorQueues$Queue", "holds", "(I)Z"⟩ ⟨"MonitorQueues$Queue", "holds", "(I)Z"⟩) ∈ GT := gt_t (gt_2 42 (by decide +kernel)) rfl
theorem gw_318 : (Cond.code ⟨"MonitorQueues$Queue", "holds", "(I)Z"⟩ prog_4_method_8_code 2 (Option.some FieldType.boolean)) ∈ GT := gt_t (gt_2 43 (by decide +kernel)) rfl
theorem gw_319 : (Cond.methodLink "MonitorQueuesLaw" 47 ⟨"MonitorQueues", "take", "(I)I"⟩) ∈ GT := gt_t (gt_2 44 (by decide +kernel)) rfl
theorem gw_320 : (Cond.instanceMethod ⟨"MonitorQueues", "take", "(I)I"⟩) ∈ GT := gt_t (gt_2 45 (by decide +kernel)) rfl
theorem gw_321 : (Cond.selects "MonitorQueues" ⟨"MonitorQueues", "take", "(I)I"⟩ ⟨"MonitorQueues", "take", "(I)I"⟩) ∈ GT := gt_t (gt_2 46 (by decide +kernel)) rfl
theorem gw_322 : (Cond.code ⟨"MonitorQueues", "take", "(I)I"⟩ prog_1_method_5_code 4 (Option.some FieldType.int)) ∈ GT := gt_t (gt_2 47 (by decide +kernel)) rfl
theorem gw_323 : (Cond.methodLink "MonitorQueues" 79 ⟨"MonitorQueues$Queue", "isTemporary", "()Z"⟩) ∈ GT := gt_t (gt_2 48 (by decide +kernel)) rfl
theorem gw_324 : (Cond.instanceMethod ⟨"MonitorQueues$Queue", "isTemporary", "()Z"⟩) ∈ GT := gt_t (gt_2 49 (by decide +kernel)) rfl
theorem gw_325 : (Cond.selects "MonitorQueues$Queue" ⟨"MonitorQueues$Queue", "isTemporary", "()Z"⟩ ⟨"MonitorQueues$Queue", "isTemporary", "()Z"⟩) ∈ GT := gt_t (gt_2 50 (by decide +kernel)) rfl
theorem gw_326 : (Cond.code ⟨"MonitorQueues$Queue", "isTemporary", "()Z"⟩ prog_4_method_5_code 1 (Option.some FieldType.boolean)) ∈ GT := gt_t (gt_2 51 (by decide +kernel)) rfl
theorem gw_327 : (Cond.methodLink "MonitorQueues" 114 ⟨"java/util/ArrayList", "isEmpty", "()Z"⟩) ∈ GT := gt_t (gt_2 52 (by decide +kernel)) rfl
theorem gw_328 : (Cond.instanceMethod ⟨"java/util/ArrayList", "isEmpty", "()Z"⟩) ∈ GT := gt_t (gt_2 53 (by decide +kernel)) rfl
theorem gw_329 : (Cond.selects "java/util/ArrayList" ⟨"java/util/ArrayList", "isEmpty", "()Z"⟩ ⟨"java/util/ArrayList", "isEmpty", "()Z"⟩) ∈ GT := gt_t (gt_2 54 (by decide +kernel)) rfl
theorem gw_330 : (Cond.code ⟨"java/util/ArrayList", "isEmpty", "()Z"⟩ prog_20_method_9_code 1 (Option.some FieldType.boolean)) ∈ GT := gt_t (gt_2 55 (by decide +kernel)) rfl
theorem gw_331 : (Cond.methodLink "MonitorQueues" 120 ⟨"MonitorQueues$Queue", "removeFirst", "()I"⟩) ∈ GT := gt_t (gt_2 56 (by decide +kernel)) rfl
theorem gw_332 : (Cond.instanceMethod ⟨"MonitorQueues$Queue", "removeFirst", "()I"⟩) ∈ GT := gt_t (gt_2 57 (by decide +kernel)) rfl
theorem gw_333 : (Cond.selects "MonitorQueues$Queue" ⟨"MonitorQueues$Queue", "removeFirst", "()I"⟩ ⟨"MonitorQueues$Queue", "removeFirst", "()I"⟩) ∈ GT := gt_t (gt_2 58 (by decide +kernel)) rfl
theorem gw_334 : (Cond.code ⟨"MonitorQueues$Queue", "removeFirst", "()I"⟩ prog_4_method_12_code 1 (Option.some FieldType.int)) ∈ GT := gt_t (gt_2 59 (by decide +kernel)) rfl
theorem gw_335 : (Cond.methodLink "MonitorQueues$Queue" 67 ⟨"java/util/ArrayList", "isEmpty", "()Z"⟩) ∈ GT := gt_t (gt_2 60 (by decide +kernel)) rfl
theorem gw_336 : (Cond.methodLink "MonitorQueues$Queue" 73 ⟨"java/util/ArrayList", "get", "(I)Ljava/lang/Object;"⟩) ∈ GT := gt_t (gt_2 61 (by decide +kernel)) rfl
theorem gw_337 : (Cond.instanceMethod ⟨"java/util/ArrayList", "get", "(I)Ljava/lang/Object;"⟩) ∈ GT := gt_t (gt_2 62 (by decide +kernel)) rfl
theorem gw_338 : (Cond.selects "java/util/ArrayList" ⟨"java/util/ArrayList", "get", "(I)Ljava/lang/Object;"⟩ ⟨"java/util/ArrayList", "get", "(I)Ljava/lang/Object;"⟩) ∈ GT := gt_t (gt_2 63 (by decide +kernel)) rfl
theorem gw_339 : (Cond.code ⟨"java/util/ArrayList", "get", "(I)Ljava/lang/Object;"⟩ prog_20_method_20_code 2 (Option.some (FieldType.object "java/lang/Object"))) ∈ GT := gt_t (gt_2 64 (by decide +kernel)) rfl
theorem gw_340 : (Cond.methodLink "java/util/ArrayList" 118 ⟨"java/util/Objects", "checkIndex", "(II)I"⟩) ∈ GT := gt_t (gt_2 65 (by decide +kernel)) rfl
theorem gw_341 : (Cond.static ⟨"java/util/Objects", "checkIndex", "(II)I"⟩) ∈ GT := gt_t (gt_2 66 (by decide +kernel)) rfl
theorem gw_342 : (Cond.code ⟨"java/util/Objects", "checkIndex", "(II)I"⟩ prog_25_method_17_code 2 (Option.some FieldType.int)) ∈ GT := gt_t (gt_2 67 (by decide +kernel)) rfl
theorem gw_343 : (Cond.methodLink "java/util/Objects" 105 ⟨"jdk/internal/util/Preconditions", "checkIndex", "(IILjava/util/function/BiFunction;)I"⟩) ∈ GT := gt_t (gt_2 68 (by decide +kernel)) rfl
theorem gw_344 : (Cond.static ⟨"jdk/internal/util/Preconditions", "checkIndex", "(IILjava/util/function/BiFunction;)I"⟩) ∈ GT := gt_t (gt_2 69 (by decide +kernel)) rfl
theorem gw_345 : (Cond.code ⟨"jdk/internal/util/Preconditions", "checkIndex", "(IILjava/util/function/BiFunction;)I"⟩ prog_29_method_11_code 3 (Option.some FieldType.int)) ∈ GT := gt_t (gt_2 70 (by decide +kernel)) rfl
theorem gw_346 : (Cond.methodLink "java/util/ArrayList" 123 ⟨"java/util/ArrayList", "elementData", "(I)Ljava/lang/Object;"⟩) ∈ GT := gt_t (gt_2 71 (by decide +kernel)) rfl
theorem gw_347 : (Cond.instanceMethod ⟨"java/util/ArrayList", "elementData", "(I)Ljava/lang/Object;"⟩) ∈ GT := gt_t (gt_2 72 (by decide +kernel)) rfl
theorem gw_348 : (Cond.selects "java/util/ArrayList" ⟨"java/util/ArrayList", "elementData", "(I)Ljava/lang/Object;"⟩ ⟨"java/util/ArrayList", "elementData", "(I)Ljava/lang/Object;"⟩) ∈ GT := gt_t (gt_2 73 (by decide +kernel)) rfl
theorem gw_349 : (Cond.code ⟨"java/util/ArrayList", "elementData", "(I)Ljava/lang/Object;"⟩ prog_20_method_18_code 2 (Option.some (FieldType.object "java/lang/Object"))) ∈ GT := gt_t (gt_2 74 (by decide +kernel)) rfl
theorem gw_350 : (Cond.methodLink "MonitorQueues$Queue" 83 ⟨"java/util/ArrayList", "remove", "(I)Ljava/lang/Object;"⟩) ∈ GT := gt_t (gt_2 75 (by decide +kernel)) rfl
theorem gw_351 : (Cond.instanceMethod ⟨"java/util/ArrayList", "remove", "(I)Ljava/lang/Object;"⟩) ∈ GT := gt_t (gt_2 76 (by decide +kernel)) rfl
theorem gw_352 : (Cond.selects "java/util/ArrayList" ⟨"java/util/ArrayList", "remove", "(I)Ljava/lang/Object;"⟩ ⟨"java/util/ArrayList", "remove", "(I)Ljava/lang/Object;"⟩) ∈ GT := gt_t (gt_2 77 (by decide +kernel)) rfl
theorem gw_353 : (Cond.code ⟨"java/util/ArrayList", "remove", "(I)Ljava/lang/Object;"⟩ prog_20_method_29_code 4 (Option.some (FieldType.object "java/lang/Object"))) ∈ GT := gt_t (gt_2 78 (by decide +kernel)) rfl
theorem gw_354 : (Cond.methodLink "java/util/ArrayList" 144 ⟨"java/util/ArrayList", "fastRemove", "([Ljava/lang/Object;I)V"⟩) ∈ GT := gt_t (gt_2 79 (by decide +kernel)) rfl
theorem gw_356 : (Cond.instanceMethod ⟨"java/util/ArrayList", "fastRemove", "([Ljava/lang/Object;I)V"⟩) ∈ GT := gt_t (gt_2 81 (by decide +kernel)) rfl
theorem gw_357 : (Cond.code ⟨"java/util/ArrayList", "fastRemove", "([Ljava/lang/Object;I)V"⟩ prog_20_method_39_code 4 none) ∈ GT := gt_t (gt_2 82 (by decide +kernel)) rfl
theorem gw_358 : (Cond.methodLink "java/util/ArrayList" 112 ⟨"java/lang/System", "arraycopy", "(Ljava/lang/Object;ILjava/lang/Object;II)V"⟩) ∈ GT := gt_t (gt_2 83 (by decide +kernel)) rfl
theorem gw_359 : (Cond.methodLink "MonitorQueues$Queue" 92 ⟨"MonitorQueues$Queue", "becomeEmpty", "()V"⟩) ∈ GT := gt_t (gt_2 84 (by decide +kernel)) rfl
theorem gw_360 : (Cond.instanceMethod ⟨"MonitorQueues$Queue", "becomeEmpty", "()V"⟩) ∈ GT := gt_t (gt_2 85 (by decide +kernel)) rfl
theorem gw_361 : (Cond.selects "MonitorQueues$Queue" ⟨"MonitorQueues$Queue", "becomeEmpty", "()V"⟩ ⟨"MonitorQueues$Queue", "becomeEmpty", "()V"⟩) ∈ GT := gt_t (gt_2 86 (by decide +kernel)) rfl
theorem gw_362 : (Cond.code ⟨"MonitorQueues$Queue", "becomeEmpty", "()V"⟩ prog_4_method_15_code 1 none) ∈ GT := gt_t (gt_2 87 (by decide +kernel)) rfl
theorem gw_363 : (Cond.methodLink "MonitorQueues$Queue" 99 ⟨"java/util/ArrayList", "clear", "()V"⟩) ∈ GT := gt_t (gt_2 88 (by decide +kernel)) rfl
theorem gw_364 : (Cond.instanceMethod ⟨"java/util/ArrayList", "clear", "()V"⟩) ∈ GT := gt_t (gt_2 89 (by decide +kernel)) rfl
theorem gw_365 : (Cond.selects "java/util/ArrayList" ⟨"java/util/ArrayList", "clear", "()V"⟩ ⟨"java/util/ArrayList", "clear", "()V"⟩) ∈ GT := gt_t (gt_2 90 (by decide +kernel)) rfl
theorem gw_366 : (Cond.code ⟨"java/util/ArrayList", "clear", "()V"⟩ prog_20_method_40_code 4 none) ∈ GT := gt_t (gt_2 91 (by decide +kernel)) rfl
theorem gw_367 : (Cond.methodLink "MonitorQueues$Queue" 102 ⟨"java/util/Arrays", "fill", "([II)V"⟩) ∈ GT := gt_t (gt_2 92 (by decide +kernel)) rfl
theorem gw_368 : (Cond.static ⟨"java/util/Arrays", "fill", "([II)V"⟩) ∈ GT := gt_t (gt_2 93 (by decide +kernel)) rfl
theorem gw_369 : (Cond.code ⟨"java/util/Arrays", "fill", "([II)V"⟩ prog_21_method_103_code 4 none) ∈ GT := gt_t (gt_2 94 (by decide +kernel)) rfl
theorem gw_370 : (Cond.methodLink "MonitorQueuesLaw" 52 ⟨"MonitorQueues", "trigger", "(III)I"⟩) ∈ GT := gt_t (gt_2 95 (by decide +kernel)) rfl
theorem gw_371 : (Cond.instanceMethod ⟨"MonitorQueues", "trigger", "(III)I"⟩) ∈ GT := gt_t (gt_2 96 (by decide +kernel)) rfl
theorem gw_372 : (Cond.selects "MonitorQueues" ⟨"MonitorQueues", "trigger", "(III)I"⟩ ⟨"MonitorQueues", "trigger", "(III)I"⟩) ∈ GT := gt_t (gt_2 97 (by decide +kernel)) rfl
theorem gw_373 : (Cond.code ⟨"MonitorQueues", "trigger", "(III)I"⟩ prog_1_method_6_code 5 (Option.some FieldType.int)) ∈ GT := gt_t (gt_2 98 (by decide +kernel)) rfl
theorem gw_374 : (Cond.classLink "MonitorQueues" 123 "MonitorQueues$Trigger") ∈ GT := gt_t (gt_2 99 (by decide +kernel)) rfl
theorem gw_375 : (Cond.instantiable "MonitorQueues$Trigger" 5) ∈ GT := gt_t (gt_2 100 (by decide +kernel)) rfl
theorem gw_376 : (Cond.methodLink "MonitorQueues" 125 ⟨"MonitorQueues$Trigger", "<init>", "(II)V"⟩) ∈ GT := gt_t (gt_2 101 (by decide +kernel)) rfl
theorem gw_377 : (Cond.instanceMethod ⟨"MonitorQueues$Trigger", "<init>", "(II)V"⟩) ∈ GT := gt_t (gt_2 102 (by decide +kernel)) rfl
theorem gw_378 : (Cond.code ⟨"MonitorQueues$Trigger", "<init>", "(II)V"⟩ prog_6_method_1_code 3 none) ∈ GT := gt_t (gt_2 103 (by decide +kernel)) rfl
theorem gw_379 : (Cond.methodLink "MonitorQueues$Trigger" 1 ⟨"java/lang/Object", "<init>", "()V"⟩) ∈ GT := gt_t (gt_2 104 (by decide +kernel)) rfl
theorem gw_380 : (Cond.fieldLink "MonitorQueues$Trigger" 7 "MonitorQueues$Trigger" "needed" "I") ∈ GT := gt_t (gt_2 105 (by decide +kernel)) rfl
theorem gw_381 : (Cond.fieldLink "MonitorQueues" 209 "MonitorQueues$Trigger" "needed" "I") ∈ GT := gt_t (gt_2 106 (by decide +kernel)) rfl
theorem gw_382 : (Cond.fieldLink "MonitorQueues$Trigger" 13 "MonitorQueues$Trigger" "code" "I") ∈ GT := gt_t (gt_2 107 (by decide +kernel)) rfl
theorem gw_383 : (Cond.fieldLink "MonitorQueues" 195 "MonitorQueues$Trigger" "code" "I") ∈ GT := gt_t (gt_2 108 (by decide +kernel)) rfl
theorem gw_384 : (Cond.fieldLink "MonitorQueues$Trigger" 16 "MonitorQueues$Trigger" "ready" "Z") ∈ GT := gt_t (gt_2 109 (by decide +kernel)) rfl
theorem gw_385 : (Cond.fieldLink "MonitorQueues" 212 "MonitorQueues$Trigger" "ready" "Z") ∈ GT := gt_t (gt_2 110 (by decide +kernel)) rfl
theorem gw_386 : (Cond.fieldLink "MonitorQueues" 199 "MonitorQueues$Trigger" "task" "I") ∈ GT := gt_t (gt_2 111 (by decide +kernel)) rfl
theorem gw_387 : (Cond.fieldLink "MonitorQueues$Queue" 86 "MonitorQueues$Trigger" "takenSince" "Z") ∈ GT := gt_t (gt_2 112 (by decide +kernel)) rfl
theorem gw_388 : (Cond.fieldLink "MonitorQueues" 202 "MonitorQueues$Trigger" "takenSince" "Z") ∈ GT := gt_t (gt_2 113 (by decide +kernel)) rfl
theorem gw_389 : (Cond.laysFinal "MonitorQueues$Trigger" "MonitorQueues$Trigger" "needed" "I") ∈ GT := gt_t (gt_2 114 (by decide +kernel)) rfl
theorem gw_391 : (Cond.laysFinal "MonitorQueues$Trigger" "MonitorQueues$Trigger" "code" "I") ∈ GT := gt_t (gt_2 116 (by decide +kernel)) rfl
theorem gw_393 : (Cond.lays "MonitorQueues$Trigger" "MonitorQueues$Trigger" "ready" "Z") ∈ GT := gt_t (gt_2 118 (by decide +kernel)) rfl
theorem gw_395 : (Cond.lays "MonitorQueues$Trigger" "MonitorQueues$Trigger" "task" "I") ∈ GT := gt_t (gt_2 120 (by decide +kernel)) rfl
theorem gw_397 : (Cond.lays "MonitorQueues$Trigger" "MonitorQueues$Trigger" "takenSince" "Z") ∈ GT := gt_t (gt_2 122 (by decide +kernel)) rfl
theorem gw_400 : (Cond.methodLink "MonitorQueuesLaw" 57 ⟨"MonitorQueues", "started", "(I)I"⟩) ∈ GT := gt_t (gt_2 125 (by decide +kernel)) rfl
theorem gw_401 : (Cond.instanceMethod ⟨"MonitorQueues", "started", "(I)I"⟩) ∈ GT := gt_t (gt_2 126 (by decide +kernel)) rfl
theorem gw_402 : (Cond.selects "MonitorQueues" ⟨"MonitorQueues", "started", "(I)I"⟩ ⟨"MonitorQueues", "started", "(I)I"⟩) ∈ GT := gt_t (gt_2 127 (by decide +kernel)) rfl
theorem gw_403 : (Cond.code ⟨"MonitorQueues", "started", "(I)I"⟩ prog_1_method_7_code 2 (Option.some FieldType.int)) ∈ GT := gt_t (gt_2 128 (by decide +kernel)) rfl
theorem gw_404 : (Cond.methodLink "MonitorQueues" 132 ⟨"MonitorQueues", "isTask", "(I)Z"⟩) ∈ GT := gt_t (gt_2 129 (by decide +kernel)) rfl
theorem gw_406 : (Cond.instanceMethod ⟨"MonitorQueues", "isTask", "(I)Z"⟩) ∈ GT := gt_t (gt_2 131 (by decide +kernel)) rfl
theorem gw_407 : (Cond.code ⟨"MonitorQueues", "isTask", "(I)Z"⟩ prog_1_method_17_code 2 (Option.some FieldType.boolean)) ∈ GT := gt_t (gt_2 132 (by decide +kernel)) rfl
theorem gw_408 : (Cond.methodLink "MonitorQueues" 90 ⟨"java/util/ArrayList", "get", "(I)Ljava/lang/Object;"⟩) ∈ GT := gt_t (gt_2 133 (by decide +kernel)) rfl
theorem gw_409 : (Cond.methodLink "MonitorQueuesLaw" 61 ⟨"MonitorQueues", "end", "(I)I"⟩) ∈ GT := gt_t (gt_2 134 (by decide +kernel)) rfl
theorem gw_410 : (Cond.instanceMethod ⟨"MonitorQueues", "end", "(I)I"⟩) ∈ GT := gt_t (gt_2 135 (by decide +kernel)) rfl
theorem gw_411 : (Cond.selects "MonitorQueues" ⟨"MonitorQueues", "end", "(I)I"⟩ ⟨"MonitorQueues", "end", "(I)I"⟩) ∈ GT := gt_t (gt_2 136 (by decide +kernel)) rfl
theorem gw_412 : (Cond.code ⟨"MonitorQueues", "end", "(I)I"⟩ prog_1_method_8_code 4 (Option.some FieldType.int)) ∈ GT := gt_t (gt_2 137 (by decide +kernel)) rfl
theorem gw_413 : (Cond.methodLink "MonitorQueues" 147 ⟨"MonitorQueues", "beginAgain", "(I)I"⟩) ∈ GT := gt_t (gt_2 138 (by decide +kernel)) rfl
theorem gw_415 : (Cond.instanceMethod ⟨"MonitorQueues", "beginAgain", "(I)I"⟩) ∈ GT := gt_t (gt_2 140 (by decide +kernel)) rfl
theorem gw_416 : (Cond.code ⟨"MonitorQueues", "beginAgain", "(I)I"⟩ prog_1_method_23_code 5 (Option.some FieldType.int)) ∈ GT := gt_t (gt_2 141 (by decide +kernel)) rfl
theorem gw_417 : (Cond.methodLink "MonitorQueuesLaw" 65 ⟨"MonitorQueues", "rewrite", "(IIJ)I"⟩) ∈ GT := gt_t (gt_2 142 (by decide +kernel)) rfl
theorem gw_418 : (Cond.instanceMethod ⟨"MonitorQueues", "rewrite", "(IIJ)I"⟩) ∈ GT := gt_t (gt_2 143 (by decide +kernel)) rfl
theorem gw_419 : (Cond.selects "MonitorQueues" ⟨"MonitorQueues", "rewrite", "(IIJ)I"⟩ ⟨"MonitorQueues", "rewrite", "(IIJ)I"⟩) ∈ GT := gt_t (gt_2 144 (by decide +kernel)) rfl
theorem gw_420 : (Cond.code ⟨"MonitorQueues", "rewrite", "(IIJ)I"⟩ prog_1_method_9_code 6 (Option.some FieldType.int)) ∈ GT := gt_t (gt_2 145 (by decide +kernel)) rfl
theorem gw_421 : (Cond.classLink "MonitorQueues" 94 "MonitorQueues$Item") ∈ GT := gt_t (gt_2 146 (by decide +kernel)) rfl
theorem gw_422 : (Cond.methodLink "MonitorQueuesLaw" 70 ⟨"MonitorQueues", "delay", "(IJ)I"⟩) ∈ GT := gt_t (gt_2 147 (by decide +kernel)) rfl
theorem gw_423 : (Cond.instanceMethod ⟨"MonitorQueues", "delay", "(IJ)I"⟩) ∈ GT := gt_t (gt_2 148 (by decide +kernel)) rfl
theorem gw_424 : (Cond.selects "MonitorQueues" ⟨"MonitorQueues", "delay", "(IJ)I"⟩ ⟨"MonitorQueues", "delay", "(IJ)I"⟩) ∈ GT := gt_t (gt_2 149 (by decide +kernel)) rfl
theorem gw_425 : (Cond.code ⟨"MonitorQueues", "delay", "(IJ)I"⟩ prog_1_method_10_code 4 (Option.some FieldType.int)) ∈ GT := gt_t (gt_2 150 (by decide +kernel)) rfl
theorem gw_426 : (Cond.classLink "MonitorQueues" 157 "MonitorQueues$Delay") ∈ GT := gt_t (gt_2 151 (by decide +kernel)) rfl
theorem gw_427 : (Cond.instantiable "MonitorQueues$Delay" 3) ∈ GT := gt_t (gt_2 152 (by decide +kernel)) rfl
theorem gw_428 : (Cond.methodLink "MonitorQueues" 159 ⟨"MonitorQueues$Delay", "<init>", "(IIJ)V"⟩) ∈ GT := gt_t (gt_2 153 (by decide +kernel)) rfl
theorem gw_429 : (Cond.instanceMethod ⟨"MonitorQueues$Delay", "<init>", "(IIJ)V"⟩) ∈ GT := gt_t (gt_2 154 (by decide +kernel)) rfl
theorem gw_430 : (Cond.code ⟨"MonitorQueues$Delay", "<init>", "(IIJ)V"⟩ prog_2_method_1_code 5 none) ∈ GT := gt_t (gt_2 155 (by decide +kernel)) rfl
theorem gw_431 : (Cond.methodLink "MonitorQueues$Delay" 1 ⟨"java/lang/Object", "<init>", "()V"⟩) ∈ GT := gt_t (gt_2 156 (by decide +kernel)) rfl
theorem gw_432 : (Cond.fieldLink "MonitorQueues$Delay" 7 "MonitorQueues$Delay" "number" "I") ∈ GT := gt_t (gt_2 157 (by decide +kernel)) rfl
theorem gw_433 : (Cond.fieldLink "MonitorQueues" 169 "MonitorQueues$Delay" "number" "I") ∈ GT := gt_t (gt_2 158 (by decide +kernel)) rfl
theorem gw_434 : (Cond.fieldLink "MonitorQueues$Delay" 13 "MonitorQueues$Delay" "code" "I") ∈ GT := gt_t (gt_2 159 (by decide +kernel)) rfl
theorem gw_435 : (Cond.fieldLink "MonitorQueues" 225 "MonitorQueues$Delay" "code" "I") ∈ GT := gt_t (gt_2 160 (by decide +kernel)) rfl
theorem gw_436 : (Cond.fieldLink "MonitorQueues$Delay" 16 "MonitorQueues$Delay" "until" "J") ∈ GT := gt_t (gt_2 161 (by decide +kernel)) rfl
theorem gw_437 : (Cond.fieldLink "MonitorQueues" 219 "MonitorQueues$Delay" "until" "J") ∈ GT := gt_t (gt_2 162 (by decide +kernel)) rfl
theorem gw_438 : (Cond.laysFinal "MonitorQueues$Delay" "MonitorQueues$Delay" "number" "I") ∈ GT := gt_t (gt_2 163 (by decide +kernel)) rfl
theorem gw_440 : (Cond.laysFinal "MonitorQueues$Delay" "MonitorQueues$Delay" "code" "I") ∈ GT := gt_t (gt_2 165 (by decide +kernel)) rfl
theorem gw_442 : (Cond.laysFinal "MonitorQueues$Delay" "MonitorQueues$Delay" "until" "J") ∈ GT := gt_t (gt_2 167 (by decide +kernel)) rfl
theorem gw_445 : (Cond.methodLink "MonitorQueues" 162 ⟨"MonitorQueues", "keepWaiting", "(LMonitorQueues$Delay;)V"⟩) ∈ GT := gt_t (gt_2 170 (by decide +kernel)) rfl
theorem gw_447 : (Cond.instanceMethod ⟨"MonitorQueues", "keepWaiting", "(LMonitorQueues$Delay;)V"⟩) ∈ GT := gt_t (gt_2 172 (by decide +kernel)) rfl
theorem gw_448 : (Cond.code ⟨"MonitorQueues", "keepWaiting", "(LMonitorQueues$Delay;)V"⟩ prog_1_method_24_code 3 none) ∈ GT := gt_t (gt_2 173 (by decide +kernel)) rfl
theorem gw_449 : (Cond.methodLink "MonitorQueues" 222 ⟨"java/util/ArrayList", "add", "(ILjava/lang/Object;)V"⟩) ∈ GT := gt_t (gt_2 174 (by decide +kernel)) rfl
theorem gw_450 : (Cond.instanceMethod ⟨"java/util/ArrayList", "add", "(ILjava/lang/Object;)V"⟩) ∈ GT := gt_t (gt_2 175 (by decide +kernel)) rfl
theorem gw_451 : (Cond.selects "java/util/ArrayList" ⟨"java/util/ArrayList", "add", "(ILjava/lang/Object;)V"⟩ ⟨"java/util/ArrayList", "add", "(ILjava/lang/Object;)V"⟩) ∈ GT := gt_t (gt_2 176 (by decide +kernel)) rfl
theorem gw_452 : (Cond.code ⟨"java/util/ArrayList", "add", "(ILjava/lang/Object;)V"⟩ prog_20_method_26_code 5 none) ∈ GT := gt_t (gt_2 177 (by decide +kernel)) rfl
theorem gw_453 : (Cond.methodLink "java/util/ArrayList" 135 ⟨"java/util/ArrayList", "rangeCheckForAdd", "(I)V"⟩) ∈ GT := gt_t (gt_2 178 (by decide +kernel)) rfl
theorem gw_455 : (Cond.instanceMethod ⟨"java/util/ArrayList", "rangeCheckForAdd", "(I)V"⟩) ∈ GT := gt_t (gt_2 180 (by decide +kernel)) rfl
theorem gw_456 : (Cond.code ⟨"java/util/ArrayList", "rangeCheckForAdd", "(I)V"⟩ prog_20_method_45_code 2 none) ∈ GT := gt_t (gt_2 181 (by decide +kernel)) rfl
theorem gw_457 : (Cond.methodLink "MonitorQueues" 166 ⟨"MonitorQueues", "postDue", "()I"⟩) ∈ GT := gt_t (gt_2 182 (by decide +kernel)) rfl
theorem gw_459 : (Cond.instanceMethod ⟨"MonitorQueues", "postDue", "()I"⟩) ∈ GT := gt_t (gt_2 184 (by decide +kernel)) rfl
theorem gw_460 : (Cond.code ⟨"MonitorQueues", "postDue", "()I"⟩ prog_1_method_25_code 2 (Option.some FieldType.int)) ∈ GT := gt_t (gt_2 185 (by decide +kernel)) rfl
theorem gw_461 : (Cond.methodLink "MonitorQueues" 172 ⟨"java/util/ArrayList", "remove", "(I)Ljava/lang/Object;"⟩) ∈ GT := gt_t (gt_2 186 (by decide +kernel)) rfl
theorem gw_462 : (Cond.methodLink "MonitorQueuesLaw" 75 ⟨"MonitorQueues", "cancel", "(I)I"⟩) ∈ GT := gt_t (gt_2 187 (by decide +kernel)) rfl
theorem gw_463 : (Cond.instanceMethod ⟨"MonitorQueues", "cancel", "(I)I"⟩) ∈ GT := gt_t (gt_2 188 (by decide +kernel)) rfl
theorem gw_464 : (Cond.selects "MonitorQueues" ⟨"MonitorQueues", "cancel", "(I)I"⟩ ⟨"MonitorQueues", "cancel", "(I)I"⟩) ∈ GT := gt_t (gt_2 189 (by decide +kernel)) rfl
theorem gw_465 : (Cond.code ⟨"MonitorQueues", "cancel", "(I)I"⟩ prog_1_method_11_code 3 (Option.some FieldType.int)) ∈ GT := gt_t (gt_2 190 (by decide +kernel)) rfl
theorem gw_466 : (Cond.methodLink "MonitorQueuesLaw" 79 ⟨"MonitorQueues", "tick", "(J)I"⟩) ∈ GT := gt_t (gt_2 191 (by decide +kernel)) rfl
theorem gw_467 : (Cond.instanceMethod ⟨"MonitorQueues", "tick", "(J)I"⟩) ∈ GT := gt_t (gt_2 192 (by decide +kernel)) rfl
theorem gw_468 : (Cond.selects "MonitorQueues" ⟨"MonitorQueues", "tick", "(J)I"⟩ ⟨"MonitorQueues", "tick", "(J)I"⟩) ∈ GT := gt_t (gt_2 193 (by decide +kernel)) rfl
theorem gw_469 : (Cond.code ⟨"MonitorQueues", "tick", "(J)I"⟩ prog_1_method_12_code 3 (Option.some FieldType.int)) ∈ GT := gt_t (gt_2 194 (by decide +kernel)) rfl
theorem gw_470 : (Cond.methodLink "MonitorQueuesLaw" 84 ⟨"MonitorQueues", "unit", "(IZ)I"⟩) ∈ GT := gt_t (gt_2 195 (by decide +kernel)) rfl
theorem gw_471 : (Cond.instanceMethod ⟨"MonitorQueues", "unit", "(IZ)I"⟩) ∈ GT := gt_t (gt_2 196 (by decide +kernel)) rfl
theorem gw_472 : (Cond.selects "MonitorQueues" ⟨"MonitorQueues", "unit", "(IZ)I"⟩ ⟨"MonitorQueues", "unit", "(IZ)I"⟩) ∈ GT := gt_t (gt_2 197 (by decide +kernel)) rfl
theorem gw_473 : (Cond.code ⟨"MonitorQueues", "unit", "(IZ)I"⟩ prog_1_method_13_code 6 (Option.some FieldType.int)) ∈ GT := gt_t (gt_2 198 (by decide +kernel)) rfl
theorem gw_474 : (Cond.methodLink "MonitorQueues" 175 ⟨"MonitorQueues$Queue", "endPending", "(Z)I"⟩) ∈ GT := gt_t (gt_2 199 (by decide +kernel)) rfl
theorem gw_475 : (Cond.instanceMethod ⟨"MonitorQueues$Queue", "endPending", "(Z)I"⟩) ∈ GT := gt_t (gt_2 200 (by decide +kernel)) rfl
theorem gw_476 : (Cond.selects "MonitorQueues$Queue" ⟨"MonitorQueues$Queue", "endPending", "(Z)I"⟩ ⟨"MonitorQueues$Queue", "endPending", "(Z)I"⟩) ∈ GT := gt_t (gt_2 201 (by decide +kernel)) rfl
theorem gw_477 : (Cond.code ⟨"MonitorQueues$Queue", "endPending", "(Z)I"⟩ prog_4_method_13_code 3 (Option.some FieldType.int)) ∈ GT := gt_t (gt_2 202 (by decide +kernel)) rfl
theorem gw_478 : (Cond.methodLink "MonitorQueues$Queue" 95 ⟨"MonitorQueues$Queue", "dropLast", "(I)V"⟩) ∈ GT := gt_t (gt_2 203 (by decide +kernel)) rfl
theorem gw_479 : (Cond.instanceMethod ⟨"MonitorQueues$Queue", "dropLast", "(I)V"⟩) ∈ GT := gt_t (gt_2 204 (by decide +kernel)) rfl
theorem gw_480 : (Cond.selects "MonitorQueues$Queue" ⟨"MonitorQueues$Queue", "dropLast", "(I)V"⟩ ⟨"MonitorQueues$Queue", "dropLast", "(I)V"⟩) ∈ GT := gt_t (gt_2 205 (by decide +kernel)) rfl
theorem gw_481 : (Cond.code ⟨"MonitorQueues$Queue", "dropLast", "(I)V"⟩ prog_4_method_14_code 3 none) ∈ GT := gt_t (gt_2 206 (by decide +kernel)) rfl
theorem gw_482 : (Cond.methodLink "MonitorQueuesLaw" 89 ⟨"MonitorQueues", "age", "(J)I"⟩) ∈ GT := gt_t (gt_2 207 (by decide +kernel)) rfl
theorem gw_483 : (Cond.instanceMethod ⟨"MonitorQueues", "age", "(J)I"⟩) ∈ GT := gt_t (gt_2 208 (by decide +kernel)) rfl
theorem gw_484 : (Cond.selects "MonitorQueues" ⟨"MonitorQueues", "age", "(J)I"⟩ ⟨"MonitorQueues", "age", "(J)I"⟩) ∈ GT := gt_t (gt_2 209 (by decide +kernel)) rfl
theorem gw_485 : (Cond.code ⟨"MonitorQueues", "age", "(J)I"⟩ prog_1_method_14_code 6 (Option.some FieldType.int)) ∈ GT := gt_t (gt_2 210 (by decide +kernel)) rfl
theorem gw_486 : (Cond.methodLink "MonitorQueues" 182 ⟨"MonitorQueues$Queue", "becomeEmpty", "()V"⟩) ∈ GT := gt_t (gt_2 211 (by decide +kernel)) rfl
theorem gw_487 : (Cond.methodLink "MonitorQueuesLaw" 93 ⟨"MonitorQueues", "count", "(I)I"⟩) ∈ GT := gt_t (gt_2 212 (by decide +kernel)) rfl
theorem gw_488 : (Cond.instanceMethod ⟨"MonitorQueues", "count", "(I)I"⟩) ∈ GT := gt_t (gt_2 213 (by decide +kernel)) rfl
theorem gw_489 : (Cond.selects "MonitorQueues" ⟨"MonitorQueues", "count", "(I)I"⟩ ⟨"MonitorQueues", "count", "(I)I"⟩) ∈ GT := gt_t (gt_2 214 (by decide +kernel)) rfl
theorem gw_490 : (Cond.code ⟨"MonitorQueues", "count", "(I)I"⟩ prog_1_method_15_code 2 (Option.some FieldType.int)) ∈ GT := gt_t (gt_2 215 (by decide +kernel)) rfl
theorem gw_491 : (Cond.methodLink "MonitorQueuesLaw" 15 ⟨"MonitorQueuesLaw", "cell", "([II)I"⟩) ∈ GT := gt_t (gt_2 216 (by decide +kernel)) rfl
theorem gw_492 : (Cond.static ⟨"MonitorQueuesLaw", "cell", "([II)I"⟩) ∈ GT := gt_t (gt_2 217 (by decide +kernel)) rfl
theorem gw_493 : (Cond.code ⟨"MonitorQueuesLaw", "cell", "([II)I"⟩ method_2_code 2 (Option.some FieldType.int)) ∈ GT := gt_t (gt_2 218 (by decide +kernel)) rfl
theorem gw_497 : (Cond.classLink "MonitorQueuesLaw" 13 "java/util/NoSuchElementException") ∈ GT := gt_t (gt_2 222 (by decide +kernel)) rfl
theorem gw_498 : (Cond.methodLink "MonitorQueuesLaw" 7 ⟨"MonitorQueues", "get", "(II)J"⟩) ∈ GT := gt_t (gt_2 223 (by decide +kernel)) rfl
theorem gw_499 : (Cond.instanceMethod ⟨"MonitorQueues", "get", "(II)J"⟩) ∈ GT := gt_t (gt_2 224 (by decide +kernel)) rfl
theorem gw_500 : (Cond.selects "MonitorQueues" ⟨"MonitorQueues", "get", "(II)J"⟩ ⟨"MonitorQueues", "get", "(II)J"⟩) ∈ GT := gt_t (gt_2 225 (by decide +kernel)) rfl
theorem gw_501 : (Cond.code ⟨"MonitorQueues", "get", "(II)J"⟩ prog_1_method_3_code 4 (Option.some FieldType.long)) ∈ GT := gt_t (gt_2 226 (by decide +kernel)) rfl
theorem gw_502 : (Cond.classLink "MonitorQueues" 72 "java/util/NoSuchElementException") ∈ GT := gt_t (gt_2 227 (by decide +kernel)) rfl
theorem gw_503 : (Cond.instantiable "java/util/NoSuchElementException" 6) ∈ GT := gt_t (gt_2 228 (by decide +kernel)) rfl
theorem gw_504 : (Cond.castable "java/util/NoSuchElementException" "java/util/NoSuchElementException") ∈ tables_1 := gt_2 229 (by decide +kernel)
theorem gw_505 : (Cond.declares ⟨"java/lang/RuntimeException", "<init>", "()V"⟩) ∈ tables_1 := gt_2 230 (by decide +kernel)
theorem gw_506 : (Cond.declares ⟨"java/lang/RuntimeException", "<init>", "(Ljava/lang/String;)V"⟩) ∈ tables_1 := gt_2 231 (by decide +kernel)
theorem gw_507 : (Cond.declares ⟨"java/lang/Exception", "<init>", "()V"⟩) ∈ tables_1 := gt_2 232 (by decide +kernel)
theorem gw_508 : (Cond.declares ⟨"java/lang/Exception", "<init>", "(Ljava/lang/String;)V"⟩) ∈ tables_1 := gt_2 233 (by decide +kernel)
theorem gw_509 : (Cond.declares ⟨"java/lang/Throwable", "<init>", "()V"⟩) ∈ tables_1 := gt_2 234 (by decide +kernel)
theorem gw_510 : (Cond.declares ⟨"java/lang/Throwable", "<init>", "(Ljava/lang/String;)V"⟩) ∈ tables_1 := gt_2 235 (by decide +kernel)
theorem gw_527 : (Cond.methodLink "java/lang/Throwable" 1 ⟨"java/lang/Object", "<init>", "()V"⟩) ∈ GT := gt_t (gt_3 12 (by decide +kernel)) rfl
theorem gw_534 : (Cond.sameMethod "java/lang/Throwable" "java/lang/Throwable" "fillInStackTrace" "()Ljava/lang/Throwable;") ∈ GT := gt_t (gt_3 19 (by decide +kernel)) rfl
theorem gw_539 : (Cond.instantiable "java/lang/Throwable" 6) ∈ GT := gt_t (gt_3 24 (by decide +kernel)) rfl
theorem gw_540 : (Cond.native ⟨"java/lang/Throwable", "fillInStackTrace", "(I)Ljava/lang/Throwable;"⟩) ∈ GT := gt_t (gt_3 25 (by decide +kernel)) rfl
theorem gw_541 : (Cond.stringRef "MonitorQueues" 74 "no such queue") ∈ tables_1 := gt_3 26 (by decide +kernel)
theorem gw_542 : (Cond.methodLink "MonitorQueues" 76 ⟨"java/util/NoSuchElementException", "<init>", "(Ljava/lang/String;)V"⟩) ∈ GT := gt_t (gt_3 27 (by decide +kernel)) rfl
theorem gw_543 : (Cond.instanceMethod ⟨"java/util/NoSuchElementException", "<init>", "(Ljava/lang/String;)V"⟩) ∈ GT := gt_t (gt_3 28 (by decide +kernel)) rfl
theorem gw_544 : (Cond.code ⟨"java/util/NoSuchElementException", "<init>", "(Ljava/lang/String;)V"⟩ prog_24_method_4_code 2 none) ∈ GT := gt_t (gt_3 29 (by decide +kernel)) rfl
theorem gw_545 : (Cond.methodLink "java/util/NoSuchElementException" 13 ⟨"java/lang/RuntimeException", "<init>", "(Ljava/lang/String;)V"⟩) ∈ GT := gt_t (gt_3 30 (by decide +kernel)) rfl
theorem gw_546 : (Cond.instanceMethod ⟨"java/lang/RuntimeException", "<init>", "(Ljava/lang/String;)V"⟩) ∈ GT := gt_t (gt_3 31 (by decide +kernel)) rfl
theorem gw_547 : (Cond.code ⟨"java/lang/RuntimeException", "<init>", "(Ljava/lang/String;)V"⟩ prog_14_method_2_code 2 none) ∈ GT := gt_t (gt_3 32 (by decide +kernel)) rfl
theorem gw_548 : (Cond.methodLink "java/lang/RuntimeException" 7 ⟨"java/lang/Exception", "<init>", "(Ljava/lang/String;)V"⟩) ∈ GT := gt_t (gt_3 33 (by decide +kernel)) rfl
theorem gw_549 : (Cond.instanceMethod ⟨"java/lang/Exception", "<init>", "(Ljava/lang/String;)V"⟩) ∈ GT := gt_t (gt_3 34 (by decide +kernel)) rfl
theorem gw_550 : (Cond.code ⟨"java/lang/Exception", "<init>", "(Ljava/lang/String;)V"⟩ prog_11_method_2_code 2 none) ∈ GT := gt_t (gt_3 35 (by decide +kernel)) rfl
theorem gw_551 : (Cond.methodLink "java/lang/Exception" 7 ⟨"java/lang/Throwable", "<init>", "(Ljava/lang/String;)V"⟩) ∈ GT := gt_t (gt_3 36 (by decide +kernel)) rfl
theorem gw_552 : (Cond.instanceMethod ⟨"java/lang/Throwable", "<init>", "(Ljava/lang/String;)V"⟩) ∈ GT := gt_t (gt_3 37 (by decide +kernel)) rfl
theorem gw_553 : (Cond.code ⟨"java/lang/Throwable", "<init>", "(Ljava/lang/String;)V"⟩ prog_17_method_2_code 2 none) ∈ GT := gt_t (gt_3 38 (by decide +kernel)) rfl
theorem gw_567 : (Cond.arrayClass FieldType.byte) ∈ GT := gt_t (gt_3 52 (by decide +kernel)) rfl
theorem gw_568 : (Cond.stringRef "MonitorQueues" 85 "no such item") ∈ tables_1 := gt_3 53 (by decide +kernel)
theorem gw_569 : (Cond.stringRef "MonitorQueues" 102 "not the item taken latest") ∈ tables_1 := gt_3 54 (by decide +kernel)
theorem gw_570 : (Cond.classLink "MonitorQueuesLaw" 24 "MonitorQueuesModel") ∈ GT := gt_t (gt_3 55 (by decide +kernel)) rfl
theorem gw_571 : (Cond.instantiable "MonitorQueuesModel" 28) ∈ GT := gt_t (gt_3 56 (by decide +kernel)) rfl
theorem gw_572 : (Cond.methodLink "MonitorQueuesLaw" 26 ⟨"MonitorQueuesModel", "<init>", "(I)V"⟩) ∈ GT := gt_t (gt_3 57 (by decide +kernel)) rfl
theorem gw_573 : (Cond.instanceMethod ⟨"MonitorQueuesModel", "<init>", "(I)V"⟩) ∈ GT := gt_t (gt_3 58 (by decide +kernel)) rfl
theorem gw_574 : (Cond.code ⟨"MonitorQueuesModel", "<init>", "(I)V"⟩ prog_8_method_1_code 3 none) ∈ GT := gt_t (gt_3 59 (by decide +kernel)) rfl
theorem gw_575 : (Cond.methodLink "MonitorQueuesModel" 1 ⟨"java/lang/Object", "<init>", "()V"⟩) ∈ GT := gt_t (gt_3 60 (by decide +kernel)) rfl
theorem gw_576 : (Cond.fieldLink "MonitorQueuesModel" 76 "MonitorQueuesModel" "code" "I") ∈ GT := gt_t (gt_3 61 (by decide +kernel)) rfl
theorem gw_577 : (Cond.fieldLink "MonitorQueuesModel" 72 "MonitorQueuesModel" "room" "I") ∈ GT := gt_t (gt_3 62 (by decide +kernel)) rfl
theorem gw_578 : (Cond.fieldLink "MonitorQueuesModel" 7 "MonitorQueuesModel" "queueOf" "[I") ∈ GT := gt_t (gt_3 63 (by decide +kernel)) rfl
theorem gw_579 : (Cond.fieldLink "MonitorQueuesModel" 13 "MonitorQueuesModel" "numberOf" "[I") ∈ GT := gt_t (gt_3 64 (by decide +kernel)) rfl
theorem gw_580 : (Cond.fieldLink "MonitorQueuesModel" 16 "MonitorQueuesModel" "unitOf" "[I") ∈ GT := gt_t (gt_3 65 (by decide +kernel)) rfl
theorem gw_581 : (Cond.fieldLink "MonitorQueuesModel" 19 "MonitorQueuesModel" "valueOf" "[J") ∈ GT := gt_t (gt_3 66 (by decide +kernel)) rfl
theorem gw_582 : (Cond.fieldLink "MonitorQueuesModel" 79 "MonitorQueuesModel" "items" "I") ∈ GT := gt_t (gt_3 67 (by decide +kernel)) rfl
theorem gw_583 : (Cond.fieldLink "MonitorQueuesModel" 23 "MonitorQueuesModel" "kind" "[I") ∈ GT := gt_t (gt_3 68 (by decide +kernel)) rfl
theorem gw_584 : (Cond.fieldLink "MonitorQueuesModel" 26 "MonitorQueuesModel" "last" "[I") ∈ GT := gt_t (gt_3 69 (by decide +kernel)) rfl
theorem gw_585 : (Cond.fieldLink "MonitorQueuesModel" 29 "MonitorQueuesModel" "least" "[I") ∈ GT := gt_t (gt_3 70 (by decide +kernel)) rfl
theorem gw_586 : (Cond.fieldLink "MonitorQueuesModel" 32 "MonitorQueuesModel" "codes" "[I") ∈ GT := gt_t (gt_3 71 (by decide +kernel)) rfl
theorem gw_587 : (Cond.fieldLink "MonitorQueuesModel" 35 "MonitorQueuesModel" "going" "[I") ∈ GT := gt_t (gt_3 72 (by decide +kernel)) rfl
theorem gw_588 : (Cond.fieldLink "MonitorQueuesModel" 38 "MonitorQueuesModel" "takenNumber" "[I") ∈ GT := gt_t (gt_3 73 (by decide +kernel)) rfl
theorem gw_589 : (Cond.fieldLink "MonitorQueuesModel" 41 "MonitorQueuesModel" "ready" "[Z") ∈ GT := gt_t (gt_3 74 (by decide +kernel)) rfl
theorem gw_590 : (Cond.fieldLink "MonitorQueuesModel" 45 "MonitorQueuesModel" "took" "[Z") ∈ GT := gt_t (gt_3 75 (by decide +kernel)) rfl
theorem gw_591 : (Cond.fieldLink "MonitorQueuesModel" 48 "MonitorQueuesModel" "used" "[J") ∈ GT := gt_t (gt_3 76 (by decide +kernel)) rfl
theorem gw_592 : (Cond.fieldLink "MonitorQueuesModel" 51 "MonitorQueuesModel" "taken" "[J") ∈ GT := gt_t (gt_3 77 (by decide +kernel)) rfl
theorem gw_593 : (Cond.fieldLink "MonitorQueuesModel" 54 "MonitorQueuesModel" "places" "[I") ∈ GT := gt_t (gt_3 78 (by decide +kernel)) rfl
theorem gw_594 : (Cond.fieldLink "MonitorQueuesModel" 57 "MonitorQueuesModel" "tasks" "[I") ∈ GT := gt_t (gt_3 79 (by decide +kernel)) rfl
theorem gw_595 : (Cond.fieldLink "MonitorQueuesModel" 60 "MonitorQueuesModel" "goes" "[Z") ∈ GT := gt_t (gt_3 80 (by decide +kernel)) rfl
theorem gw_596 : (Cond.fieldLink "MonitorQueuesModel" 90 "MonitorQueuesModel" "begun" "I") ∈ GT := gt_t (gt_3 81 (by decide +kernel)) rfl
theorem gw_597 : (Cond.fieldLink "MonitorQueuesModel" 93 "MonitorQueuesModel" "running" "I") ∈ GT := gt_t (gt_3 82 (by decide +kernel)) rfl
theorem gw_598 : (Cond.fieldLink "MonitorQueuesModel" 112 "MonitorQueuesModel" "now" "J") ∈ GT := gt_t (gt_3 83 (by decide +kernel)) rfl
theorem gw_599 : (Cond.fieldLink "MonitorQueuesModel" 63 "MonitorQueuesModel" "delayNumber" "[I") ∈ GT := gt_t (gt_3 84 (by decide +kernel)) rfl
theorem gw_600 : (Cond.fieldLink "MonitorQueuesModel" 66 "MonitorQueuesModel" "delayCode" "[I") ∈ GT := gt_t (gt_3 85 (by decide +kernel)) rfl
theorem gw_601 : (Cond.fieldLink "MonitorQueuesModel" 69 "MonitorQueuesModel" "delayTime" "[J") ∈ GT := gt_t (gt_3 86 (by decide +kernel)) rfl
theorem gw_602 : (Cond.fieldLink "MonitorQueuesModel" 153 "MonitorQueuesModel" "delays" "I") ∈ GT := gt_t (gt_3 87 (by decide +kernel)) rfl
theorem gw_603 : (Cond.fieldLink "MonitorQueuesModel" 156 "MonitorQueuesModel" "delayed" "I") ∈ GT := gt_t (gt_3 88 (by decide +kernel)) rfl
theorem gw_604 : (Cond.lays "MonitorQueuesModel" "MonitorQueuesModel" "code" "I") ∈ GT := gt_t (gt_3 89 (by decide +kernel)) rfl
theorem gw_606 : (Cond.laysFinal "MonitorQueuesModel" "MonitorQueuesModel" "room" "I") ∈ GT := gt_t (gt_3 91 (by decide +kernel)) rfl
theorem gw_608 : (Cond.laysFinal "MonitorQueuesModel" "MonitorQueuesModel" "queueOf" "[I") ∈ GT := gt_t (gt_3 93 (by decide +kernel)) rfl
theorem gw_610 : (Cond.laysFinal "MonitorQueuesModel" "MonitorQueuesModel" "numberOf" "[I") ∈ GT := gt_t (gt_3 95 (by decide +kernel)) rfl
theorem gw_612 : (Cond.laysFinal "MonitorQueuesModel" "MonitorQueuesModel" "unitOf" "[I") ∈ GT := gt_t (gt_3 97 (by decide +kernel)) rfl
theorem gw_614 : (Cond.laysFinal "MonitorQueuesModel" "MonitorQueuesModel" "valueOf" "[J") ∈ GT := gt_t (gt_3 99 (by decide +kernel)) rfl
theorem gw_616 : (Cond.lays "MonitorQueuesModel" "MonitorQueuesModel" "items" "I") ∈ GT := gt_t (gt_3 101 (by decide +kernel)) rfl
theorem gw_618 : (Cond.laysFinal "MonitorQueuesModel" "MonitorQueuesModel" "kind" "[I") ∈ GT := gt_t (gt_3 103 (by decide +kernel)) rfl
theorem gw_620 : (Cond.laysFinal "MonitorQueuesModel" "MonitorQueuesModel" "last" "[I") ∈ GT := gt_t (gt_3 105 (by decide +kernel)) rfl
theorem gw_622 : (Cond.laysFinal "MonitorQueuesModel" "MonitorQueuesModel" "least" "[I") ∈ GT := gt_t (gt_3 107 (by decide +kernel)) rfl
theorem gw_624 : (Cond.laysFinal "MonitorQueuesModel" "MonitorQueuesModel" "codes" "[I") ∈ GT := gt_t (gt_3 109 (by decide +kernel)) rfl
theorem gw_626 : (Cond.laysFinal "MonitorQueuesModel" "MonitorQueuesModel" "going" "[I") ∈ GT := gt_t (gt_3 111 (by decide +kernel)) rfl
theorem gw_628 : (Cond.laysFinal "MonitorQueuesModel" "MonitorQueuesModel" "takenNumber" "[I") ∈ GT := gt_t (gt_3 113 (by decide +kernel)) rfl
theorem gw_630 : (Cond.laysFinal "MonitorQueuesModel" "MonitorQueuesModel" "ready" "[Z") ∈ GT := gt_t (gt_3 115 (by decide +kernel)) rfl
theorem gw_632 : (Cond.laysFinal "MonitorQueuesModel" "MonitorQueuesModel" "took" "[Z") ∈ GT := gt_t (gt_3 117 (by decide +kernel)) rfl
theorem gw_634 : (Cond.laysFinal "MonitorQueuesModel" "MonitorQueuesModel" "used" "[J") ∈ GT := gt_t (gt_3 119 (by decide +kernel)) rfl
theorem gw_636 : (Cond.laysFinal "MonitorQueuesModel" "MonitorQueuesModel" "taken" "[J") ∈ GT := gt_t (gt_3 121 (by decide +kernel)) rfl
theorem gw_638 : (Cond.laysFinal "MonitorQueuesModel" "MonitorQueuesModel" "places" "[I") ∈ GT := gt_t (gt_3 123 (by decide +kernel)) rfl
theorem gw_640 : (Cond.laysFinal "MonitorQueuesModel" "MonitorQueuesModel" "tasks" "[I") ∈ GT := gt_t (gt_3 125 (by decide +kernel)) rfl
theorem gw_642 : (Cond.laysFinal "MonitorQueuesModel" "MonitorQueuesModel" "goes" "[Z") ∈ GT := gt_t (gt_3 127 (by decide +kernel)) rfl
theorem gw_644 : (Cond.lays "MonitorQueuesModel" "MonitorQueuesModel" "begun" "I") ∈ GT := gt_t (gt_3 129 (by decide +kernel)) rfl
theorem gw_646 : (Cond.lays "MonitorQueuesModel" "MonitorQueuesModel" "running" "I") ∈ GT := gt_t (gt_3 131 (by decide +kernel)) rfl
theorem gw_648 : (Cond.lays "MonitorQueuesModel" "MonitorQueuesModel" "now" "J") ∈ GT := gt_t (gt_3 133 (by decide +kernel)) rfl
theorem gw_650 : (Cond.laysFinal "MonitorQueuesModel" "MonitorQueuesModel" "delayNumber" "[I") ∈ GT := gt_t (gt_3 135 (by decide +kernel)) rfl
theorem gw_652 : (Cond.laysFinal "MonitorQueuesModel" "MonitorQueuesModel" "delayCode" "[I") ∈ GT := gt_t (gt_3 137 (by decide +kernel)) rfl
theorem gw_654 : (Cond.laysFinal "MonitorQueuesModel" "MonitorQueuesModel" "delayTime" "[J") ∈ GT := gt_t (gt_3 139 (by decide +kernel)) rfl
theorem gw_656 : (Cond.lays "MonitorQueuesModel" "MonitorQueuesModel" "delays" "I") ∈ GT := gt_t (gt_3 141 (by decide +kernel)) rfl
theorem gw_658 : (Cond.lays "MonitorQueuesModel" "MonitorQueuesModel" "delayed" "I") ∈ GT := gt_t (gt_3 143 (by decide +kernel)) rfl
theorem gw_661 : (Cond.arrayClass FieldType.long) ∈ GT := gt_t (gt_3 146 (by decide +kernel)) rfl
theorem gw_662 : (Cond.arrayClass FieldType.boolean) ∈ GT := gt_t (gt_3 147 (by decide +kernel)) rfl
theorem gw_663 : (Cond.methodLink "MonitorQueuesLaw" 38 ⟨"MonitorQueuesModel", "thrown", "()I"⟩) ∈ GT := gt_t (gt_3 148 (by decide +kernel)) rfl
theorem gw_664 : (Cond.instanceMethod ⟨"MonitorQueuesModel", "thrown", "()I"⟩) ∈ GT := gt_t (gt_3 149 (by decide +kernel)) rfl
theorem gw_665 : (Cond.selects "MonitorQueuesModel" ⟨"MonitorQueuesModel", "thrown", "()I"⟩ ⟨"MonitorQueuesModel", "thrown", "()I"⟩) ∈ GT := gt_t (gt_3 150 (by decide +kernel)) rfl
theorem gw_666 : (Cond.code ⟨"MonitorQueuesModel", "thrown", "()I"⟩ prog_8_method_2_code 1 (Option.some FieldType.int)) ∈ GT := gt_t (gt_3 151 (by decide +kernel)) rfl
theorem gw_667 : (Cond.methodLink "MonitorQueuesLaw" 33 ⟨"MonitorQueuesModel", "put", "(IIJI)I"⟩) ∈ GT := gt_t (gt_3 152 (by decide +kernel)) rfl
theorem gw_668 : (Cond.instanceMethod ⟨"MonitorQueuesModel", "put", "(IIJI)I"⟩) ∈ GT := gt_t (gt_3 153 (by decide +kernel)) rfl
theorem gw_669 : (Cond.selects "MonitorQueuesModel" ⟨"MonitorQueuesModel", "put", "(IIJI)I"⟩ ⟨"MonitorQueuesModel", "put", "(IIJI)I"⟩) ∈ GT := gt_t (gt_3 154 (by decide +kernel)) rfl
theorem gw_670 : (Cond.code ⟨"MonitorQueuesModel", "put", "(IIJI)I"⟩ prog_8_method_16_code 6 (Option.some FieldType.int)) ∈ GT := gt_t (gt_3 155 (by decide +kernel)) rfl
theorem gw_671 : (Cond.methodLink "MonitorQueuesModel" 116 ⟨"MonitorQueuesModel", "putting", "(IIJI)I"⟩) ∈ GT := gt_t (gt_3 156 (by decide +kernel)) rfl
theorem gw_673 : (Cond.instanceMethod ⟨"MonitorQueuesModel", "putting", "(IIJI)I"⟩) ∈ GT := gt_t (gt_3 158 (by decide +kernel)) rfl
theorem gw_674 : (Cond.code ⟨"MonitorQueuesModel", "putting", "(IIJI)I"⟩ prog_8_method_15_code 7 (Option.some FieldType.int)) ∈ GT := gt_t (gt_3 159 (by decide +kernel)) rfl
theorem gw_675 : (Cond.methodLink "MonitorQueuesModel" 105 ⟨"MonitorQueuesModel", "isQueue", "(I)Z"⟩) ∈ GT := gt_t (gt_3 160 (by decide +kernel)) rfl
theorem gw_676 : (Cond.static ⟨"MonitorQueuesModel", "isQueue", "(I)Z"⟩) ∈ GT := gt_t (gt_3 161 (by decide +kernel)) rfl
theorem gw_677 : (Cond.code ⟨"MonitorQueuesModel", "isQueue", "(I)Z"⟩ prog_8_method_3_code 1 (Option.some FieldType.boolean)) ∈ GT := gt_t (gt_3 162 (by decide +kernel)) rfl
theorem gw_678 : (Cond.methodLink "MonitorQueuesModel" 109 ⟨"MonitorQueuesModel", "lockOf", "(I)I"⟩) ∈ GT := gt_t (gt_3 163 (by decide +kernel)) rfl
theorem gw_680 : (Cond.instanceMethod ⟨"MonitorQueuesModel", "lockOf", "(I)I"⟩) ∈ GT := gt_t (gt_3 165 (by decide +kernel)) rfl
theorem gw_681 : (Cond.code ⟨"MonitorQueuesModel", "lockOf", "(I)I"⟩ prog_8_method_7_code 4 (Option.some FieldType.int)) ∈ GT := gt_t (gt_3 166 (by decide +kernel)) rfl
theorem gw_682 : (Cond.methodLink "MonitorQueuesModel" 82 ⟨"MonitorQueuesModel", "many", "(I)I"⟩) ∈ GT := gt_t (gt_3 167 (by decide +kernel)) rfl
theorem gw_684 : (Cond.instanceMethod ⟨"MonitorQueuesModel", "many", "(I)I"⟩) ∈ GT := gt_t (gt_3 169 (by decide +kernel)) rfl
theorem gw_685 : (Cond.code ⟨"MonitorQueuesModel", "many", "(I)I"⟩ prog_8_method_4_code 4 (Option.some FieldType.int)) ∈ GT := gt_t (gt_3 170 (by decide +kernel)) rfl
theorem gw_686 : (Cond.methodLink "MonitorQueuesModel" 120 ⟨"MonitorQueuesModel", "answer", "(I)I"⟩) ∈ GT := gt_t (gt_3 171 (by decide +kernel)) rfl
theorem gw_688 : (Cond.instanceMethod ⟨"MonitorQueuesModel", "answer", "(I)I"⟩) ∈ GT := gt_t (gt_3 173 (by decide +kernel)) rfl
theorem gw_689 : (Cond.code ⟨"MonitorQueuesModel", "answer", "(I)I"⟩ prog_8_method_14_code 2 (Option.some FieldType.int)) ∈ GT := gt_t (gt_3 174 (by decide +kernel)) rfl
theorem gw_690 : (Cond.methodLink "MonitorQueuesModel" 102 ⟨"MonitorQueuesModel", "look", "()V"⟩) ∈ GT := gt_t (gt_3 175 (by decide +kernel)) rfl
theorem gw_692 : (Cond.instanceMethod ⟨"MonitorQueuesModel", "look", "()V"⟩) ∈ GT := gt_t (gt_3 177 (by decide +kernel)) rfl
theorem gw_693 : (Cond.code ⟨"MonitorQueuesModel", "look", "()V"⟩ prog_8_method_13_code 3 none) ∈ GT := gt_t (gt_3 178 (by decide +kernel)) rfl
theorem gw_694 : (Cond.methodLink "MonitorQueuesModel" 96 ⟨"MonitorQueuesModel", "standing", "(I)I"⟩) ∈ GT := gt_t (gt_3 179 (by decide +kernel)) rfl
theorem gw_696 : (Cond.instanceMethod ⟨"MonitorQueuesModel", "standing", "(I)I"⟩) ∈ GT := gt_t (gt_3 181 (by decide +kernel)) rfl
theorem gw_697 : (Cond.code ⟨"MonitorQueuesModel", "standing", "(I)I"⟩ prog_8_method_5_code 4 (Option.some FieldType.int)) ∈ GT := gt_t (gt_3 182 (by decide +kernel)) rfl
theorem gw_698 : (Cond.methodLink "MonitorQueuesModel" 99 ⟨"MonitorQueuesModel", "task", "(I)I"⟩) ∈ GT := gt_t (gt_3 183 (by decide +kernel)) rfl
theorem gw_700 : (Cond.instanceMethod ⟨"MonitorQueuesModel", "task", "(I)I"⟩) ∈ GT := gt_t (gt_3 185 (by decide +kernel)) rfl
theorem gw_701 : (Cond.code ⟨"MonitorQueuesModel", "task", "(I)I"⟩ prog_8_method_12_code 2 (Option.some FieldType.int)) ∈ GT := gt_t (gt_3 186 (by decide +kernel)) rfl
theorem gw_702 : (Cond.methodLink "MonitorQueuesLaw" 37 ⟨"MonitorQueuesModel", "get", "(II)J"⟩) ∈ GT := gt_t (gt_3 187 (by decide +kernel)) rfl
theorem gw_703 : (Cond.instanceMethod ⟨"MonitorQueuesModel", "get", "(II)J"⟩) ∈ GT := gt_t (gt_3 188 (by decide +kernel)) rfl
theorem gw_704 : (Cond.selects "MonitorQueuesModel" ⟨"MonitorQueuesModel", "get", "(II)J"⟩ ⟨"MonitorQueuesModel", "get", "(II)J"⟩) ∈ GT := gt_t (gt_3 189 (by decide +kernel)) rfl
theorem gw_705 : (Cond.code ⟨"MonitorQueuesModel", "get", "(II)J"⟩ prog_8_method_17_code 4 (Option.some FieldType.long)) ∈ GT := gt_t (gt_3 190 (by decide +kernel)) rfl
theorem gw_706 : (Cond.methodLink "MonitorQueuesModel" 123 ⟨"MonitorQueuesModel", "isTemporary", "(I)Z"⟩) ∈ GT := gt_t (gt_3 191 (by decide +kernel)) rfl
theorem gw_708 : (Cond.instanceMethod ⟨"MonitorQueuesModel", "isTemporary", "(I)Z"⟩) ∈ GT := gt_t (gt_3 193 (by decide +kernel)) rfl
theorem gw_709 : (Cond.code ⟨"MonitorQueuesModel", "isTemporary", "(I)Z"⟩ prog_8_method_10_code 2 (Option.some FieldType.boolean)) ∈ GT := gt_t (gt_3 194 (by decide +kernel)) rfl
theorem gw_710 : (Cond.methodLink "MonitorQueuesModel" 126 ⟨"MonitorQueuesModel", "placeOf", "(II)I"⟩) ∈ GT := gt_t (gt_3 195 (by decide +kernel)) rfl
theorem gw_712 : (Cond.instanceMethod ⟨"MonitorQueuesModel", "placeOf", "(II)I"⟩) ∈ GT := gt_t (gt_3 197 (by decide +kernel)) rfl
theorem gw_713 : (Cond.code ⟨"MonitorQueuesModel", "placeOf", "(II)I"⟩ prog_8_method_6_code 5 (Option.some FieldType.int)) ∈ GT := gt_t (gt_3 198 (by decide +kernel)) rfl
theorem gw_714 : (Cond.methodLink "MonitorQueuesLaw" 46 ⟨"MonitorQueuesModel", "next", "(II)I"⟩) ∈ GT := gt_t (gt_3 199 (by decide +kernel)) rfl
theorem gw_715 : (Cond.instanceMethod ⟨"MonitorQueuesModel", "next", "(II)I"⟩) ∈ GT := gt_t (gt_3 200 (by decide +kernel)) rfl
theorem gw_716 : (Cond.selects "MonitorQueuesModel" ⟨"MonitorQueuesModel", "next", "(II)I"⟩ ⟨"MonitorQueuesModel", "next", "(II)I"⟩) ∈ GT := gt_t (gt_3 201 (by decide +kernel)) rfl
theorem gw_717 : (Cond.code ⟨"MonitorQueuesModel", "next", "(II)I"⟩ prog_8_method_19_code 3 (Option.some FieldType.int)) ∈ GT := gt_t (gt_3 202 (by decide +kernel)) rfl
theorem gw_718 : (Cond.methodLink "MonitorQueuesModel" 133 ⟨"MonitorQueuesModel", "nexting", "(II)I"⟩) ∈ GT := gt_t (gt_3 203 (by decide +kernel)) rfl
theorem gw_720 : (Cond.instanceMethod ⟨"MonitorQueuesModel", "nexting", "(II)I"⟩) ∈ GT := gt_t (gt_3 205 (by decide +kernel)) rfl
theorem gw_721 : (Cond.code ⟨"MonitorQueuesModel", "nexting", "(II)I"⟩ prog_8_method_18_code 4 (Option.some FieldType.int)) ∈ GT := gt_t (gt_3 206 (by decide +kernel)) rfl
theorem gw_722 : (Cond.methodLink "MonitorQueuesModel" 130 ⟨"MonitorQueuesModel", "isTransient", "(I)Z"⟩) ∈ GT := gt_t (gt_3 207 (by decide +kernel)) rfl
theorem gw_724 : (Cond.instanceMethod ⟨"MonitorQueuesModel", "isTransient", "(I)Z"⟩) ∈ GT := gt_t (gt_3 209 (by decide +kernel)) rfl
theorem gw_725 : (Cond.code ⟨"MonitorQueuesModel", "isTransient", "(I)Z"⟩ prog_8_method_11_code 2 (Option.some FieldType.boolean)) ∈ GT := gt_t (gt_3 210 (by decide +kernel)) rfl
theorem gw_726 : (Cond.methodLink "MonitorQueuesLaw" 51 ⟨"MonitorQueuesModel", "take", "(I)I"⟩) ∈ GT := gt_t (gt_3 211 (by decide +kernel)) rfl
theorem gw_727 : (Cond.instanceMethod ⟨"MonitorQueuesModel", "take", "(I)I"⟩) ∈ GT := gt_t (gt_3 212 (by decide +kernel)) rfl
theorem gw_728 : (Cond.selects "MonitorQueuesModel" ⟨"MonitorQueuesModel", "take", "(I)I"⟩ ⟨"MonitorQueuesModel", "take", "(I)I"⟩) ∈ GT := gt_t (gt_3 213 (by decide +kernel)) rfl
theorem gw_729 : (Cond.code ⟨"MonitorQueuesModel", "take", "(I)I"⟩ prog_8_method_21_code 2 (Option.some FieldType.int)) ∈ GT := gt_t (gt_3 214 (by decide +kernel)) rfl
theorem gw_730 : (Cond.methodLink "MonitorQueuesModel" 139 ⟨"MonitorQueuesModel", "taking", "(I)I"⟩) ∈ GT := gt_t (gt_3 215 (by decide +kernel)) rfl
theorem gw_732 : (Cond.instanceMethod ⟨"MonitorQueuesModel", "taking", "(I)I"⟩) ∈ GT := gt_t (gt_3 217 (by decide +kernel)) rfl
theorem gw_733 : (Cond.code ⟨"MonitorQueuesModel", "taking", "(I)I"⟩ prog_8_method_20_code 3 (Option.some FieldType.int)) ∈ GT := gt_t (gt_3 218 (by decide +kernel)) rfl
theorem gw_734 : (Cond.methodLink "MonitorQueuesModel" 136 ⟨"MonitorQueuesModel", "remove", "(I)V"⟩) ∈ GT := gt_t (gt_3 219 (by decide +kernel)) rfl
theorem gw_736 : (Cond.instanceMethod ⟨"MonitorQueuesModel", "remove", "(I)V"⟩) ∈ GT := gt_t (gt_3 221 (by decide +kernel)) rfl
theorem gw_737 : (Cond.code ⟨"MonitorQueuesModel", "remove", "(I)V"⟩ prog_8_method_8_code 4 none) ∈ GT := gt_t (gt_3 222 (by decide +kernel)) rfl
theorem gw_738 : (Cond.methodLink "MonitorQueuesModel" 86 ⟨"MonitorQueuesModel", "emptied", "(I)V"⟩) ∈ GT := gt_t (gt_3 223 (by decide +kernel)) rfl
theorem gw_740 : (Cond.instanceMethod ⟨"MonitorQueuesModel", "emptied", "(I)V"⟩) ∈ GT := gt_t (gt_3 225 (by decide +kernel)) rfl
theorem gw_741 : (Cond.code ⟨"MonitorQueuesModel", "emptied", "(I)V"⟩ prog_8_method_9_code 3 none) ∈ GT := gt_t (gt_3 226 (by decide +kernel)) rfl
theorem gw_742 : (Cond.methodLink "MonitorQueuesLaw" 56 ⟨"MonitorQueuesModel", "trigger", "(III)I"⟩) ∈ GT := gt_t (gt_3 227 (by decide +kernel)) rfl
theorem gw_743 : (Cond.instanceMethod ⟨"MonitorQueuesModel", "trigger", "(III)I"⟩) ∈ GT := gt_t (gt_3 228 (by decide +kernel)) rfl
theorem gw_744 : (Cond.selects "MonitorQueuesModel" ⟨"MonitorQueuesModel", "trigger", "(III)I"⟩ ⟨"MonitorQueuesModel", "trigger", "(III)I"⟩) ∈ GT := gt_t (gt_3 229 (by decide +kernel)) rfl
theorem gw_745 : (Cond.code ⟨"MonitorQueuesModel", "trigger", "(III)I"⟩ prog_8_method_23_code 4 (Option.some FieldType.int)) ∈ GT := gt_t (gt_3 230 (by decide +kernel)) rfl
theorem gw_746 : (Cond.methodLink "MonitorQueuesModel" 142 ⟨"MonitorQueuesModel", "triggers", "(III)I"⟩) ∈ GT := gt_t (gt_3 231 (by decide +kernel)) rfl
theorem gw_748 : (Cond.instanceMethod ⟨"MonitorQueuesModel", "triggers", "(III)I"⟩) ∈ GT := gt_t (gt_3 233 (by decide +kernel)) rfl
theorem gw_749 : (Cond.code ⟨"MonitorQueuesModel", "triggers", "(III)I"⟩ prog_8_method_22_code 4 (Option.some FieldType.int)) ∈ GT := gt_t (gt_3 234 (by decide +kernel)) rfl
theorem gw_750 : (Cond.methodLink "MonitorQueuesLaw" 60 ⟨"MonitorQueuesModel", "started", "(I)I"⟩) ∈ GT := gt_t (gt_3 235 (by decide +kernel)) rfl
theorem gw_751 : (Cond.instanceMethod ⟨"MonitorQueuesModel", "started", "(I)I"⟩) ∈ GT := gt_t (gt_3 236 (by decide +kernel)) rfl
theorem gw_752 : (Cond.selects "MonitorQueuesModel" ⟨"MonitorQueuesModel", "started", "(I)I"⟩ ⟨"MonitorQueuesModel", "started", "(I)I"⟩) ∈ GT := gt_t (gt_3 237 (by decide +kernel)) rfl
theorem gw_753 : (Cond.code ⟨"MonitorQueuesModel", "started", "(I)I"⟩ prog_8_method_24_code 2 (Option.some FieldType.int)) ∈ GT := gt_t (gt_3 238 (by decide +kernel)) rfl
theorem gw_754 : (Cond.methodLink "MonitorQueuesLaw" 64 ⟨"MonitorQueuesModel", "end", "(I)I"⟩) ∈ GT := gt_t (gt_3 239 (by decide +kernel)) rfl
theorem gw_755 : (Cond.instanceMethod ⟨"MonitorQueuesModel", "end", "(I)I"⟩) ∈ GT := gt_t (gt_4 0 (by decide +kernel)) rfl
theorem gw_756 : (Cond.selects "MonitorQueuesModel" ⟨"MonitorQueuesModel", "end", "(I)I"⟩ ⟨"MonitorQueuesModel", "end", "(I)I"⟩) ∈ GT := gt_t (gt_4 1 (by decide +kernel)) rfl
theorem gw_757 : (Cond.code ⟨"MonitorQueuesModel", "end", "(I)I"⟩ prog_8_method_26_code 2 (Option.some FieldType.int)) ∈ GT := gt_t (gt_4 2 (by decide +kernel)) rfl
theorem gw_758 : (Cond.methodLink "MonitorQueuesModel" 146 ⟨"MonitorQueuesModel", "ending", "(I)I"⟩) ∈ GT := gt_t (gt_4 3 (by decide +kernel)) rfl
theorem gw_760 : (Cond.instanceMethod ⟨"MonitorQueuesModel", "ending", "(I)I"⟩) ∈ GT := gt_t (gt_4 5 (by decide +kernel)) rfl
theorem gw_761 : (Cond.code ⟨"MonitorQueuesModel", "ending", "(I)I"⟩ prog_8_method_25_code 4 (Option.some FieldType.int)) ∈ GT := gt_t (gt_4 6 (by decide +kernel)) rfl
theorem gw_762 : (Cond.methodLink "MonitorQueuesLaw" 69 ⟨"MonitorQueuesModel", "rewrite", "(IIJ)I"⟩) ∈ GT := gt_t (gt_4 7 (by decide +kernel)) rfl
theorem gw_763 : (Cond.instanceMethod ⟨"MonitorQueuesModel", "rewrite", "(IIJ)I"⟩) ∈ GT := gt_t (gt_4 8 (by decide +kernel)) rfl
theorem gw_764 : (Cond.selects "MonitorQueuesModel" ⟨"MonitorQueuesModel", "rewrite", "(IIJ)I"⟩ ⟨"MonitorQueuesModel", "rewrite", "(IIJ)I"⟩) ∈ GT := gt_t (gt_4 9 (by decide +kernel)) rfl
theorem gw_765 : (Cond.code ⟨"MonitorQueuesModel", "rewrite", "(IIJ)I"⟩ prog_8_method_28_code 5 (Option.some FieldType.int)) ∈ GT := gt_t (gt_4 10 (by decide +kernel)) rfl
theorem gw_766 : (Cond.methodLink "MonitorQueuesModel" 149 ⟨"MonitorQueuesModel", "rewriting", "(IIJ)I"⟩) ∈ GT := gt_t (gt_4 11 (by decide +kernel)) rfl
theorem gw_768 : (Cond.instanceMethod ⟨"MonitorQueuesModel", "rewriting", "(IIJ)I"⟩) ∈ GT := gt_t (gt_4 13 (by decide +kernel)) rfl
theorem gw_769 : (Cond.code ⟨"MonitorQueuesModel", "rewriting", "(IIJ)I"⟩ prog_8_method_27_code 6 (Option.some FieldType.int)) ∈ GT := gt_t (gt_4 14 (by decide +kernel)) rfl
theorem gw_770 : (Cond.methodLink "MonitorQueuesLaw" 74 ⟨"MonitorQueuesModel", "delay", "(IJ)I"⟩) ∈ GT := gt_t (gt_4 15 (by decide +kernel)) rfl
theorem gw_771 : (Cond.instanceMethod ⟨"MonitorQueuesModel", "delay", "(IJ)I"⟩) ∈ GT := gt_t (gt_4 16 (by decide +kernel)) rfl
theorem gw_772 : (Cond.selects "MonitorQueuesModel" ⟨"MonitorQueuesModel", "delay", "(IJ)I"⟩ ⟨"MonitorQueuesModel", "delay", "(IJ)I"⟩) ∈ GT := gt_t (gt_4 17 (by decide +kernel)) rfl
theorem gw_773 : (Cond.code ⟨"MonitorQueuesModel", "delay", "(IJ)I"⟩ prog_8_method_29_code 4 (Option.some FieldType.int)) ∈ GT := gt_t (gt_4 18 (by decide +kernel)) rfl
theorem gw_774 : (Cond.methodLink "MonitorQueuesLaw" 78 ⟨"MonitorQueuesModel", "cancel", "(I)I"⟩) ∈ GT := gt_t (gt_4 19 (by decide +kernel)) rfl
theorem gw_775 : (Cond.instanceMethod ⟨"MonitorQueuesModel", "cancel", "(I)I"⟩) ∈ GT := gt_t (gt_4 20 (by decide +kernel)) rfl
theorem gw_776 : (Cond.selects "MonitorQueuesModel" ⟨"MonitorQueuesModel", "cancel", "(I)I"⟩ ⟨"MonitorQueuesModel", "cancel", "(I)I"⟩) ∈ GT := gt_t (gt_4 21 (by decide +kernel)) rfl
theorem gw_777 : (Cond.code ⟨"MonitorQueuesModel", "cancel", "(I)I"⟩ prog_8_method_31_code 4 (Option.some FieldType.int)) ∈ GT := gt_t (gt_4 22 (by decide +kernel)) rfl
theorem gw_778 : (Cond.methodLink "MonitorQueuesModel" 159 ⟨"MonitorQueuesModel", "drop", "(I)V"⟩) ∈ GT := gt_t (gt_4 23 (by decide +kernel)) rfl
theorem gw_780 : (Cond.instanceMethod ⟨"MonitorQueuesModel", "drop", "(I)V"⟩) ∈ GT := gt_t (gt_4 25 (by decide +kernel)) rfl
theorem gw_781 : (Cond.code ⟨"MonitorQueuesModel", "drop", "(I)V"⟩ prog_8_method_30_code 3 none) ∈ GT := gt_t (gt_4 26 (by decide +kernel)) rfl
theorem gw_782 : (Cond.methodLink "MonitorQueuesLaw" 83 ⟨"MonitorQueuesModel", "tick", "(J)I"⟩) ∈ GT := gt_t (gt_4 27 (by decide +kernel)) rfl
theorem gw_783 : (Cond.instanceMethod ⟨"MonitorQueuesModel", "tick", "(J)I"⟩) ∈ GT := gt_t (gt_4 28 (by decide +kernel)) rfl
theorem gw_784 : (Cond.selects "MonitorQueuesModel" ⟨"MonitorQueuesModel", "tick", "(J)I"⟩ ⟨"MonitorQueuesModel", "tick", "(J)I"⟩) ∈ GT := gt_t (gt_4 29 (by decide +kernel)) rfl
theorem gw_785 : (Cond.code ⟨"MonitorQueuesModel", "tick", "(J)I"⟩ prog_8_method_32_code 7 (Option.some FieldType.int)) ∈ GT := gt_t (gt_4 30 (by decide +kernel)) rfl
theorem gw_786 : (Cond.methodLink "MonitorQueuesLaw" 88 ⟨"MonitorQueuesModel", "unit", "(IZ)I"⟩) ∈ GT := gt_t (gt_4 31 (by decide +kernel)) rfl
theorem gw_787 : (Cond.instanceMethod ⟨"MonitorQueuesModel", "unit", "(IZ)I"⟩) ∈ GT := gt_t (gt_4 32 (by decide +kernel)) rfl
theorem gw_788 : (Cond.selects "MonitorQueuesModel" ⟨"MonitorQueuesModel", "unit", "(IZ)I"⟩ ⟨"MonitorQueuesModel", "unit", "(IZ)I"⟩) ∈ GT := gt_t (gt_4 33 (by decide +kernel)) rfl
theorem gw_789 : (Cond.code ⟨"MonitorQueuesModel", "unit", "(IZ)I"⟩ prog_8_method_34_code 3 (Option.some FieldType.int)) ∈ GT := gt_t (gt_4 34 (by decide +kernel)) rfl
theorem gw_790 : (Cond.methodLink "MonitorQueuesModel" 162 ⟨"MonitorQueuesModel", "unitEnds", "(IZ)I"⟩) ∈ GT := gt_t (gt_4 35 (by decide +kernel)) rfl
theorem gw_792 : (Cond.instanceMethod ⟨"MonitorQueuesModel", "unitEnds", "(IZ)I"⟩) ∈ GT := gt_t (gt_4 37 (by decide +kernel)) rfl
theorem gw_793 : (Cond.code ⟨"MonitorQueuesModel", "unitEnds", "(IZ)I"⟩ prog_8_method_33_code 6 (Option.some FieldType.int)) ∈ GT := gt_t (gt_4 38 (by decide +kernel)) rfl
theorem gw_794 : (Cond.methodLink "MonitorQueuesLaw" 92 ⟨"MonitorQueuesModel", "age", "(J)I"⟩) ∈ GT := gt_t (gt_4 39 (by decide +kernel)) rfl
theorem gw_795 : (Cond.instanceMethod ⟨"MonitorQueuesModel", "age", "(J)I"⟩) ∈ GT := gt_t (gt_4 40 (by decide +kernel)) rfl
theorem gw_796 : (Cond.selects "MonitorQueuesModel" ⟨"MonitorQueuesModel", "age", "(J)I"⟩ ⟨"MonitorQueuesModel", "age", "(J)I"⟩) ∈ GT := gt_t (gt_4 41 (by decide +kernel)) rfl
theorem gw_797 : (Cond.code ⟨"MonitorQueuesModel", "age", "(J)I"⟩ prog_8_method_35_code 5 (Option.some FieldType.int)) ∈ GT := gt_t (gt_4 42 (by decide +kernel)) rfl
theorem gw_798 : (Cond.methodLink "MonitorQueuesLaw" 96 ⟨"MonitorQueuesModel", "count", "(I)I"⟩) ∈ GT := gt_t (gt_4 43 (by decide +kernel)) rfl
theorem gw_799 : (Cond.instanceMethod ⟨"MonitorQueuesModel", "count", "(I)I"⟩) ∈ GT := gt_t (gt_4 44 (by decide +kernel)) rfl
theorem gw_800 : (Cond.selects "MonitorQueuesModel" ⟨"MonitorQueuesModel", "count", "(I)I"⟩ ⟨"MonitorQueuesModel", "count", "(I)I"⟩) ∈ GT := gt_t (gt_4 45 (by decide +kernel)) rfl
theorem gw_801 : (Cond.code ⟨"MonitorQueuesModel", "count", "(I)I"⟩ prog_8_method_36_code 2 (Option.some FieldType.int)) ∈ GT := gt_t (gt_4 46 (by decide +kernel)) rfl
theorem gw_802 : (Cond.constantLong "MonitorQueuesLaw" 27 (4294967295)) ∈ GT := gt_t (gt_4 47 (by decide +kernel)) rfl
theorem gw_803 : (Cond.sameMethod "java/lang/Throwable" "java/lang/Throwable" "fillInStackTrace" "(I)Ljava/lang/Throwable;") ∈ GT := gt_t (gt_4 48 (by decide +kernel)) rfl
theorem gw_804 : (Cond.castable "MonitorQueues$Item" "MonitorQueues$Item") ∈ tables_1 := gt_4 49 (by decide +kernel)
theorem gw_805 : (Cond.castable "MonitorQueues$Task" "MonitorQueues$Task") ∈ tables_1 := gt_4 50 (by decide +kernel)
theorem gw_806 : (Cond.castable "MonitorQueues$Delay" "MonitorQueues$Delay") ∈ tables_1 := gt_4 51 (by decide +kernel)
theorem gw_807 : (Cond.sameMethod "[Ljava/lang/Object;" "java/lang/Object" "getClass" "()Ljava/lang/Class;") ∈ GT := gt_t (gt_4 52 (by decide +kernel)) rfl
theorem gw_808 : (Cond.selects "[Ljava/lang/Object;" ⟨"java/lang/Object", "getClass", "()Ljava/lang/Class;"⟩ ⟨"java/lang/Object", "getClass", "()Ljava/lang/Class;"⟩) ∈ GT := gt_t (gt_4 53 (by decide +kernel)) rfl
theorem gw_809 : (Cond.declares ⟨"java/lang/Object", "getClass", "()Ljava/lang/Class;"⟩) ∈ tables_1 := gt_4 54 (by decide +kernel)
theorem gw_810 : (Cond.castable "MonitorQueues" "java/lang/Object") ∈ tables_1 := gt_4 55 (by decide +kernel)
theorem gw_811 : (Cond.castable "MonitorQueues$Queue" "java/lang/Object") ∈ tables_1 := gt_4 56 (by decide +kernel)
theorem gw_812 : (Cond.castable "MonitorQueuesModel" "java/lang/Object") ∈ tables_1 := gt_4 57 (by decide +kernel)
theorem gw_813 : (Cond.castable "MonitorQueues$Item" "java/lang/Object") ∈ tables_1 := gt_4 58 (by decide +kernel)
theorem gw_814 : (Cond.castable "MonitorQueues$Task" "java/lang/Object") ∈ tables_1 := gt_4 59 (by decide +kernel)
theorem gw_815 : (Cond.castable "MonitorQueues$Trigger" "java/lang/Object") ∈ tables_1 := gt_4 60 (by decide +kernel)
theorem gw_816 : (Cond.castable "MonitorQueues$Delay" "java/lang/Object") ∈ tables_1 := gt_4 61 (by decide +kernel)
theorem gw_817 : (Cond.castable "java/lang/String" "java/lang/Object") ∈ tables_1 := gt_4 62 (by decide +kernel)
end
section
theorem d_AL_init_0 : decode b_AL_init 0 = .ok (.aload_n 0, 1) := by decide +kernel
theorem d_AL_init_1 : decode b_AL_init 1 = .ok (.invokespecial 1, 3) := by decide +kernel
theorem d_AL_init_4 : decode b_AL_init 4 = .ok (.aload_n 0, 1) := by decide +kernel
theorem d_AL_init_5 : decode b_AL_init 5 = .ok (.getstatic 39, 3) := by decide +kernel
theorem d_AL_init_8 : decode b_AL_init 8 = .ok (.putfield 9, 3) := by decide +kernel
theorem d_AL_init_11 : decode b_AL_init 11 = .ok (.return_, 1) := by decide +kernel
theorem d_AB_init_0 : decode b_AB_init 0 = .ok (.aload_n 0, 1) := by decide +kernel
theorem d_AB_init_1 : decode b_AB_init 1 = .ok (.invokespecial 1, 3) := by decide +kernel
theorem d_AB_init_4 : decode b_AB_init 4 = .ok (.aload_n 0, 1) := by decide +kernel
theorem d_AB_init_5 : decode b_AB_init 5 = .ok (.iconst 0, 1) := by decide +kernel
theorem d_AB_init_6 : decode b_AB_init 6 = .ok (.putfield 7, 3) := by decide +kernel
theorem d_AB_init_9 : decode b_AB_init 9 = .ok (.return_, 1) := by decide +kernel
theorem d_AC_init_0 : decode b_AC_init 0 = .ok (.aload_n 0, 1) := by decide +kernel
theorem d_AC_init_1 : decode b_AC_init 1 = .ok (.invokespecial 1, 3) := by decide +kernel
theorem d_AC_init_4 : decode b_AC_init 4 = .ok (.return_, 1) := by decide +kernel
theorem d_AL_size_0 : decode b_AL_size 0 = .ok (.aload_n 0, 1) := by decide +kernel
theorem d_AL_size_1 : decode b_AL_size 1 = .ok (.getfield 48, 3) := by decide +kernel
theorem d_AL_size_4 : decode b_AL_size 4 = .ok (.ireturn, 1) := by decide +kernel
theorem d_AL_add_0 : decode b_AL_add 0 = .ok (.aload_n 0, 1) := by decide +kernel
theorem d_AL_add_1 : decode b_AL_add 1 = .ok (.dup, 1) := by decide +kernel
theorem d_AL_add_2 : decode b_AL_add 2 = .ok (.getfield 63, 3) := by decide +kernel
theorem d_AL_add_5 : decode b_AL_add 5 = .ok (.iconst 1, 1) := by decide +kernel
theorem d_AL_add_6 : decode b_AL_add 6 = .ok (.iadd, 1) := by decide +kernel
theorem d_AL_add_7 : decode b_AL_add 7 = .ok (.putfield 63, 3) := by decide +kernel
theorem d_AL_add_10 : decode b_AL_add 10 = .ok (.aload_n 0, 1) := by decide +kernel
theorem d_AL_add_11 : decode b_AL_add 11 = .ok (.aload_n 1, 1) := by decide +kernel
theorem d_AL_add_12 : decode b_AL_add 12 = .ok (.aload_n 0, 1) := by decide +kernel
theorem d_AL_add_13 : decode b_AL_add 13 = .ok (.getfield 9, 3) := by decide +kernel
theorem d_AL_add_16 : decode b_AL_add 16 = .ok (.aload_n 0, 1) := by decide +kernel
theorem d_AL_add_17 : decode b_AL_add 17 = .ok (.getfield 48, 3) := by decide +kernel
theorem d_AL_add_20 : decode b_AL_add 20 = .ok (.invokevirtual 131, 3) := by decide +kernel
theorem d_AL_add_23 : decode b_AL_add 23 = .ok (.iconst 1, 1) := by decide +kernel
theorem d_AL_add_24 : decode b_AL_add 24 = .ok (.ireturn, 1) := by decide +kernel
theorem d_AL_add2_0 : decode b_AL_add2 0 = .ok (.iload_n 3, 1) := by decide +kernel
theorem d_AL_add2_1 : decode b_AL_add2 1 = .ok (.aload_n 2, 1) := by decide +kernel
theorem d_AL_add2_2 : decode b_AL_add2 2 = .ok (.arraylength, 1) := by decide +kernel
theorem d_AL_add2_3 : decode b_AL_add2 3 = .ok (.if_icmp .ne 8, 3) := by decide +kernel
theorem d_AL_add2_6 : decode b_AL_add2 6 = .ok (.aload_n 0, 1) := by decide +kernel
theorem d_AL_add2_7 : decode b_AL_add2 7 = .ok (.invokevirtual 129, 3) := by decide +kernel
theorem d_AL_add2_10 : decode b_AL_add2 10 = .ok (.astore_n 2, 1) := by decide +kernel
theorem d_AL_add2_11 : decode b_AL_add2 11 = .ok (.aload_n 2, 1) := by decide +kernel
theorem d_AL_add2_12 : decode b_AL_add2 12 = .ok (.iload_n 3, 1) := by decide +kernel
theorem d_AL_add2_13 : decode b_AL_add2 13 = .ok (.aload_n 1, 1) := by decide +kernel
theorem d_AL_add2_14 : decode b_AL_add2 14 = .ok (.aastore, 1) := by decide +kernel
theorem d_AL_add2_15 : decode b_AL_add2 15 = .ok (.aload_n 0, 1) := by decide +kernel
theorem d_AL_add2_16 : decode b_AL_add2 16 = .ok (.iload_n 3, 1) := by decide +kernel
theorem d_AL_add2_17 : decode b_AL_add2 17 = .ok (.iconst 1, 1) := by decide +kernel
theorem d_AL_add2_18 : decode b_AL_add2 18 = .ok (.iadd, 1) := by decide +kernel
theorem d_AL_add2_19 : decode b_AL_add2 19 = .ok (.putfield 48, 3) := by decide +kernel
theorem d_AL_add2_22 : decode b_AL_add2 22 = .ok (.return_, 1) := by decide +kernel
theorem d_AL_add3_0 : decode b_AL_add3 0 = .ok (.aload_n 0, 1) := by decide +kernel
theorem d_AL_add3_1 : decode b_AL_add3 1 = .ok (.iload_n 1, 1) := by decide +kernel
theorem d_AL_add3_2 : decode b_AL_add3 2 = .ok (.invokevirtual 135, 3) := by decide +kernel
theorem d_AL_add3_5 : decode b_AL_add3 5 = .ok (.aload_n 0, 1) := by decide +kernel
theorem d_AL_add3_6 : decode b_AL_add3 6 = .ok (.dup, 1) := by decide +kernel
theorem d_AL_add3_7 : decode b_AL_add3 7 = .ok (.getfield 63, 3) := by decide +kernel
theorem d_AL_add3_10 : decode b_AL_add3 10 = .ok (.iconst 1, 1) := by decide +kernel
theorem d_AL_add3_11 : decode b_AL_add3 11 = .ok (.iadd, 1) := by decide +kernel
theorem d_AL_add3_12 : decode b_AL_add3 12 = .ok (.putfield 63, 3) := by decide +kernel
theorem d_AL_add3_15 : decode b_AL_add3 15 = .ok (.aload_n 0, 1) := by decide +kernel
theorem d_AL_add3_16 : decode b_AL_add3 16 = .ok (.getfield 48, 3) := by decide +kernel
theorem d_AL_add3_19 : decode b_AL_add3 19 = .ok (.dup, 1) := by decide +kernel
theorem d_AL_add3_20 : decode b_AL_add3 20 = .ok (.istore_n 3, 1) := by decide +kernel
theorem d_AL_add3_21 : decode b_AL_add3 21 = .ok (.aload_n 0, 1) := by decide +kernel
theorem d_AL_add3_22 : decode b_AL_add3 22 = .ok (.getfield 9, 3) := by decide +kernel
theorem d_AL_add3_25 : decode b_AL_add3 25 = .ok (.dup, 1) := by decide +kernel
theorem d_AL_add3_26 : decode b_AL_add3 26 = .ok (.astore 4, 2) := by decide +kernel
theorem d_AL_add3_28 : decode b_AL_add3 28 = .ok (.arraylength, 1) := by decide +kernel
theorem d_AL_add3_29 : decode b_AL_add3 29 = .ok (.if_icmp .ne 9, 3) := by decide +kernel
theorem d_AL_add3_32 : decode b_AL_add3 32 = .ok (.aload_n 0, 1) := by decide +kernel
theorem d_AL_add3_33 : decode b_AL_add3 33 = .ok (.invokevirtual 129, 3) := by decide +kernel
theorem d_AL_add3_36 : decode b_AL_add3 36 = .ok (.astore 4, 2) := by decide +kernel
theorem d_AL_add3_38 : decode b_AL_add3 38 = .ok (.aload 4, 2) := by decide +kernel
theorem d_AL_add3_40 : decode b_AL_add3 40 = .ok (.iload_n 1, 1) := by decide +kernel
theorem d_AL_add3_41 : decode b_AL_add3 41 = .ok (.aload 4, 2) := by decide +kernel
theorem d_AL_add3_43 : decode b_AL_add3 43 = .ok (.iload_n 1, 1) := by decide +kernel
theorem d_AL_add3_44 : decode b_AL_add3 44 = .ok (.iconst 1, 1) := by decide +kernel
theorem d_AL_add3_45 : decode b_AL_add3 45 = .ok (.iadd, 1) := by decide +kernel
theorem d_AL_add3_46 : decode b_AL_add3 46 = .ok (.iload_n 3, 1) := by decide +kernel
theorem d_AL_add3_47 : decode b_AL_add3 47 = .ok (.iload_n 1, 1) := by decide +kernel
theorem d_AL_add3_48 : decode b_AL_add3 48 = .ok (.isub, 1) := by decide +kernel
theorem d_AL_add3_49 : decode b_AL_add3 49 = .ok (.invokestatic 112, 3) := by decide +kernel
theorem d_AL_add3_52 : decode b_AL_add3 52 = .ok (.aload 4, 2) := by decide +kernel
theorem d_AL_add3_54 : decode b_AL_add3 54 = .ok (.iload_n 1, 1) := by decide +kernel
theorem d_AL_add3_55 : decode b_AL_add3 55 = .ok (.aload_n 2, 1) := by decide +kernel
theorem d_AL_add3_56 : decode b_AL_add3 56 = .ok (.aastore, 1) := by decide +kernel
theorem d_AL_add3_57 : decode b_AL_add3 57 = .ok (.aload_n 0, 1) := by decide +kernel
theorem d_AL_add3_58 : decode b_AL_add3 58 = .ok (.iload_n 3, 1) := by decide +kernel
theorem d_AL_add3_59 : decode b_AL_add3 59 = .ok (.iconst 1, 1) := by decide +kernel
theorem d_AL_add3_60 : decode b_AL_add3 60 = .ok (.iadd, 1) := by decide +kernel
theorem d_AL_add3_61 : decode b_AL_add3 61 = .ok (.putfield 48, 3) := by decide +kernel
theorem d_AL_add3_64 : decode b_AL_add3 64 = .ok (.return_, 1) := by decide +kernel
theorem d_AL_grow_0 : decode b_AL_grow 0 = .ok (.aload_n 0, 1) := by decide +kernel
theorem d_AL_grow_1 : decode b_AL_grow 1 = .ok (.aload_n 0, 1) := by decide +kernel
theorem d_AL_grow_2 : decode b_AL_grow 2 = .ok (.getfield 48, 3) := by decide +kernel
theorem d_AL_grow_5 : decode b_AL_grow 5 = .ok (.iconst 1, 1) := by decide +kernel
theorem d_AL_grow_6 : decode b_AL_grow 6 = .ok (.iadd, 1) := by decide +kernel
theorem d_AL_grow_7 : decode b_AL_grow 7 = .ok (.invokevirtual 69, 3) := by decide +kernel
theorem d_AL_grow_10 : decode b_AL_grow 10 = .ok (.areturn, 1) := by decide +kernel
theorem d_AL_grow2_0 : decode b_AL_grow2 0 = .ok (.aload_n 0, 1) := by decide +kernel
theorem d_AL_grow2_1 : decode b_AL_grow2 1 = .ok (.getfield 9, 3) := by decide +kernel
theorem d_AL_grow2_4 : decode b_AL_grow2 4 = .ok (.arraylength, 1) := by decide +kernel
theorem d_AL_grow2_5 : decode b_AL_grow2 5 = .ok (.istore_n 2, 1) := by decide +kernel
theorem d_AL_grow2_6 : decode b_AL_grow2 6 = .ok (.iload_n 2, 1) := by decide +kernel
theorem d_AL_grow2_7 : decode b_AL_grow2 7 = .ok (.ifCond .gt 13, 3) := by decide +kernel
theorem d_AL_grow2_10 : decode b_AL_grow2 10 = .ok (.aload_n 0, 1) := by decide +kernel
theorem d_AL_grow2_11 : decode b_AL_grow2 11 = .ok (.getfield 9, 3) := by decide +kernel
theorem d_AL_grow2_14 : decode b_AL_grow2 14 = .ok (.getstatic 39, 3) := by decide +kernel
theorem d_AL_grow2_17 : decode b_AL_grow2 17 = .ok (.if_acmp .eq 28, 3) := by decide +kernel
theorem d_AL_grow2_20 : decode b_AL_grow2 20 = .ok (.iload_n 2, 1) := by decide +kernel
theorem d_AL_grow2_21 : decode b_AL_grow2 21 = .ok (.iload_n 1, 1) := by decide +kernel
theorem d_AL_grow2_22 : decode b_AL_grow2 22 = .ok (.iload_n 2, 1) := by decide +kernel
theorem d_AL_grow2_23 : decode b_AL_grow2 23 = .ok (.isub, 1) := by decide +kernel
theorem d_AL_grow2_24 : decode b_AL_grow2 24 = .ok (.iload_n 2, 1) := by decide +kernel
theorem d_AL_grow2_25 : decode b_AL_grow2 25 = .ok (.iconst 1, 1) := by decide +kernel
theorem d_AL_grow2_26 : decode b_AL_grow2 26 = .ok (.ishr, 1) := by decide +kernel
theorem d_AL_grow2_27 : decode b_AL_grow2 27 = .ok (.invokestatic 73, 3) := by decide +kernel
theorem d_AL_grow2_30 : decode b_AL_grow2 30 = .ok (.istore_n 3, 1) := by decide +kernel
theorem d_AL_grow2_31 : decode b_AL_grow2 31 = .ok (.aload_n 0, 1) := by decide +kernel
theorem d_AL_grow2_32 : decode b_AL_grow2 32 = .ok (.aload_n 0, 1) := by decide +kernel
theorem d_AL_grow2_33 : decode b_AL_grow2 33 = .ok (.getfield 9, 3) := by decide +kernel
theorem d_AL_grow2_36 : decode b_AL_grow2 36 = .ok (.iload_n 3, 1) := by decide +kernel
theorem d_AL_grow2_37 : decode b_AL_grow2 37 = .ok (.invokestatic 66, 3) := by decide +kernel
theorem d_AL_grow2_40 : decode b_AL_grow2 40 = .ok (.dup_x1, 1) := by decide +kernel
theorem d_AL_grow2_41 : decode b_AL_grow2 41 = .ok (.putfield 9, 3) := by decide +kernel
theorem d_AL_grow2_44 : decode b_AL_grow2 44 = .ok (.areturn, 1) := by decide +kernel
theorem d_AL_grow2_45 : decode b_AL_grow2 45 = .ok (.aload_n 0, 1) := by decide +kernel
theorem d_AL_grow2_46 : decode b_AL_grow2 46 = .ok (.bipush 10, 2) := by decide +kernel
theorem d_AL_grow2_48 : decode b_AL_grow2 48 = .ok (.iload_n 1, 1) := by decide +kernel
theorem d_AL_grow2_49 : decode b_AL_grow2 49 = .ok (.invokestatic 79, 3) := by decide +kernel
theorem d_AL_grow2_52 : decode b_AL_grow2 52 = .ok (.anewarray 7, 3) := by decide +kernel
theorem d_AL_grow2_55 : decode b_AL_grow2 55 = .ok (.dup_x1, 1) := by decide +kernel
theorem d_AL_grow2_56 : decode b_AL_grow2 56 = .ok (.putfield 9, 3) := by decide +kernel
theorem d_AL_grow2_59 : decode b_AL_grow2 59 = .ok (.areturn, 1) := by decide +kernel
theorem d_AS_newLength_0 : decode b_AS_newLength 0 = .ok (.iload_n 0, 1) := by decide +kernel
theorem d_AS_newLength_1 : decode b_AS_newLength 1 = .ok (.iload_n 1, 1) := by decide +kernel
theorem d_AS_newLength_2 : decode b_AS_newLength 2 = .ok (.iload_n 2, 1) := by decide +kernel
theorem d_AS_newLength_3 : decode b_AS_newLength 3 = .ok (.invokestatic 194, 3) := by decide +kernel
theorem d_AS_newLength_6 : decode b_AS_newLength 6 = .ok (.iadd, 1) := by decide +kernel
theorem d_AS_newLength_7 : decode b_AS_newLength 7 = .ok (.istore_n 3, 1) := by decide +kernel
theorem d_AS_newLength_8 : decode b_AS_newLength 8 = .ok (.iconst 0, 1) := by decide +kernel
theorem d_AS_newLength_9 : decode b_AS_newLength 9 = .ok (.iload_n 3, 1) := by decide +kernel
theorem d_AS_newLength_10 : decode b_AS_newLength 10 = .ok (.if_icmp .ge 11, 3) := by decide +kernel
theorem d_AS_newLength_13 : decode b_AS_newLength 13 = .ok (.iload_n 3, 1) := by decide +kernel
theorem d_AS_newLength_14 : decode b_AS_newLength 14 = .ok (.ldc 200, 2) := by decide +kernel
theorem d_AS_newLength_16 : decode b_AS_newLength 16 = .ok (.if_icmp .gt 5, 3) := by decide +kernel
theorem d_AS_newLength_19 : decode b_AS_newLength 19 = .ok (.iload_n 3, 1) := by decide +kernel
theorem d_AS_newLength_20 : decode b_AS_newLength 20 = .ok (.ireturn, 1) := by decide +kernel
theorem d_AS_newLength_21 : decode b_AS_newLength 21 = .ok (.iload_n 0, 1) := by decide +kernel
theorem d_AS_newLength_22 : decode b_AS_newLength 22 = .ok (.iload_n 1, 1) := by decide +kernel
theorem d_AS_newLength_23 : decode b_AS_newLength 23 = .ok (.invokestatic 201, 3) := by decide +kernel
theorem d_AS_newLength_26 : decode b_AS_newLength 26 = .ok (.ireturn, 1) := by decide +kernel
theorem d_AS_hugeLength_0 : decode b_AS_hugeLength 0 = .ok (.iload_n 0, 1) := by decide +kernel
theorem d_AS_hugeLength_1 : decode b_AS_hugeLength 1 = .ok (.iload_n 1, 1) := by decide +kernel
theorem d_AS_hugeLength_2 : decode b_AS_hugeLength 2 = .ok (.iadd, 1) := by decide +kernel
theorem d_AS_hugeLength_3 : decode b_AS_hugeLength 3 = .ok (.istore_n 2, 1) := by decide +kernel
theorem d_AS_hugeLength_4 : decode b_AS_hugeLength 4 = .ok (.iload_n 2, 1) := by decide +kernel
theorem d_AS_hugeLength_5 : decode b_AS_hugeLength 5 = .ok (.ifCond .ge 44, 3) := by decide +kernel
theorem d_AS_hugeLength_8 : decode b_AS_hugeLength 8 = .ok (.new 204, 3) := by decide +kernel
theorem d_AS_hugeLength_11 : decode b_AS_hugeLength 11 = .ok (.dup, 1) := by decide +kernel
theorem d_AS_hugeLength_12 : decode b_AS_hugeLength 12 = .ok (.new 89, 3) := by decide +kernel
theorem d_AS_hugeLength_15 : decode b_AS_hugeLength 15 = .ok (.dup, 1) := by decide +kernel
theorem d_AS_hugeLength_16 : decode b_AS_hugeLength 16 = .ok (.invokespecial 91, 3) := by decide +kernel
theorem d_AS_hugeLength_19 : decode b_AS_hugeLength 19 = .ok (.ldc 206, 2) := by decide +kernel
theorem d_AS_hugeLength_21 : decode b_AS_hugeLength 21 = .ok (.invokevirtual 94, 3) := by decide +kernel
theorem d_AS_hugeLength_24 : decode b_AS_hugeLength 24 = .ok (.iload_n 0, 1) := by decide +kernel
theorem d_AS_hugeLength_25 : decode b_AS_hugeLength 25 = .ok (.invokevirtual 98, 3) := by decide +kernel
theorem d_AS_hugeLength_28 : decode b_AS_hugeLength 28 = .ok (.ldc 208, 2) := by decide +kernel
theorem d_AS_hugeLength_30 : decode b_AS_hugeLength 30 = .ok (.invokevirtual 94, 3) := by decide +kernel
theorem d_AS_hugeLength_33 : decode b_AS_hugeLength 33 = .ok (.iload_n 1, 1) := by decide +kernel
theorem d_AS_hugeLength_34 : decode b_AS_hugeLength 34 = .ok (.invokevirtual 98, 3) := by decide +kernel
theorem d_AS_hugeLength_37 : decode b_AS_hugeLength 37 = .ok (.ldc 210, 2) := by decide +kernel
theorem d_AS_hugeLength_39 : decode b_AS_hugeLength 39 = .ok (.invokevirtual 94, 3) := by decide +kernel
theorem d_AS_hugeLength_42 : decode b_AS_hugeLength 42 = .ok (.invokevirtual 101, 3) := by decide +kernel
theorem d_AS_hugeLength_45 : decode b_AS_hugeLength 45 = .ok (.invokespecial 212, 3) := by decide +kernel
theorem d_AS_hugeLength_48 : decode b_AS_hugeLength 48 = .ok (.athrow, 1) := by decide +kernel
theorem d_AS_hugeLength_49 : decode b_AS_hugeLength 49 = .ok (.iload_n 2, 1) := by decide +kernel
theorem d_AS_hugeLength_50 : decode b_AS_hugeLength 50 = .ok (.ldc 200, 2) := by decide +kernel
theorem d_AS_hugeLength_52 : decode b_AS_hugeLength 52 = .ok (.if_icmp .gt 6, 3) := by decide +kernel
theorem d_AS_hugeLength_55 : decode b_AS_hugeLength 55 = .ok (.ldc 200, 2) := by decide +kernel
theorem d_AS_hugeLength_57 : decode b_AS_hugeLength 57 = .ok (.ireturn, 1) := by decide +kernel
theorem d_AS_hugeLength_58 : decode b_AS_hugeLength 58 = .ok (.iload_n 2, 1) := by decide +kernel
theorem d_AS_hugeLength_59 : decode b_AS_hugeLength 59 = .ok (.ireturn, 1) := by decide +kernel
theorem d_Ar_copyOf_0 : decode b_Ar_copyOf 0 = .ok (.aload_n 0, 1) := by decide +kernel
theorem d_Ar_copyOf_1 : decode b_Ar_copyOf 1 = .ok (.iload_n 1, 1) := by decide +kernel
theorem d_Ar_copyOf_2 : decode b_Ar_copyOf 2 = .ok (.aload_n 0, 1) := by decide +kernel
theorem d_Ar_copyOf_3 : decode b_Ar_copyOf 3 = .ok (.invokevirtual 86, 3) := by decide +kernel
theorem d_Ar_copyOf_6 : decode b_Ar_copyOf 6 = .ok (.invokestatic 300, 3) := by decide +kernel
theorem d_Ar_copyOf_9 : decode b_Ar_copyOf 9 = .ok (.areturn, 1) := by decide +kernel
theorem d_Ar_copyOf2_0 : decode b_Ar_copyOf2 0 = .ok (.aload_n 2, 1) := by decide +kernel
theorem d_Ar_copyOf2_1 : decode b_Ar_copyOf2 1 = .ok (.ldc 110, 2) := by decide +kernel
theorem d_Ar_copyOf2_3 : decode b_Ar_copyOf2 3 = .ok (.if_acmp .ne 10, 3) := by decide +kernel
theorem d_Ar_copyOf2_6 : decode b_Ar_copyOf2 6 = .ok (.iload_n 1, 1) := by decide +kernel
theorem d_Ar_copyOf2_7 : decode b_Ar_copyOf2 7 = .ok (.anewarray 2, 3) := by decide +kernel
theorem d_Ar_copyOf2_10 : decode b_Ar_copyOf2 10 = .ok (.goto 14, 3) := by decide +kernel
theorem d_Ar_copyOf2_13 : decode b_Ar_copyOf2 13 = .ok (.aload_n 2, 1) := by decide +kernel
theorem d_Ar_copyOf2_14 : decode b_Ar_copyOf2 14 = .ok (.invokevirtual 90, 3) := by decide +kernel
theorem d_Ar_copyOf2_17 : decode b_Ar_copyOf2 17 = .ok (.iload_n 1, 1) := by decide +kernel
theorem d_Ar_copyOf2_18 : decode b_Ar_copyOf2 18 = .ok (.invokestatic 95, 3) := by decide +kernel
theorem d_Ar_copyOf2_21 : decode b_Ar_copyOf2 21 = .ok (.checkcast 110, 3) := by decide +kernel
theorem d_Ar_copyOf2_24 : decode b_Ar_copyOf2 24 = .ok (.astore_n 3, 1) := by decide +kernel
theorem d_Ar_copyOf2_25 : decode b_Ar_copyOf2 25 = .ok (.aload_n 0, 1) := by decide +kernel
theorem d_Ar_copyOf2_26 : decode b_Ar_copyOf2 26 = .ok (.iconst 0, 1) := by decide +kernel
theorem d_Ar_copyOf2_27 : decode b_Ar_copyOf2 27 = .ok (.aload_n 3, 1) := by decide +kernel
theorem d_Ar_copyOf2_28 : decode b_Ar_copyOf2 28 = .ok (.iconst 0, 1) := by decide +kernel
theorem d_Ar_copyOf2_29 : decode b_Ar_copyOf2 29 = .ok (.aload_n 0, 1) := by decide +kernel
theorem d_Ar_copyOf2_30 : decode b_Ar_copyOf2 30 = .ok (.arraylength, 1) := by decide +kernel
theorem d_Ar_copyOf2_31 : decode b_Ar_copyOf2 31 = .ok (.iload_n 1, 1) := by decide +kernel
theorem d_Ar_copyOf2_32 : decode b_Ar_copyOf2 32 = .ok (.invokestatic 304, 3) := by decide +kernel
theorem d_Ar_copyOf2_35 : decode b_Ar_copyOf2 35 = .ok (.invokestatic 150, 3) := by decide +kernel
theorem d_Ar_copyOf2_38 : decode b_Ar_copyOf2 38 = .ok (.aload_n 3, 1) := by decide +kernel
theorem d_Ar_copyOf2_39 : decode b_Ar_copyOf2 39 = .ok (.areturn, 1) := by decide +kernel
theorem d_AL_isEmpty_0 : decode b_AL_isEmpty 0 = .ok (.aload_n 0, 1) := by decide +kernel
theorem d_AL_isEmpty_1 : decode b_AL_isEmpty 1 = .ok (.getfield 48, 3) := by decide +kernel
theorem d_AL_isEmpty_4 : decode b_AL_isEmpty 4 = .ok (.ifCond .ne 7, 3) := by decide +kernel
theorem d_AL_isEmpty_7 : decode b_AL_isEmpty 7 = .ok (.iconst 1, 1) := by decide +kernel
theorem d_AL_isEmpty_8 : decode b_AL_isEmpty 8 = .ok (.goto 4, 3) := by decide +kernel
theorem d_AL_isEmpty_11 : decode b_AL_isEmpty 11 = .ok (.iconst 0, 1) := by decide +kernel
theorem d_AL_isEmpty_12 : decode b_AL_isEmpty 12 = .ok (.ireturn, 1) := by decide +kernel
theorem d_AL_get_0 : decode b_AL_get 0 = .ok (.iload_n 1, 1) := by decide +kernel
theorem d_AL_get_1 : decode b_AL_get 1 = .ok (.aload_n 0, 1) := by decide +kernel
theorem d_AL_get_2 : decode b_AL_get 2 = .ok (.getfield 48, 3) := by decide +kernel
theorem d_AL_get_5 : decode b_AL_get 5 = .ok (.invokestatic 118, 3) := by decide +kernel
theorem d_AL_get_8 : decode b_AL_get 8 = .ok (.pop, 1) := by decide +kernel
theorem d_AL_get_9 : decode b_AL_get 9 = .ok (.aload_n 0, 1) := by decide +kernel
theorem d_AL_get_10 : decode b_AL_get 10 = .ok (.iload_n 1, 1) := by decide +kernel
theorem d_AL_get_11 : decode b_AL_get 11 = .ok (.invokevirtual 123, 3) := by decide +kernel
theorem d_AL_get_14 : decode b_AL_get 14 = .ok (.areturn, 1) := by decide +kernel
theorem d_Ob_checkIndex_0 : decode b_Ob_checkIndex 0 = .ok (.iload_n 0, 1) := by decide +kernel
theorem d_Ob_checkIndex_1 : decode b_Ob_checkIndex 1 = .ok (.iload_n 1, 1) := by decide +kernel
theorem d_Ob_checkIndex_2 : decode b_Ob_checkIndex 2 = .ok (.aconst_null, 1) := by decide +kernel
theorem d_Ob_checkIndex_3 : decode b_Ob_checkIndex 3 = .ok (.invokestatic 105, 3) := by decide +kernel
theorem d_Ob_checkIndex_6 : decode b_Ob_checkIndex 6 = .ok (.ireturn, 1) := by decide +kernel
theorem d_Pr_checkIndex_0 : decode b_Pr_checkIndex 0 = .ok (.iload_n 0, 1) := by decide +kernel
theorem d_Pr_checkIndex_1 : decode b_Pr_checkIndex 1 = .ok (.ifCond .lt 8, 3) := by decide +kernel
theorem d_Pr_checkIndex_4 : decode b_Pr_checkIndex 4 = .ok (.iload_n 0, 1) := by decide +kernel
theorem d_Pr_checkIndex_5 : decode b_Pr_checkIndex 5 = .ok (.iload_n 1, 1) := by decide +kernel
theorem d_Pr_checkIndex_6 : decode b_Pr_checkIndex 6 = .ok (.if_icmp .lt 10, 3) := by decide +kernel
theorem d_Pr_checkIndex_9 : decode b_Pr_checkIndex 9 = .ok (.aload_n 2, 1) := by decide +kernel
theorem d_Pr_checkIndex_10 : decode b_Pr_checkIndex 10 = .ok (.iload_n 0, 1) := by decide +kernel
theorem d_Pr_checkIndex_11 : decode b_Pr_checkIndex 11 = .ok (.iload_n 1, 1) := by decide +kernel
theorem d_Pr_checkIndex_12 : decode b_Pr_checkIndex 12 = .ok (.invokestatic 95, 3) := by decide +kernel
theorem d_Pr_checkIndex_15 : decode b_Pr_checkIndex 15 = .ok (.athrow, 1) := by decide +kernel
theorem d_Pr_checkIndex_16 : decode b_Pr_checkIndex 16 = .ok (.iload_n 0, 1) := by decide +kernel
theorem d_Pr_checkIndex_17 : decode b_Pr_checkIndex 17 = .ok (.ireturn, 1) := by decide +kernel
theorem d_AL_elementData_0 : decode b_AL_elementData 0 = .ok (.aload_n 0, 1) := by decide +kernel
theorem d_AL_elementData_1 : decode b_AL_elementData 1 = .ok (.getfield 9, 3) := by decide +kernel
theorem d_AL_elementData_4 : decode b_AL_elementData 4 = .ok (.iload_n 1, 1) := by decide +kernel
theorem d_AL_elementData_5 : decode b_AL_elementData 5 = .ok (.aaload, 1) := by decide +kernel
theorem d_AL_elementData_6 : decode b_AL_elementData 6 = .ok (.areturn, 1) := by decide +kernel
theorem d_AL_remove_0 : decode b_AL_remove 0 = .ok (.iload_n 1, 1) := by decide +kernel
theorem d_AL_remove_1 : decode b_AL_remove 1 = .ok (.aload_n 0, 1) := by decide +kernel
theorem d_AL_remove_2 : decode b_AL_remove 2 = .ok (.getfield 48, 3) := by decide +kernel
theorem d_AL_remove_5 : decode b_AL_remove 5 = .ok (.invokestatic 118, 3) := by decide +kernel
theorem d_AL_remove_8 : decode b_AL_remove 8 = .ok (.pop, 1) := by decide +kernel
theorem d_AL_remove_9 : decode b_AL_remove 9 = .ok (.aload_n 0, 1) := by decide +kernel
theorem d_AL_remove_10 : decode b_AL_remove 10 = .ok (.getfield 9, 3) := by decide +kernel
theorem d_AL_remove_13 : decode b_AL_remove 13 = .ok (.astore_n 2, 1) := by decide +kernel
theorem d_AL_remove_14 : decode b_AL_remove 14 = .ok (.aload_n 2, 1) := by decide +kernel
theorem d_AL_remove_15 : decode b_AL_remove 15 = .ok (.iload_n 1, 1) := by decide +kernel
theorem d_AL_remove_16 : decode b_AL_remove 16 = .ok (.aaload, 1) := by decide +kernel
theorem d_AL_remove_17 : decode b_AL_remove 17 = .ok (.astore_n 3, 1) := by decide +kernel
theorem d_AL_remove_18 : decode b_AL_remove 18 = .ok (.aload_n 0, 1) := by decide +kernel
theorem d_AL_remove_19 : decode b_AL_remove 19 = .ok (.aload_n 2, 1) := by decide +kernel
theorem d_AL_remove_20 : decode b_AL_remove 20 = .ok (.iload_n 1, 1) := by decide +kernel
theorem d_AL_remove_21 : decode b_AL_remove 21 = .ok (.invokevirtual 144, 3) := by decide +kernel
theorem d_AL_remove_24 : decode b_AL_remove 24 = .ok (.aload_n 3, 1) := by decide +kernel
theorem d_AL_remove_25 : decode b_AL_remove 25 = .ok (.areturn, 1) := by decide +kernel
theorem d_AL_fastRemove_0 : decode b_AL_fastRemove 0 = .ok (.aload_n 0, 1) := by decide +kernel
theorem d_AL_fastRemove_1 : decode b_AL_fastRemove 1 = .ok (.dup, 1) := by decide +kernel
theorem d_AL_fastRemove_2 : decode b_AL_fastRemove 2 = .ok (.getfield 63, 3) := by decide +kernel
theorem d_AL_fastRemove_5 : decode b_AL_fastRemove 5 = .ok (.iconst 1, 1) := by decide +kernel
theorem d_AL_fastRemove_6 : decode b_AL_fastRemove 6 = .ok (.iadd, 1) := by decide +kernel
theorem d_AL_fastRemove_7 : decode b_AL_fastRemove 7 = .ok (.putfield 63, 3) := by decide +kernel
theorem d_AL_fastRemove_10 : decode b_AL_fastRemove 10 = .ok (.aload_n 0, 1) := by decide +kernel
theorem d_AL_fastRemove_11 : decode b_AL_fastRemove 11 = .ok (.getfield 48, 3) := by decide +kernel
theorem d_AL_fastRemove_14 : decode b_AL_fastRemove 14 = .ok (.iconst 1, 1) := by decide +kernel
theorem d_AL_fastRemove_15 : decode b_AL_fastRemove 15 = .ok (.isub, 1) := by decide +kernel
theorem d_AL_fastRemove_16 : decode b_AL_fastRemove 16 = .ok (.dup, 1) := by decide +kernel
theorem d_AL_fastRemove_17 : decode b_AL_fastRemove 17 = .ok (.istore_n 3, 1) := by decide +kernel
theorem d_AL_fastRemove_18 : decode b_AL_fastRemove 18 = .ok (.iload_n 2, 1) := by decide +kernel
theorem d_AL_fastRemove_19 : decode b_AL_fastRemove 19 = .ok (.if_icmp .le 15, 3) := by decide +kernel
theorem d_AL_fastRemove_22 : decode b_AL_fastRemove 22 = .ok (.aload_n 1, 1) := by decide +kernel
theorem d_AL_fastRemove_23 : decode b_AL_fastRemove 23 = .ok (.iload_n 2, 1) := by decide +kernel
theorem d_AL_fastRemove_24 : decode b_AL_fastRemove 24 = .ok (.iconst 1, 1) := by decide +kernel
theorem d_AL_fastRemove_25 : decode b_AL_fastRemove 25 = .ok (.iadd, 1) := by decide +kernel
theorem d_AL_fastRemove_26 : decode b_AL_fastRemove 26 = .ok (.aload_n 1, 1) := by decide +kernel
theorem d_AL_fastRemove_27 : decode b_AL_fastRemove 27 = .ok (.iload_n 2, 1) := by decide +kernel
theorem d_AL_fastRemove_28 : decode b_AL_fastRemove 28 = .ok (.iload_n 3, 1) := by decide +kernel
theorem d_AL_fastRemove_29 : decode b_AL_fastRemove 29 = .ok (.iload_n 2, 1) := by decide +kernel
theorem d_AL_fastRemove_30 : decode b_AL_fastRemove 30 = .ok (.isub, 1) := by decide +kernel
theorem d_AL_fastRemove_31 : decode b_AL_fastRemove 31 = .ok (.invokestatic 112, 3) := by decide +kernel
theorem d_AL_fastRemove_34 : decode b_AL_fastRemove 34 = .ok (.aload_n 1, 1) := by decide +kernel
theorem d_AL_fastRemove_35 : decode b_AL_fastRemove 35 = .ok (.aload_n 0, 1) := by decide +kernel
theorem d_AL_fastRemove_36 : decode b_AL_fastRemove 36 = .ok (.iload_n 3, 1) := by decide +kernel
theorem d_AL_fastRemove_37 : decode b_AL_fastRemove 37 = .ok (.dup_x1, 1) := by decide +kernel
theorem d_AL_fastRemove_38 : decode b_AL_fastRemove 38 = .ok (.putfield 48, 3) := by decide +kernel
theorem d_AL_fastRemove_41 : decode b_AL_fastRemove 41 = .ok (.aconst_null, 1) := by decide +kernel
theorem d_AL_fastRemove_42 : decode b_AL_fastRemove 42 = .ok (.aastore, 1) := by decide +kernel
theorem d_AL_fastRemove_43 : decode b_AL_fastRemove 43 = .ok (.return_, 1) := by decide +kernel
theorem d_AL_clear_0 : decode b_AL_clear 0 = .ok (.aload_n 0, 1) := by decide +kernel
theorem d_AL_clear_1 : decode b_AL_clear 1 = .ok (.dup, 1) := by decide +kernel
theorem d_AL_clear_2 : decode b_AL_clear 2 = .ok (.getfield 63, 3) := by decide +kernel
theorem d_AL_clear_5 : decode b_AL_clear 5 = .ok (.iconst 1, 1) := by decide +kernel
theorem d_AL_clear_6 : decode b_AL_clear 6 = .ok (.iadd, 1) := by decide +kernel
theorem d_AL_clear_7 : decode b_AL_clear 7 = .ok (.putfield 63, 3) := by decide +kernel
theorem d_AL_clear_10 : decode b_AL_clear 10 = .ok (.aload_n 0, 1) := by decide +kernel
theorem d_AL_clear_11 : decode b_AL_clear 11 = .ok (.getfield 9, 3) := by decide +kernel
theorem d_AL_clear_14 : decode b_AL_clear 14 = .ok (.astore_n 1, 1) := by decide +kernel
theorem d_AL_clear_15 : decode b_AL_clear 15 = .ok (.aload_n 0, 1) := by decide +kernel
theorem d_AL_clear_16 : decode b_AL_clear 16 = .ok (.getfield 48, 3) := by decide +kernel
theorem d_AL_clear_19 : decode b_AL_clear 19 = .ok (.istore_n 2, 1) := by decide +kernel
theorem d_AL_clear_20 : decode b_AL_clear 20 = .ok (.aload_n 0, 1) := by decide +kernel
theorem d_AL_clear_21 : decode b_AL_clear 21 = .ok (.iconst 0, 1) := by decide +kernel
theorem d_AL_clear_22 : decode b_AL_clear 22 = .ok (.dup_x1, 1) := by decide +kernel
theorem d_AL_clear_23 : decode b_AL_clear 23 = .ok (.putfield 48, 3) := by decide +kernel
theorem d_AL_clear_26 : decode b_AL_clear 26 = .ok (.istore_n 3, 1) := by decide +kernel
theorem d_AL_clear_27 : decode b_AL_clear 27 = .ok (.iload_n 3, 1) := by decide +kernel
theorem d_AL_clear_28 : decode b_AL_clear 28 = .ok (.iload_n 2, 1) := by decide +kernel
theorem d_AL_clear_29 : decode b_AL_clear 29 = .ok (.if_icmp .ge 13, 3) := by decide +kernel
theorem d_AL_clear_32 : decode b_AL_clear 32 = .ok (.aload_n 1, 1) := by decide +kernel
theorem d_AL_clear_33 : decode b_AL_clear 33 = .ok (.iload_n 3, 1) := by decide +kernel
theorem d_AL_clear_34 : decode b_AL_clear 34 = .ok (.aconst_null, 1) := by decide +kernel
theorem d_AL_clear_35 : decode b_AL_clear 35 = .ok (.aastore, 1) := by decide +kernel
theorem d_AL_clear_36 : decode b_AL_clear 36 = .ok (.iinc 3 1, 3) := by decide +kernel
theorem d_AL_clear_39 : decode b_AL_clear 39 = .ok (.goto (-12), 3) := by decide +kernel
theorem d_AL_clear_42 : decode b_AL_clear 42 = .ok (.return_, 1) := by decide +kernel
theorem d_Ar_fill_0 : decode b_Ar_fill 0 = .ok (.iconst 0, 1) := by decide +kernel
theorem d_Ar_fill_1 : decode b_Ar_fill 1 = .ok (.istore_n 2, 1) := by decide +kernel
theorem d_Ar_fill_2 : decode b_Ar_fill 2 = .ok (.aload_n 0, 1) := by decide +kernel
theorem d_Ar_fill_3 : decode b_Ar_fill 3 = .ok (.arraylength, 1) := by decide +kernel
theorem d_Ar_fill_4 : decode b_Ar_fill 4 = .ok (.istore_n 3, 1) := by decide +kernel
theorem d_Ar_fill_5 : decode b_Ar_fill 5 = .ok (.iload_n 2, 1) := by decide +kernel
theorem d_Ar_fill_6 : decode b_Ar_fill 6 = .ok (.iload_n 3, 1) := by decide +kernel
theorem d_Ar_fill_7 : decode b_Ar_fill 7 = .ok (.if_icmp .ge 13, 3) := by decide +kernel
theorem d_Ar_fill_10 : decode b_Ar_fill 10 = .ok (.aload_n 0, 1) := by decide +kernel
theorem d_Ar_fill_11 : decode b_Ar_fill 11 = .ok (.iload_n 2, 1) := by decide +kernel
theorem d_Ar_fill_12 : decode b_Ar_fill 12 = .ok (.iload_n 1, 1) := by decide +kernel
theorem d_Ar_fill_13 : decode b_Ar_fill 13 = .ok (.iastore, 1) := by decide +kernel
theorem d_Ar_fill_14 : decode b_Ar_fill 14 = .ok (.iinc 2 1, 3) := by decide +kernel
theorem d_Ar_fill_17 : decode b_Ar_fill 17 = .ok (.goto (-12), 3) := by decide +kernel
theorem d_Ar_fill_20 : decode b_Ar_fill 20 = .ok (.return_, 1) := by decide +kernel
theorem d_AL_rangeCheckForAdd_0 : decode b_AL_rangeCheckForAdd 0 = .ok (.iload_n 1, 1) := by decide +kernel
theorem d_AL_rangeCheckForAdd_1 : decode b_AL_rangeCheckForAdd 1 = .ok (.aload_n 0, 1) := by decide +kernel
theorem d_AL_rangeCheckForAdd_2 : decode b_AL_rangeCheckForAdd 2 = .ok (.getfield 48, 3) := by decide +kernel
theorem d_AL_rangeCheckForAdd_5 : decode b_AL_rangeCheckForAdd 5 = .ok (.if_icmp .gt 7, 3) := by decide +kernel
theorem d_AL_rangeCheckForAdd_8 : decode b_AL_rangeCheckForAdd 8 = .ok (.iload_n 1, 1) := by decide +kernel
theorem d_AL_rangeCheckForAdd_9 : decode b_AL_rangeCheckForAdd 9 = .ok (.ifCond .ge 16, 3) := by decide +kernel
theorem d_AL_rangeCheckForAdd_12 : decode b_AL_rangeCheckForAdd 12 = .ok (.new 187, 3) := by decide +kernel
theorem d_AL_rangeCheckForAdd_15 : decode b_AL_rangeCheckForAdd 15 = .ok (.dup, 1) := by decide +kernel
theorem d_AL_rangeCheckForAdd_16 : decode b_AL_rangeCheckForAdd 16 = .ok (.aload_n 0, 1) := by decide +kernel
theorem d_AL_rangeCheckForAdd_17 : decode b_AL_rangeCheckForAdd 17 = .ok (.iload_n 1, 1) := by decide +kernel
theorem d_AL_rangeCheckForAdd_18 : decode b_AL_rangeCheckForAdd 18 = .ok (.invokevirtual 198, 3) := by decide +kernel
theorem d_AL_rangeCheckForAdd_21 : decode b_AL_rangeCheckForAdd 21 = .ok (.invokespecial 193, 3) := by decide +kernel
theorem d_AL_rangeCheckForAdd_24 : decode b_AL_rangeCheckForAdd 24 = .ok (.athrow, 1) := by decide +kernel
theorem d_AL_rangeCheckForAdd_25 : decode b_AL_rangeCheckForAdd 25 = .ok (.return_, 1) := by decide +kernel
end
section
theorem d_Qu_init_0 : decode b_Qu_init 0 = .ok (.aload_n 0, 1) := by decide +kernel
theorem d_Qu_init_1 : decode b_Qu_init 1 = .ok (.invokespecial 3, 3) := by decide +kernel
theorem d_Qu_init_4 : decode b_Qu_init 4 = .ok (.aload_n 0, 1) := by decide +kernel
theorem d_Qu_init_5 : decode b_Qu_init 5 = .ok (.new 9, 3) := by decide +kernel
theorem d_Qu_init_8 : decode b_Qu_init 8 = .ok (.dup, 1) := by decide +kernel
theorem d_Qu_init_9 : decode b_Qu_init 9 = .ok (.invokespecial 11, 3) := by decide +kernel
theorem d_Qu_init_12 : decode b_Qu_init 12 = .ok (.putfield 12, 3) := by decide +kernel
theorem d_Qu_init_15 : decode b_Qu_init 15 = .ok (.aload_n 0, 1) := by decide +kernel
theorem d_Qu_init_16 : decode b_Qu_init 16 = .ok (.bipush 8, 2) := by decide +kernel
theorem d_Qu_init_18 : decode b_Qu_init 18 = .ok (.newarray .int, 2) := by decide +kernel
theorem d_Qu_init_20 : decode b_Qu_init 20 = .ok (.putfield 18, 3) := by decide +kernel
theorem d_Qu_init_23 : decode b_Qu_init 23 = .ok (.aload_n 0, 1) := by decide +kernel
theorem d_Qu_init_24 : decode b_Qu_init 24 = .ok (.iconst (-1), 1) := by decide +kernel
theorem d_Qu_init_25 : decode b_Qu_init 25 = .ok (.putfield 22, 3) := by decide +kernel
theorem d_Qu_init_28 : decode b_Qu_init 28 = .ok (.return_, 1) := by decide +kernel
theorem d_Qu_admits_0 : decode b_Qu_admits 0 = .ok (.aload_n 0, 1) := by decide +kernel
theorem d_Qu_admits_1 : decode b_Qu_admits 1 = .ok (.getfield 22, 3) := by decide +kernel
theorem d_Qu_admits_4 : decode b_Qu_admits 4 = .ok (.iconst (-1), 1) := by decide +kernel
theorem d_Qu_admits_5 : decode b_Qu_admits 5 = .ok (.if_icmp .eq 17, 3) := by decide +kernel
theorem d_Qu_admits_8 : decode b_Qu_admits 8 = .ok (.aload_n 0, 1) := by decide +kernel
theorem d_Qu_admits_9 : decode b_Qu_admits 9 = .ok (.getfield 22, 3) := by decide +kernel
theorem d_Qu_admits_12 : decode b_Qu_admits 12 = .ok (.iload_n 1, 1) := by decide +kernel
theorem d_Qu_admits_13 : decode b_Qu_admits 13 = .ok (.if_icmp .ne 7, 3) := by decide +kernel
theorem d_Qu_admits_16 : decode b_Qu_admits 16 = .ok (.iconst 1, 1) := by decide +kernel
theorem d_Qu_admits_17 : decode b_Qu_admits 17 = .ok (.goto 4, 3) := by decide +kernel
theorem d_Qu_admits_20 : decode b_Qu_admits 20 = .ok (.iconst 0, 1) := by decide +kernel
theorem d_Qu_admits_21 : decode b_Qu_admits 21 = .ok (.ireturn, 1) := by decide +kernel
theorem d_Qu_admits_22 : decode b_Qu_admits 22 = .ok (.aload_n 0, 1) := by decide +kernel
theorem d_Qu_admits_23 : decode b_Qu_admits 23 = .ok (.getfield 37, 3) := by decide +kernel
theorem d_Qu_admits_26 : decode b_Qu_admits 26 = .ok (.ifnull 10, 3) := by decide +kernel
theorem d_Qu_admits_29 : decode b_Qu_admits 29 = .ok (.iload_n 1, 1) := by decide +kernel
theorem d_Qu_admits_30 : decode b_Qu_admits 30 = .ok (.invokestatic 26, 3) := by decide +kernel
theorem d_Qu_admits_33 : decode b_Qu_admits 33 = .ok (.ifCond .eq 7, 3) := by decide +kernel
theorem d_Qu_admits_36 : decode b_Qu_admits 36 = .ok (.iconst 1, 1) := by decide +kernel
theorem d_Qu_admits_37 : decode b_Qu_admits 37 = .ok (.goto 4, 3) := by decide +kernel
theorem d_Qu_admits_40 : decode b_Qu_admits 40 = .ok (.iconst 0, 1) := by decide +kernel
theorem d_Qu_admits_41 : decode b_Qu_admits 41 = .ok (.ireturn, 1) := by decide +kernel
theorem d_Qu_isTransientKind_0 : decode b_Qu_isTransientKind 0 = .ok (.iload_n 0, 1) := by decide +kernel
theorem d_Qu_isTransientKind_1 : decode b_Qu_isTransientKind 1 = .ok (.iconst 2, 1) := by decide +kernel
theorem d_Qu_isTransientKind_2 : decode b_Qu_isTransientKind 2 = .ok (.if_icmp .lt 7, 3) := by decide +kernel
theorem d_Qu_isTransientKind_5 : decode b_Qu_isTransientKind 5 = .ok (.iconst 1, 1) := by decide +kernel
theorem d_Qu_isTransientKind_6 : decode b_Qu_isTransientKind 6 = .ok (.goto 4, 3) := by decide +kernel
theorem d_Qu_isTransientKind_9 : decode b_Qu_isTransientKind 9 = .ok (.iconst 0, 1) := by decide +kernel
theorem d_Qu_isTransientKind_10 : decode b_Qu_isTransientKind 10 = .ok (.ireturn, 1) := by decide +kernel
theorem d_Qu_isLocked_0 : decode b_Qu_isLocked 0 = .ok (.aload_n 0, 1) := by decide +kernel
theorem d_Qu_isLocked_1 : decode b_Qu_isLocked 1 = .ok (.getfield 30, 3) := by decide +kernel
theorem d_Qu_isLocked_4 : decode b_Qu_isLocked 4 = .ok (.ifCond .le 7, 3) := by decide +kernel
theorem d_Qu_isLocked_7 : decode b_Qu_isLocked 7 = .ok (.iconst 1, 1) := by decide +kernel
theorem d_Qu_isLocked_8 : decode b_Qu_isLocked 8 = .ok (.goto 4, 3) := by decide +kernel
theorem d_Qu_isLocked_11 : decode b_Qu_isLocked 11 = .ok (.iconst 0, 1) := by decide +kernel
theorem d_Qu_isLocked_12 : decode b_Qu_isLocked 12 = .ok (.ireturn, 1) := by decide +kernel
theorem d_Qu_touch_0 : decode b_Qu_touch 0 = .ok (.aload_n 0, 1) := by decide +kernel
theorem d_Qu_touch_1 : decode b_Qu_touch 1 = .ok (.lload_n 1, 1) := by decide +kernel
theorem d_Qu_touch_2 : decode b_Qu_touch 2 = .ok (.putfield 41, 3) := by decide +kernel
theorem d_Qu_touch_5 : decode b_Qu_touch 5 = .ok (.return_, 1) := by decide +kernel
theorem d_Qu_append_0 : decode b_Qu_append 0 = .ok (.aload_n 0, 1) := by decide +kernel
theorem d_Qu_append_1 : decode b_Qu_append 1 = .ok (.iload_n 1, 1) := by decide +kernel
theorem d_Qu_append_2 : decode b_Qu_append 2 = .ok (.putfield 22, 3) := by decide +kernel
theorem d_Qu_append_5 : decode b_Qu_append 5 = .ok (.aload_n 0, 1) := by decide +kernel
theorem d_Qu_append_6 : decode b_Qu_append 6 = .ok (.getfield 12, 3) := by decide +kernel
theorem d_Qu_append_9 : decode b_Qu_append 9 = .ok (.new 45, 3) := by decide +kernel
theorem d_Qu_append_12 : decode b_Qu_append 12 = .ok (.dup, 1) := by decide +kernel
theorem d_Qu_append_13 : decode b_Qu_append 13 = .ok (.lload_n 2, 1) := by decide +kernel
theorem d_Qu_append_14 : decode b_Qu_append 14 = .ok (.invokespecial 47, 3) := by decide +kernel
theorem d_Qu_append_17 : decode b_Qu_append 17 = .ok (.invokevirtual 50, 3) := by decide +kernel
theorem d_Qu_append_20 : decode b_Qu_append 20 = .ok (.pop, 1) := by decide +kernel
theorem d_Qu_append_21 : decode b_Qu_append 21 = .ok (.aload_n 0, 1) := by decide +kernel
theorem d_Qu_append_22 : decode b_Qu_append 22 = .ok (.getfield 22, 3) := by decide +kernel
theorem d_Qu_append_25 : decode b_Qu_append 25 = .ok (.invokestatic 54, 3) := by decide +kernel
theorem d_Qu_append_28 : decode b_Qu_append 28 = .ok (.ifCond .eq 24, 3) := by decide +kernel
theorem d_Qu_append_31 : decode b_Qu_append 31 = .ok (.iload 4, 2) := by decide +kernel
theorem d_Qu_append_33 : decode b_Qu_append 33 = .ok (.ifCond .eq 19, 3) := by decide +kernel
theorem d_Qu_append_36 : decode b_Qu_append 36 = .ok (.aload_n 0, 1) := by decide +kernel
theorem d_Qu_append_37 : decode b_Qu_append 37 = .ok (.iload 4, 2) := by decide +kernel
theorem d_Qu_append_39 : decode b_Qu_append 39 = .ok (.putfield 57, 3) := by decide +kernel
theorem d_Qu_append_42 : decode b_Qu_append 42 = .ok (.aload_n 0, 1) := by decide +kernel
theorem d_Qu_append_43 : decode b_Qu_append 43 = .ok (.dup, 1) := by decide +kernel
theorem d_Qu_append_44 : decode b_Qu_append 44 = .ok (.getfield 30, 3) := by decide +kernel
theorem d_Qu_append_47 : decode b_Qu_append 47 = .ok (.iconst 1, 1) := by decide +kernel
theorem d_Qu_append_48 : decode b_Qu_append 48 = .ok (.iadd, 1) := by decide +kernel
theorem d_Qu_append_49 : decode b_Qu_append 49 = .ok (.putfield 30, 3) := by decide +kernel
theorem d_Qu_append_52 : decode b_Qu_append 52 = .ok (.aload_n 0, 1) := by decide +kernel
theorem d_Qu_append_53 : decode b_Qu_append 53 = .ok (.invokevirtual 60, 3) := by decide +kernel
theorem d_Qu_append_56 : decode b_Qu_append 56 = .ok (.ifCond .ne 11, 3) := by decide +kernel
theorem d_Qu_append_59 : decode b_Qu_append 59 = .ok (.aload_n 0, 1) := by decide +kernel
theorem d_Qu_append_60 : decode b_Qu_append 60 = .ok (.getfield 12, 3) := by decide +kernel
theorem d_Qu_append_63 : decode b_Qu_append 63 = .ok (.invokevirtual 33, 3) := by decide +kernel
theorem d_Qu_append_66 : decode b_Qu_append 66 = .ok (.ireturn, 1) := by decide +kernel
theorem d_Qu_append_67 : decode b_Qu_append 67 = .ok (.aload_n 0, 1) := by decide +kernel
theorem d_Qu_append_68 : decode b_Qu_append 68 = .ok (.dup, 1) := by decide +kernel
theorem d_Qu_append_69 : decode b_Qu_append 69 = .ok (.getfield 64, 3) := by decide +kernel
theorem d_Qu_append_72 : decode b_Qu_append 72 = .ok (.iconst 1, 1) := by decide +kernel
theorem d_Qu_append_73 : decode b_Qu_append 73 = .ok (.iadd, 1) := by decide +kernel
theorem d_Qu_append_74 : decode b_Qu_append 74 = .ok (.putfield 64, 3) := by decide +kernel
theorem d_Qu_append_77 : decode b_Qu_append 77 = .ok (.aload_n 0, 1) := by decide +kernel
theorem d_Qu_append_78 : decode b_Qu_append 78 = .ok (.getfield 64, 3) := by decide +kernel
theorem d_Qu_append_81 : decode b_Qu_append 81 = .ok (.ireturn, 1) := by decide +kernel
theorem d_It_init_0 : decode b_It_init 0 = .ok (.aload_n 0, 1) := by decide +kernel
theorem d_It_init_1 : decode b_It_init 1 = .ok (.invokespecial 1, 3) := by decide +kernel
theorem d_It_init_4 : decode b_It_init 4 = .ok (.aload_n 0, 1) := by decide +kernel
theorem d_It_init_5 : decode b_It_init 5 = .ok (.lload_n 1, 1) := by decide +kernel
theorem d_It_init_6 : decode b_It_init 6 = .ok (.putfield 7, 3) := by decide +kernel
theorem d_It_init_9 : decode b_It_init 9 = .ok (.return_, 1) := by decide +kernel
theorem d_Qu_isProtectedKind_0 : decode b_Qu_isProtectedKind 0 = .ok (.iload_n 0, 1) := by decide +kernel
theorem d_Qu_isProtectedKind_1 : decode b_Qu_isProtectedKind 1 = .ok (.iconst 1, 1) := by decide +kernel
theorem d_Qu_isProtectedKind_2 : decode b_Qu_isProtectedKind 2 = .ok (.if_icmp .eq 8, 3) := by decide +kernel
theorem d_Qu_isProtectedKind_5 : decode b_Qu_isProtectedKind 5 = .ok (.iload_n 0, 1) := by decide +kernel
theorem d_Qu_isProtectedKind_6 : decode b_Qu_isProtectedKind 6 = .ok (.iconst 3, 1) := by decide +kernel
theorem d_Qu_isProtectedKind_7 : decode b_Qu_isProtectedKind 7 = .ok (.if_icmp .ne 7, 3) := by decide +kernel
theorem d_Qu_isProtectedKind_10 : decode b_Qu_isProtectedKind 10 = .ok (.iconst 1, 1) := by decide +kernel
theorem d_Qu_isProtectedKind_11 : decode b_Qu_isProtectedKind 11 = .ok (.goto 4, 3) := by decide +kernel
theorem d_Qu_isProtectedKind_14 : decode b_Qu_isProtectedKind 14 = .ok (.iconst 0, 1) := by decide +kernel
theorem d_Qu_isProtectedKind_15 : decode b_Qu_isProtectedKind 15 = .ok (.ireturn, 1) := by decide +kernel
theorem d_Qu_isTransient_0 : decode b_Qu_isTransient 0 = .ok (.aload_n 0, 1) := by decide +kernel
theorem d_Qu_isTransient_1 : decode b_Qu_isTransient 1 = .ok (.getfield 22, 3) := by decide +kernel
theorem d_Qu_isTransient_4 : decode b_Qu_isTransient 4 = .ok (.iconst (-1), 1) := by decide +kernel
theorem d_Qu_isTransient_5 : decode b_Qu_isTransient 5 = .ok (.if_icmp .eq 17, 3) := by decide +kernel
theorem d_Qu_isTransient_8 : decode b_Qu_isTransient 8 = .ok (.aload_n 0, 1) := by decide +kernel
theorem d_Qu_isTransient_9 : decode b_Qu_isTransient 9 = .ok (.getfield 22, 3) := by decide +kernel
theorem d_Qu_isTransient_12 : decode b_Qu_isTransient 12 = .ok (.invokestatic 26, 3) := by decide +kernel
theorem d_Qu_isTransient_15 : decode b_Qu_isTransient 15 = .ok (.ifCond .eq 7, 3) := by decide +kernel
theorem d_Qu_isTransient_18 : decode b_Qu_isTransient 18 = .ok (.iconst 1, 1) := by decide +kernel
theorem d_Qu_isTransient_19 : decode b_Qu_isTransient 19 = .ok (.goto 4, 3) := by decide +kernel
theorem d_Qu_isTransient_22 : decode b_Qu_isTransient 22 = .ok (.iconst 0, 1) := by decide +kernel
theorem d_Qu_isTransient_23 : decode b_Qu_isTransient 23 = .ok (.ireturn, 1) := by decide +kernel
theorem d_Qu_standing_0 : decode b_Qu_standing 0 = .ok (.aload_n 0, 1) := by decide +kernel
theorem d_Qu_standing_1 : decode b_Qu_standing 1 = .ok (.getfield 12, 3) := by decide +kernel
theorem d_Qu_standing_4 : decode b_Qu_standing 4 = .ok (.invokevirtual 33, 3) := by decide +kernel
theorem d_Qu_standing_7 : decode b_Qu_standing 7 = .ok (.aload_n 0, 1) := by decide +kernel
theorem d_Qu_standing_8 : decode b_Qu_standing 8 = .ok (.getfield 30, 3) := by decide +kernel
theorem d_Qu_standing_11 : decode b_Qu_standing 11 = .ok (.isub, 1) := by decide +kernel
theorem d_Qu_standing_12 : decode b_Qu_standing 12 = .ok (.ireturn, 1) := by decide +kernel
theorem d_Ta_init_0 : decode b_Ta_init 0 = .ok (.aload_n 0, 1) := by decide +kernel
theorem d_Ta_init_1 : decode b_Ta_init 1 = .ok (.invokespecial 1, 3) := by decide +kernel
theorem d_Ta_init_4 : decode b_Ta_init 4 = .ok (.aload_n 0, 1) := by decide +kernel
theorem d_Ta_init_5 : decode b_Ta_init 5 = .ok (.iload_n 1, 1) := by decide +kernel
theorem d_Ta_init_6 : decode b_Ta_init 6 = .ok (.putfield 7, 3) := by decide +kernel
theorem d_Ta_init_9 : decode b_Ta_init 9 = .ok (.aload_n 0, 1) := by decide +kernel
theorem d_Ta_init_10 : decode b_Ta_init 10 = .ok (.iconst 1, 1) := by decide +kernel
theorem d_Ta_init_11 : decode b_Ta_init 11 = .ok (.putfield 13, 3) := by decide +kernel
theorem d_Ta_init_14 : decode b_Ta_init 14 = .ok (.return_, 1) := by decide +kernel
theorem d_Qu_holds_0 : decode b_Qu_holds 0 = .ok (.iload_n 1, 1) := by decide +kernel
theorem d_Qu_holds_1 : decode b_Qu_holds 1 = .ok (.iconst 1, 1) := by decide +kernel
theorem d_Qu_holds_2 : decode b_Qu_holds 2 = .ok (.if_icmp .lt 18, 3) := by decide +kernel
theorem d_Qu_holds_5 : decode b_Qu_holds 5 = .ok (.iload_n 1, 1) := by decide +kernel
theorem d_Qu_holds_6 : decode b_Qu_holds 6 = .ok (.aload_n 0, 1) := by decide +kernel
theorem d_Qu_holds_7 : decode b_Qu_holds 7 = .ok (.getfield 12, 3) := by decide +kernel
theorem d_Qu_holds_10 : decode b_Qu_holds 10 = .ok (.invokevirtual 33, 3) := by decide +kernel
theorem d_Qu_holds_13 : decode b_Qu_holds 13 = .ok (.if_icmp .gt 7, 3) := by decide +kernel
theorem d_Qu_holds_16 : decode b_Qu_holds 16 = .ok (.iconst 1, 1) := by decide +kernel
theorem d_Qu_holds_17 : decode b_Qu_holds 17 = .ok (.goto 4, 3) := by decide +kernel
theorem d_Qu_holds_20 : decode b_Qu_holds 20 = .ok (.iconst 0, 1) := by decide +kernel
theorem d_Qu_holds_21 : decode b_Qu_holds 21 = .ok (.ireturn, 1) := by decide +kernel
theorem d_Qu_isTemporary_0 : decode b_Qu_isTemporary 0 = .ok (.aload_n 0, 1) := by decide +kernel
theorem d_Qu_isTemporary_1 : decode b_Qu_isTemporary 1 = .ok (.getfield 22, 3) := by decide +kernel
theorem d_Qu_isTemporary_4 : decode b_Qu_isTemporary 4 = .ok (.iconst (-1), 1) := by decide +kernel
theorem d_Qu_isTemporary_5 : decode b_Qu_isTemporary 5 = .ok (.if_icmp .eq 17, 3) := by decide +kernel
theorem d_Qu_isTemporary_8 : decode b_Qu_isTemporary 8 = .ok (.aload_n 0, 1) := by decide +kernel
theorem d_Qu_isTemporary_9 : decode b_Qu_isTemporary 9 = .ok (.getfield 22, 3) := by decide +kernel
theorem d_Qu_isTemporary_12 : decode b_Qu_isTemporary 12 = .ok (.invokestatic 26, 3) := by decide +kernel
theorem d_Qu_isTemporary_15 : decode b_Qu_isTemporary 15 = .ok (.ifCond .ne 7, 3) := by decide +kernel
theorem d_Qu_isTemporary_18 : decode b_Qu_isTemporary 18 = .ok (.iconst 1, 1) := by decide +kernel
theorem d_Qu_isTemporary_19 : decode b_Qu_isTemporary 19 = .ok (.goto 4, 3) := by decide +kernel
theorem d_Qu_isTemporary_22 : decode b_Qu_isTemporary 22 = .ok (.iconst 0, 1) := by decide +kernel
theorem d_Qu_isTemporary_23 : decode b_Qu_isTemporary 23 = .ok (.ireturn, 1) := by decide +kernel
theorem d_Qu_removeFirst_0 : decode b_Qu_removeFirst 0 = .ok (.aload_n 0, 1) := by decide +kernel
theorem d_Qu_removeFirst_1 : decode b_Qu_removeFirst 1 = .ok (.getfield 12, 3) := by decide +kernel
theorem d_Qu_removeFirst_4 : decode b_Qu_removeFirst 4 = .ok (.invokevirtual 67, 3) := by decide +kernel
theorem d_Qu_removeFirst_7 : decode b_Qu_removeFirst 7 = .ok (.ifCond .eq 6, 3) := by decide +kernel
theorem d_Qu_removeFirst_10 : decode b_Qu_removeFirst 10 = .ok (.bipush (-4), 2) := by decide +kernel
theorem d_Qu_removeFirst_12 : decode b_Qu_removeFirst 12 = .ok (.ireturn, 1) := by decide +kernel
theorem d_Qu_removeFirst_13 : decode b_Qu_removeFirst 13 = .ok (.aload_n 0, 1) := by decide +kernel
theorem d_Qu_removeFirst_14 : decode b_Qu_removeFirst 14 = .ok (.aload_n 0, 1) := by decide +kernel
theorem d_Qu_removeFirst_15 : decode b_Qu_removeFirst 15 = .ok (.getfield 64, 3) := by decide +kernel
theorem d_Qu_removeFirst_18 : decode b_Qu_removeFirst 18 = .ok (.aload_n 0, 1) := by decide +kernel
theorem d_Qu_removeFirst_19 : decode b_Qu_removeFirst 19 = .ok (.getfield 12, 3) := by decide +kernel
theorem d_Qu_removeFirst_22 : decode b_Qu_removeFirst 22 = .ok (.invokevirtual 33, 3) := by decide +kernel
theorem d_Qu_removeFirst_25 : decode b_Qu_removeFirst 25 = .ok (.isub, 1) := by decide +kernel
theorem d_Qu_removeFirst_26 : decode b_Qu_removeFirst 26 = .ok (.iconst 1, 1) := by decide +kernel
theorem d_Qu_removeFirst_27 : decode b_Qu_removeFirst 27 = .ok (.iadd, 1) := by decide +kernel
theorem d_Qu_removeFirst_28 : decode b_Qu_removeFirst 28 = .ok (.putfield 70, 3) := by decide +kernel
theorem d_Qu_removeFirst_31 : decode b_Qu_removeFirst 31 = .ok (.aload_n 0, 1) := by decide +kernel
theorem d_Qu_removeFirst_32 : decode b_Qu_removeFirst 32 = .ok (.aload_n 0, 1) := by decide +kernel
theorem d_Qu_removeFirst_33 : decode b_Qu_removeFirst 33 = .ok (.getfield 12, 3) := by decide +kernel
theorem d_Qu_removeFirst_36 : decode b_Qu_removeFirst 36 = .ok (.iconst 0, 1) := by decide +kernel
theorem d_Qu_removeFirst_37 : decode b_Qu_removeFirst 37 = .ok (.invokevirtual 73, 3) := by decide +kernel
theorem d_Qu_removeFirst_40 : decode b_Qu_removeFirst 40 = .ok (.checkcast 45, 3) := by decide +kernel
theorem d_Qu_removeFirst_43 : decode b_Qu_removeFirst 43 = .ok (.getfield 77, 3) := by decide +kernel
theorem d_Qu_removeFirst_46 : decode b_Qu_removeFirst 46 = .ok (.putfield 80, 3) := by decide +kernel
theorem d_Qu_removeFirst_49 : decode b_Qu_removeFirst 49 = .ok (.aload_n 0, 1) := by decide +kernel
theorem d_Qu_removeFirst_50 : decode b_Qu_removeFirst 50 = .ok (.getfield 12, 3) := by decide +kernel
theorem d_Qu_removeFirst_53 : decode b_Qu_removeFirst 53 = .ok (.iconst 0, 1) := by decide +kernel
theorem d_Qu_removeFirst_54 : decode b_Qu_removeFirst 54 = .ok (.invokevirtual 83, 3) := by decide +kernel
theorem d_Qu_removeFirst_57 : decode b_Qu_removeFirst 57 = .ok (.pop, 1) := by decide +kernel
theorem d_Qu_removeFirst_58 : decode b_Qu_removeFirst 58 = .ok (.aload_n 0, 1) := by decide +kernel
theorem d_Qu_removeFirst_59 : decode b_Qu_removeFirst 59 = .ok (.getfield 37, 3) := by decide +kernel
theorem d_Qu_removeFirst_62 : decode b_Qu_removeFirst 62 = .ok (.ifnull 11, 3) := by decide +kernel
theorem d_Qu_removeFirst_65 : decode b_Qu_removeFirst 65 = .ok (.aload_n 0, 1) := by decide +kernel
theorem d_Qu_removeFirst_66 : decode b_Qu_removeFirst 66 = .ok (.getfield 37, 3) := by decide +kernel
theorem d_Qu_removeFirst_69 : decode b_Qu_removeFirst 69 = .ok (.iconst 1, 1) := by decide +kernel
theorem d_Qu_removeFirst_70 : decode b_Qu_removeFirst 70 = .ok (.putfield 86, 3) := by decide +kernel
theorem d_Qu_removeFirst_73 : decode b_Qu_removeFirst 73 = .ok (.aload_n 0, 1) := by decide +kernel
theorem d_Qu_removeFirst_74 : decode b_Qu_removeFirst 74 = .ok (.getfield 12, 3) := by decide +kernel
theorem d_Qu_removeFirst_77 : decode b_Qu_removeFirst 77 = .ok (.invokevirtual 67, 3) := by decide +kernel
theorem d_Qu_removeFirst_80 : decode b_Qu_removeFirst 80 = .ok (.ifCond .eq 7, 3) := by decide +kernel
theorem d_Qu_removeFirst_83 : decode b_Qu_removeFirst 83 = .ok (.aload_n 0, 1) := by decide +kernel
theorem d_Qu_removeFirst_84 : decode b_Qu_removeFirst 84 = .ok (.invokevirtual 92, 3) := by decide +kernel
theorem d_Qu_removeFirst_87 : decode b_Qu_removeFirst 87 = .ok (.aload_n 0, 1) := by decide +kernel
theorem d_Qu_removeFirst_88 : decode b_Qu_removeFirst 88 = .ok (.getfield 70, 3) := by decide +kernel
theorem d_Qu_removeFirst_91 : decode b_Qu_removeFirst 91 = .ok (.ireturn, 1) := by decide +kernel
theorem d_Qu_becomeEmpty_0 : decode b_Qu_becomeEmpty 0 = .ok (.aload_n 0, 1) := by decide +kernel
theorem d_Qu_becomeEmpty_1 : decode b_Qu_becomeEmpty 1 = .ok (.getfield 12, 3) := by decide +kernel
theorem d_Qu_becomeEmpty_4 : decode b_Qu_becomeEmpty 4 = .ok (.invokevirtual 99, 3) := by decide +kernel
theorem d_Qu_becomeEmpty_7 : decode b_Qu_becomeEmpty 7 = .ok (.aload_n 0, 1) := by decide +kernel
theorem d_Qu_becomeEmpty_8 : decode b_Qu_becomeEmpty 8 = .ok (.getfield 18, 3) := by decide +kernel
theorem d_Qu_becomeEmpty_11 : decode b_Qu_becomeEmpty 11 = .ok (.iconst 0, 1) := by decide +kernel
theorem d_Qu_becomeEmpty_12 : decode b_Qu_becomeEmpty 12 = .ok (.invokestatic 102, 3) := by decide +kernel
theorem d_Qu_becomeEmpty_15 : decode b_Qu_becomeEmpty 15 = .ok (.aload_n 0, 1) := by decide +kernel
theorem d_Qu_becomeEmpty_16 : decode b_Qu_becomeEmpty 16 = .ok (.iconst (-1), 1) := by decide +kernel
theorem d_Qu_becomeEmpty_17 : decode b_Qu_becomeEmpty 17 = .ok (.putfield 22, 3) := by decide +kernel
theorem d_Qu_becomeEmpty_20 : decode b_Qu_becomeEmpty 20 = .ok (.return_, 1) := by decide +kernel
theorem d_Tr_init_0 : decode b_Tr_init 0 = .ok (.aload_n 0, 1) := by decide +kernel
theorem d_Tr_init_1 : decode b_Tr_init 1 = .ok (.invokespecial 1, 3) := by decide +kernel
theorem d_Tr_init_4 : decode b_Tr_init 4 = .ok (.aload_n 0, 1) := by decide +kernel
theorem d_Tr_init_5 : decode b_Tr_init 5 = .ok (.iload_n 1, 1) := by decide +kernel
theorem d_Tr_init_6 : decode b_Tr_init 6 = .ok (.putfield 7, 3) := by decide +kernel
theorem d_Tr_init_9 : decode b_Tr_init 9 = .ok (.aload_n 0, 1) := by decide +kernel
theorem d_Tr_init_10 : decode b_Tr_init 10 = .ok (.iload_n 2, 1) := by decide +kernel
theorem d_Tr_init_11 : decode b_Tr_init 11 = .ok (.putfield 13, 3) := by decide +kernel
theorem d_Tr_init_14 : decode b_Tr_init 14 = .ok (.aload_n 0, 1) := by decide +kernel
theorem d_Tr_init_15 : decode b_Tr_init 15 = .ok (.iconst 1, 1) := by decide +kernel
theorem d_Tr_init_16 : decode b_Tr_init 16 = .ok (.putfield 16, 3) := by decide +kernel
theorem d_Tr_init_19 : decode b_Tr_init 19 = .ok (.return_, 1) := by decide +kernel
theorem d_De_init_0 : decode b_De_init 0 = .ok (.aload_n 0, 1) := by decide +kernel
theorem d_De_init_1 : decode b_De_init 1 = .ok (.invokespecial 1, 3) := by decide +kernel
theorem d_De_init_4 : decode b_De_init 4 = .ok (.aload_n 0, 1) := by decide +kernel
theorem d_De_init_5 : decode b_De_init 5 = .ok (.iload_n 1, 1) := by decide +kernel
theorem d_De_init_6 : decode b_De_init 6 = .ok (.putfield 7, 3) := by decide +kernel
theorem d_De_init_9 : decode b_De_init 9 = .ok (.aload_n 0, 1) := by decide +kernel
theorem d_De_init_10 : decode b_De_init 10 = .ok (.iload_n 2, 1) := by decide +kernel
theorem d_De_init_11 : decode b_De_init 11 = .ok (.putfield 13, 3) := by decide +kernel
theorem d_De_init_14 : decode b_De_init 14 = .ok (.aload_n 0, 1) := by decide +kernel
theorem d_De_init_15 : decode b_De_init 15 = .ok (.lload_n 3, 1) := by decide +kernel
theorem d_De_init_16 : decode b_De_init 16 = .ok (.putfield 16, 3) := by decide +kernel
theorem d_De_init_19 : decode b_De_init 19 = .ok (.return_, 1) := by decide +kernel
theorem d_Qu_endPending_0 : decode b_Qu_endPending 0 = .ok (.aload_n 0, 1) := by decide +kernel
theorem d_Qu_endPending_1 : decode b_Qu_endPending 1 = .ok (.getfield 30, 3) := by decide +kernel
theorem d_Qu_endPending_4 : decode b_Qu_endPending 4 = .ok (.istore_n 2, 1) := by decide +kernel
theorem d_Qu_endPending_5 : decode b_Qu_endPending 5 = .ok (.aload_n 0, 1) := by decide +kernel
theorem d_Qu_endPending_6 : decode b_Qu_endPending 6 = .ok (.iconst 0, 1) := by decide +kernel
theorem d_Qu_endPending_7 : decode b_Qu_endPending 7 = .ok (.putfield 30, 3) := by decide +kernel
theorem d_Qu_endPending_10 : decode b_Qu_endPending 10 = .ok (.iload_n 1, 1) := by decide +kernel
theorem d_Qu_endPending_11 : decode b_Qu_endPending 11 = .ok (.ifCond .ne 8, 3) := by decide +kernel
theorem d_Qu_endPending_14 : decode b_Qu_endPending 14 = .ok (.aload_n 0, 1) := by decide +kernel
theorem d_Qu_endPending_15 : decode b_Qu_endPending 15 = .ok (.iload_n 2, 1) := by decide +kernel
theorem d_Qu_endPending_16 : decode b_Qu_endPending 16 = .ok (.invokevirtual 95, 3) := by decide +kernel
theorem d_Qu_endPending_19 : decode b_Qu_endPending 19 = .ok (.iload_n 2, 1) := by decide +kernel
theorem d_Qu_endPending_20 : decode b_Qu_endPending 20 = .ok (.ireturn, 1) := by decide +kernel
theorem d_Qu_dropLast_0 : decode b_Qu_dropLast 0 = .ok (.aload_n 0, 1) := by decide +kernel
theorem d_Qu_dropLast_1 : decode b_Qu_dropLast 1 = .ok (.invokevirtual 60, 3) := by decide +kernel
theorem d_Qu_dropLast_4 : decode b_Qu_dropLast 4 = .ok (.ifCond .eq 13, 3) := by decide +kernel
theorem d_Qu_dropLast_7 : decode b_Qu_dropLast 7 = .ok (.aload_n 0, 1) := by decide +kernel
theorem d_Qu_dropLast_8 : decode b_Qu_dropLast 8 = .ok (.dup, 1) := by decide +kernel
theorem d_Qu_dropLast_9 : decode b_Qu_dropLast 9 = .ok (.getfield 64, 3) := by decide +kernel
theorem d_Qu_dropLast_12 : decode b_Qu_dropLast 12 = .ok (.iload_n 1, 1) := by decide +kernel
theorem d_Qu_dropLast_13 : decode b_Qu_dropLast 13 = .ok (.isub, 1) := by decide +kernel
theorem d_Qu_dropLast_14 : decode b_Qu_dropLast 14 = .ok (.putfield 64, 3) := by decide +kernel
theorem d_Qu_dropLast_17 : decode b_Qu_dropLast 17 = .ok (.iload_n 1, 1) := by decide +kernel
theorem d_Qu_dropLast_18 : decode b_Qu_dropLast 18 = .ok (.istore_n 2, 1) := by decide +kernel
theorem d_Qu_dropLast_19 : decode b_Qu_dropLast 19 = .ok (.iload_n 2, 1) := by decide +kernel
theorem d_Qu_dropLast_20 : decode b_Qu_dropLast 20 = .ok (.ifCond .le 36, 3) := by decide +kernel
theorem d_Qu_dropLast_23 : decode b_Qu_dropLast 23 = .ok (.aload_n 0, 1) := by decide +kernel
theorem d_Qu_dropLast_24 : decode b_Qu_dropLast 24 = .ok (.getfield 12, 3) := by decide +kernel
theorem d_Qu_dropLast_27 : decode b_Qu_dropLast 27 = .ok (.invokevirtual 67, 3) := by decide +kernel
theorem d_Qu_dropLast_30 : decode b_Qu_dropLast 30 = .ok (.ifCond .ne 26, 3) := by decide +kernel
theorem d_Qu_dropLast_33 : decode b_Qu_dropLast 33 = .ok (.aload_n 0, 1) := by decide +kernel
theorem d_Qu_dropLast_34 : decode b_Qu_dropLast 34 = .ok (.getfield 12, 3) := by decide +kernel
theorem d_Qu_dropLast_37 : decode b_Qu_dropLast 37 = .ok (.aload_n 0, 1) := by decide +kernel
theorem d_Qu_dropLast_38 : decode b_Qu_dropLast 38 = .ok (.getfield 12, 3) := by decide +kernel
theorem d_Qu_dropLast_41 : decode b_Qu_dropLast 41 = .ok (.invokevirtual 33, 3) := by decide +kernel
theorem d_Qu_dropLast_44 : decode b_Qu_dropLast 44 = .ok (.iconst 1, 1) := by decide +kernel
theorem d_Qu_dropLast_45 : decode b_Qu_dropLast 45 = .ok (.isub, 1) := by decide +kernel
theorem d_Qu_dropLast_46 : decode b_Qu_dropLast 46 = .ok (.invokevirtual 83, 3) := by decide +kernel
theorem d_Qu_dropLast_49 : decode b_Qu_dropLast 49 = .ok (.pop, 1) := by decide +kernel
theorem d_Qu_dropLast_50 : decode b_Qu_dropLast 50 = .ok (.iinc 2 (-1), 3) := by decide +kernel
theorem d_Qu_dropLast_53 : decode b_Qu_dropLast 53 = .ok (.goto (-34), 3) := by decide +kernel
theorem d_Qu_dropLast_56 : decode b_Qu_dropLast 56 = .ok (.aload_n 0, 1) := by decide +kernel
theorem d_Qu_dropLast_57 : decode b_Qu_dropLast 57 = .ok (.getfield 12, 3) := by decide +kernel
theorem d_Qu_dropLast_60 : decode b_Qu_dropLast 60 = .ok (.invokevirtual 67, 3) := by decide +kernel
theorem d_Qu_dropLast_63 : decode b_Qu_dropLast 63 = .ok (.ifCond .eq 7, 3) := by decide +kernel
theorem d_Qu_dropLast_66 : decode b_Qu_dropLast 66 = .ok (.aload_n 0, 1) := by decide +kernel
theorem d_Qu_dropLast_67 : decode b_Qu_dropLast 67 = .ok (.invokevirtual 92, 3) := by decide +kernel
theorem d_Qu_dropLast_70 : decode b_Qu_dropLast 70 = .ok (.return_, 1) := by decide +kernel
end
section
theorem d_MQ_init_0 : decode b_MQ_init 0 = .ok (.aload_n 0, 1) := by decide +kernel
theorem d_MQ_init_1 : decode b_MQ_init 1 = .ok (.invokespecial 3, 3) := by decide +kernel
theorem d_MQ_init_4 : decode b_MQ_init 4 = .ok (.aload_n 0, 1) := by decide +kernel
theorem d_MQ_init_5 : decode b_MQ_init 5 = .ok (.iconst 1, 1) := by decide +kernel
theorem d_MQ_init_6 : decode b_MQ_init 6 = .ok (.iload_n 1, 1) := by decide +kernel
theorem d_MQ_init_7 : decode b_MQ_init 7 = .ok (.sipush 4096, 3) := by decide +kernel
theorem d_MQ_init_10 : decode b_MQ_init 10 = .ok (.invokestatic 9, 3) := by decide +kernel
theorem d_MQ_init_13 : decode b_MQ_init 13 = .ok (.invokestatic 15, 3) := by decide +kernel
theorem d_MQ_init_16 : decode b_MQ_init 16 = .ok (.putfield 18, 3) := by decide +kernel
theorem d_MQ_init_19 : decode b_MQ_init 19 = .ok (.aload_n 0, 1) := by decide +kernel
theorem d_MQ_init_20 : decode b_MQ_init 20 = .ok (.bipush 32, 2) := by decide +kernel
theorem d_MQ_init_22 : decode b_MQ_init 22 = .ok (.anewarray 22, 3) := by decide +kernel
theorem d_MQ_init_25 : decode b_MQ_init 25 = .ok (.putfield 24, 3) := by decide +kernel
theorem d_MQ_init_28 : decode b_MQ_init 28 = .ok (.iconst 0, 1) := by decide +kernel
theorem d_MQ_init_29 : decode b_MQ_init 29 = .ok (.istore_n 2, 1) := by decide +kernel
theorem d_MQ_init_30 : decode b_MQ_init 30 = .ok (.iload_n 2, 1) := by decide +kernel
theorem d_MQ_init_31 : decode b_MQ_init 31 = .ok (.bipush 32, 2) := by decide +kernel
theorem d_MQ_init_33 : decode b_MQ_init 33 = .ok (.if_icmp .ge 22, 3) := by decide +kernel
theorem d_MQ_init_36 : decode b_MQ_init 36 = .ok (.aload_n 0, 1) := by decide +kernel
theorem d_MQ_init_37 : decode b_MQ_init 37 = .ok (.getfield 24, 3) := by decide +kernel
theorem d_MQ_init_40 : decode b_MQ_init 40 = .ok (.iload_n 2, 1) := by decide +kernel
theorem d_MQ_init_41 : decode b_MQ_init 41 = .ok (.new 22, 3) := by decide +kernel
theorem d_MQ_init_44 : decode b_MQ_init 44 = .ok (.dup, 1) := by decide +kernel
theorem d_MQ_init_45 : decode b_MQ_init 45 = .ok (.invokespecial 28, 3) := by decide +kernel
theorem d_MQ_init_48 : decode b_MQ_init 48 = .ok (.aastore, 1) := by decide +kernel
theorem d_MQ_init_49 : decode b_MQ_init 49 = .ok (.iinc 2 1, 3) := by decide +kernel
theorem d_MQ_init_52 : decode b_MQ_init 52 = .ok (.goto (-22), 3) := by decide +kernel
theorem d_MQ_init_55 : decode b_MQ_init 55 = .ok (.aload_n 0, 1) := by decide +kernel
theorem d_MQ_init_56 : decode b_MQ_init 56 = .ok (.new 29, 3) := by decide +kernel
theorem d_MQ_init_59 : decode b_MQ_init 59 = .ok (.dup, 1) := by decide +kernel
theorem d_MQ_init_60 : decode b_MQ_init 60 = .ok (.invokespecial 31, 3) := by decide +kernel
theorem d_MQ_init_63 : decode b_MQ_init 63 = .ok (.putfield 32, 3) := by decide +kernel
theorem d_MQ_init_66 : decode b_MQ_init 66 = .ok (.aload_n 0, 1) := by decide +kernel
theorem d_MQ_init_67 : decode b_MQ_init 67 = .ok (.new 29, 3) := by decide +kernel
theorem d_MQ_init_70 : decode b_MQ_init 70 = .ok (.dup, 1) := by decide +kernel
theorem d_MQ_init_71 : decode b_MQ_init 71 = .ok (.invokespecial 31, 3) := by decide +kernel
theorem d_MQ_init_74 : decode b_MQ_init 74 = .ok (.putfield 36, 3) := by decide +kernel
theorem d_MQ_init_77 : decode b_MQ_init 77 = .ok (.return_, 1) := by decide +kernel
theorem d_MQ_put_0 : decode b_MQ_put 0 = .ok (.aload_n 0, 1) := by decide +kernel
theorem d_MQ_put_1 : decode b_MQ_put 1 = .ok (.iload_n 1, 1) := by decide +kernel
theorem d_MQ_put_2 : decode b_MQ_put 2 = .ok (.invokevirtual 39, 3) := by decide +kernel
theorem d_MQ_put_5 : decode b_MQ_put 5 = .ok (.ifCond .eq 24, 3) := by decide +kernel
theorem d_MQ_put_8 : decode b_MQ_put 8 = .ok (.iload_n 2, 1) := by decide +kernel
theorem d_MQ_put_9 : decode b_MQ_put 9 = .ok (.ifCond .lt 20, 3) := by decide +kernel
theorem d_MQ_put_12 : decode b_MQ_put 12 = .ok (.iload_n 2, 1) := by decide +kernel
theorem d_MQ_put_13 : decode b_MQ_put 13 = .ok (.iconst 4, 1) := by decide +kernel
theorem d_MQ_put_14 : decode b_MQ_put 14 = .ok (.if_icmp .ge 15, 3) := by decide +kernel
theorem d_MQ_put_17 : decode b_MQ_put 17 = .ok (.iload 5, 2) := by decide +kernel
theorem d_MQ_put_19 : decode b_MQ_put 19 = .ok (.ifCond .lt 10, 3) := by decide +kernel
theorem d_MQ_put_22 : decode b_MQ_put 22 = .ok (.iload 5, 2) := by decide +kernel
theorem d_MQ_put_24 : decode b_MQ_put 24 = .ok (.bipush 9, 2) := by decide +kernel
theorem d_MQ_put_26 : decode b_MQ_put 26 = .ok (.if_icmp .le 6, 3) := by decide +kernel
theorem d_MQ_put_29 : decode b_MQ_put 29 = .ok (.bipush (-2), 2) := by decide +kernel
theorem d_MQ_put_31 : decode b_MQ_put 31 = .ok (.ireturn, 1) := by decide +kernel
theorem d_MQ_put_32 : decode b_MQ_put 32 = .ok (.aload_n 0, 1) := by decide +kernel
theorem d_MQ_put_33 : decode b_MQ_put 33 = .ok (.getfield 24, 3) := by decide +kernel
theorem d_MQ_put_36 : decode b_MQ_put 36 = .ok (.iload_n 1, 1) := by decide +kernel
theorem d_MQ_put_37 : decode b_MQ_put 37 = .ok (.aaload, 1) := by decide +kernel
theorem d_MQ_put_38 : decode b_MQ_put 38 = .ok (.astore 6, 2) := by decide +kernel
theorem d_MQ_put_40 : decode b_MQ_put 40 = .ok (.aload 6, 2) := by decide +kernel
theorem d_MQ_put_42 : decode b_MQ_put 42 = .ok (.iload_n 2, 1) := by decide +kernel
theorem d_MQ_put_43 : decode b_MQ_put 43 = .ok (.invokevirtual 43, 3) := by decide +kernel
theorem d_MQ_put_46 : decode b_MQ_put 46 = .ok (.ifCond .ne 6, 3) := by decide +kernel
theorem d_MQ_put_49 : decode b_MQ_put 49 = .ok (.bipush (-3), 2) := by decide +kernel
theorem d_MQ_put_51 : decode b_MQ_put 51 = .ok (.ireturn, 1) := by decide +kernel
theorem d_MQ_put_52 : decode b_MQ_put 52 = .ok (.aload 6, 2) := by decide +kernel
theorem d_MQ_put_54 : decode b_MQ_put 54 = .ok (.invokevirtual 46, 3) := by decide +kernel
theorem d_MQ_put_57 : decode b_MQ_put 57 = .ok (.ifCond .eq 16, 3) := by decide +kernel
theorem d_MQ_put_60 : decode b_MQ_put 60 = .ok (.aload 6, 2) := by decide +kernel
theorem d_MQ_put_62 : decode b_MQ_put 62 = .ok (.getfield 50, 3) := by decide +kernel
theorem d_MQ_put_65 : decode b_MQ_put 65 = .ok (.iload 5, 2) := by decide +kernel
theorem d_MQ_put_67 : decode b_MQ_put 67 = .ok (.if_icmp .eq 6, 3) := by decide +kernel
theorem d_MQ_put_70 : decode b_MQ_put 70 = .ok (.bipush (-5), 2) := by decide +kernel
theorem d_MQ_put_72 : decode b_MQ_put 72 = .ok (.ireturn, 1) := by decide +kernel
theorem d_MQ_put_73 : decode b_MQ_put 73 = .ok (.aload_n 0, 1) := by decide +kernel
theorem d_MQ_put_74 : decode b_MQ_put 74 = .ok (.invokevirtual 53, 3) := by decide +kernel
theorem d_MQ_put_77 : decode b_MQ_put 77 = .ok (.aload_n 0, 1) := by decide +kernel
theorem d_MQ_put_78 : decode b_MQ_put 78 = .ok (.getfield 18, 3) := by decide +kernel
theorem d_MQ_put_81 : decode b_MQ_put 81 = .ok (.if_icmp .lt 5, 3) := by decide +kernel
theorem d_MQ_put_84 : decode b_MQ_put 84 = .ok (.iconst (-1), 1) := by decide +kernel
theorem d_MQ_put_85 : decode b_MQ_put 85 = .ok (.ireturn, 1) := by decide +kernel
theorem d_MQ_put_86 : decode b_MQ_put 86 = .ok (.aload 6, 2) := by decide +kernel
theorem d_MQ_put_88 : decode b_MQ_put 88 = .ok (.aload_n 0, 1) := by decide +kernel
theorem d_MQ_put_89 : decode b_MQ_put 89 = .ok (.getfield 57, 3) := by decide +kernel
theorem d_MQ_put_92 : decode b_MQ_put 92 = .ok (.invokevirtual 61, 3) := by decide +kernel
theorem d_MQ_put_95 : decode b_MQ_put 95 = .ok (.aload 6, 2) := by decide +kernel
theorem d_MQ_put_97 : decode b_MQ_put 97 = .ok (.iload_n 2, 1) := by decide +kernel
theorem d_MQ_put_98 : decode b_MQ_put 98 = .ok (.lload_n 3, 1) := by decide +kernel
theorem d_MQ_put_99 : decode b_MQ_put 99 = .ok (.iload 5, 2) := by decide +kernel
theorem d_MQ_put_101 : decode b_MQ_put 101 = .ok (.invokevirtual 65, 3) := by decide +kernel
theorem d_MQ_put_104 : decode b_MQ_put 104 = .ok (.istore 7, 2) := by decide +kernel
theorem d_MQ_put_106 : decode b_MQ_put 106 = .ok (.aload_n 0, 1) := by decide +kernel
theorem d_MQ_put_107 : decode b_MQ_put 107 = .ok (.invokevirtual 69, 3) := by decide +kernel
theorem d_MQ_put_110 : decode b_MQ_put 110 = .ok (.iload 7, 2) := by decide +kernel
theorem d_MQ_put_112 : decode b_MQ_put 112 = .ok (.ireturn, 1) := by decide +kernel
theorem d_MQ_isQueue_0 : decode b_MQ_isQueue 0 = .ok (.iload_n 1, 1) := by decide +kernel
theorem d_MQ_isQueue_1 : decode b_MQ_isQueue 1 = .ok (.ifCond .lt 16, 3) := by decide +kernel
theorem d_MQ_isQueue_4 : decode b_MQ_isQueue 4 = .ok (.iload_n 1, 1) := by decide +kernel
theorem d_MQ_isQueue_5 : decode b_MQ_isQueue 5 = .ok (.aload_n 0, 1) := by decide +kernel
theorem d_MQ_isQueue_6 : decode b_MQ_isQueue 6 = .ok (.getfield 24, 3) := by decide +kernel
theorem d_MQ_isQueue_9 : decode b_MQ_isQueue 9 = .ok (.arraylength, 1) := by decide +kernel
theorem d_MQ_isQueue_10 : decode b_MQ_isQueue 10 = .ok (.if_icmp .ge 7, 3) := by decide +kernel
theorem d_MQ_isQueue_13 : decode b_MQ_isQueue 13 = .ok (.iconst 1, 1) := by decide +kernel
theorem d_MQ_isQueue_14 : decode b_MQ_isQueue 14 = .ok (.goto 4, 3) := by decide +kernel
theorem d_MQ_isQueue_17 : decode b_MQ_isQueue 17 = .ok (.iconst 0, 1) := by decide +kernel
theorem d_MQ_isQueue_18 : decode b_MQ_isQueue 18 = .ok (.ireturn, 1) := by decide +kernel
theorem d_MQ_allItems_0 : decode b_MQ_allItems 0 = .ok (.iconst 0, 1) := by decide +kernel
theorem d_MQ_allItems_1 : decode b_MQ_allItems 1 = .ok (.istore_n 1, 1) := by decide +kernel
theorem d_MQ_allItems_2 : decode b_MQ_allItems 2 = .ok (.iconst 0, 1) := by decide +kernel
theorem d_MQ_allItems_3 : decode b_MQ_allItems 3 = .ok (.istore_n 2, 1) := by decide +kernel
theorem d_MQ_allItems_4 : decode b_MQ_allItems 4 = .ok (.iload_n 2, 1) := by decide +kernel
theorem d_MQ_allItems_5 : decode b_MQ_allItems 5 = .ok (.aload_n 0, 1) := by decide +kernel
theorem d_MQ_allItems_6 : decode b_MQ_allItems 6 = .ok (.getfield 24, 3) := by decide +kernel
theorem d_MQ_allItems_9 : decode b_MQ_allItems 9 = .ok (.arraylength, 1) := by decide +kernel
theorem d_MQ_allItems_10 : decode b_MQ_allItems 10 = .ok (.if_icmp .ge 24, 3) := by decide +kernel
theorem d_MQ_allItems_13 : decode b_MQ_allItems 13 = .ok (.iload_n 1, 1) := by decide +kernel
theorem d_MQ_allItems_14 : decode b_MQ_allItems 14 = .ok (.aload_n 0, 1) := by decide +kernel
theorem d_MQ_allItems_15 : decode b_MQ_allItems 15 = .ok (.getfield 24, 3) := by decide +kernel
theorem d_MQ_allItems_18 : decode b_MQ_allItems 18 = .ok (.iload_n 2, 1) := by decide +kernel
theorem d_MQ_allItems_19 : decode b_MQ_allItems 19 = .ok (.aaload, 1) := by decide +kernel
theorem d_MQ_allItems_20 : decode b_MQ_allItems 20 = .ok (.getfield 87, 3) := by decide +kernel
theorem d_MQ_allItems_23 : decode b_MQ_allItems 23 = .ok (.invokevirtual 151, 3) := by decide +kernel
theorem d_MQ_allItems_26 : decode b_MQ_allItems 26 = .ok (.iadd, 1) := by decide +kernel
theorem d_MQ_allItems_27 : decode b_MQ_allItems 27 = .ok (.istore_n 1, 1) := by decide +kernel
theorem d_MQ_allItems_28 : decode b_MQ_allItems 28 = .ok (.iinc 2 1, 3) := by decide +kernel
theorem d_MQ_allItems_31 : decode b_MQ_allItems 31 = .ok (.goto (-27), 3) := by decide +kernel
theorem d_MQ_allItems_34 : decode b_MQ_allItems 34 = .ok (.iload_n 1, 1) := by decide +kernel
theorem d_MQ_allItems_35 : decode b_MQ_allItems 35 = .ok (.ireturn, 1) := by decide +kernel
theorem d_MQ_lookAtTriggers_0 : decode b_MQ_lookAtTriggers 0 = .ok (.iconst 0, 1) := by decide +kernel
theorem d_MQ_lookAtTriggers_1 : decode b_MQ_lookAtTriggers 1 = .ok (.istore_n 1, 1) := by decide +kernel
theorem d_MQ_lookAtTriggers_2 : decode b_MQ_lookAtTriggers 2 = .ok (.iload_n 1, 1) := by decide +kernel
theorem d_MQ_lookAtTriggers_3 : decode b_MQ_lookAtTriggers 3 = .ok (.aload_n 0, 1) := by decide +kernel
theorem d_MQ_lookAtTriggers_4 : decode b_MQ_lookAtTriggers 4 = .ok (.getfield 24, 3) := by decide +kernel
theorem d_MQ_lookAtTriggers_7 : decode b_MQ_lookAtTriggers 7 = .ok (.arraylength, 1) := by decide +kernel
theorem d_MQ_lookAtTriggers_8 : decode b_MQ_lookAtTriggers 8 = .ok (.if_icmp .ge 37, 3) := by decide +kernel
theorem d_MQ_lookAtTriggers_11 : decode b_MQ_lookAtTriggers 11 = .ok (.aload_n 0, 1) := by decide +kernel
theorem d_MQ_lookAtTriggers_12 : decode b_MQ_lookAtTriggers 12 = .ok (.getfield 24, 3) := by decide +kernel
theorem d_MQ_lookAtTriggers_15 : decode b_MQ_lookAtTriggers 15 = .ok (.iload_n 1, 1) := by decide +kernel
theorem d_MQ_lookAtTriggers_16 : decode b_MQ_lookAtTriggers 16 = .ok (.aaload, 1) := by decide +kernel
theorem d_MQ_lookAtTriggers_17 : decode b_MQ_lookAtTriggers 17 = .ok (.getfield 128, 3) := by decide +kernel
theorem d_MQ_lookAtTriggers_20 : decode b_MQ_lookAtTriggers 20 = .ok (.astore_n 2, 1) := by decide +kernel
theorem d_MQ_lookAtTriggers_21 : decode b_MQ_lookAtTriggers 21 = .ok (.aload_n 2, 1) := by decide +kernel
theorem d_MQ_lookAtTriggers_22 : decode b_MQ_lookAtTriggers 22 = .ok (.ifnull 17, 3) := by decide +kernel
theorem d_MQ_lookAtTriggers_25 : decode b_MQ_lookAtTriggers 25 = .ok (.aload_n 0, 1) := by decide +kernel
theorem d_MQ_lookAtTriggers_26 : decode b_MQ_lookAtTriggers 26 = .ok (.aload_n 2, 1) := by decide +kernel
theorem d_MQ_lookAtTriggers_27 : decode b_MQ_lookAtTriggers 27 = .ok (.aload_n 0, 1) := by decide +kernel
theorem d_MQ_lookAtTriggers_28 : decode b_MQ_lookAtTriggers 28 = .ok (.getfield 24, 3) := by decide +kernel
theorem d_MQ_lookAtTriggers_31 : decode b_MQ_lookAtTriggers 31 = .ok (.iload_n 1, 1) := by decide +kernel
theorem d_MQ_lookAtTriggers_32 : decode b_MQ_lookAtTriggers 32 = .ok (.aaload, 1) := by decide +kernel
theorem d_MQ_lookAtTriggers_33 : decode b_MQ_lookAtTriggers 33 = .ok (.invokevirtual 117, 3) := by decide +kernel
theorem d_MQ_lookAtTriggers_36 : decode b_MQ_lookAtTriggers 36 = .ok (.invokevirtual 205, 3) := by decide +kernel
theorem d_MQ_lookAtTriggers_39 : decode b_MQ_lookAtTriggers 39 = .ok (.iinc 1 1, 3) := by decide +kernel
theorem d_MQ_lookAtTriggers_42 : decode b_MQ_lookAtTriggers 42 = .ok (.goto (-40), 3) := by decide +kernel
theorem d_MQ_lookAtTriggers_45 : decode b_MQ_lookAtTriggers 45 = .ok (.return_, 1) := by decide +kernel
theorem d_MQ_look_0 : decode b_MQ_look 0 = .ok (.iload_n 2, 1) := by decide +kernel
theorem d_MQ_look_1 : decode b_MQ_look 1 = .ok (.aload_n 1, 1) := by decide +kernel
theorem d_MQ_look_2 : decode b_MQ_look 2 = .ok (.getfield 209, 3) := by decide +kernel
theorem d_MQ_look_5 : decode b_MQ_look 5 = .ok (.if_icmp .ge 11, 3) := by decide +kernel
theorem d_MQ_look_8 : decode b_MQ_look 8 = .ok (.aload_n 1, 1) := by decide +kernel
theorem d_MQ_look_9 : decode b_MQ_look 9 = .ok (.iconst 1, 1) := by decide +kernel
theorem d_MQ_look_10 : decode b_MQ_look 10 = .ok (.putfield 212, 3) := by decide +kernel
theorem d_MQ_look_13 : decode b_MQ_look 13 = .ok (.goto 28, 3) := by decide +kernel
theorem d_MQ_look_16 : decode b_MQ_look 16 = .ok (.aload_n 1, 1) := by decide +kernel
theorem d_MQ_look_17 : decode b_MQ_look 17 = .ok (.getfield 212, 3) := by decide +kernel
theorem d_MQ_look_20 : decode b_MQ_look 20 = .ok (.ifCond .eq 21, 3) := by decide +kernel
theorem d_MQ_look_23 : decode b_MQ_look 23 = .ok (.aload_n 1, 1) := by decide +kernel
theorem d_MQ_look_24 : decode b_MQ_look 24 = .ok (.getfield 199, 3) := by decide +kernel
theorem d_MQ_look_27 : decode b_MQ_look 27 = .ok (.ifCond .ne 14, 3) := by decide +kernel
theorem d_MQ_look_30 : decode b_MQ_look 30 = .ok (.aload_n 0, 1) := by decide +kernel
theorem d_MQ_look_31 : decode b_MQ_look 31 = .ok (.aload_n 1, 1) := by decide +kernel
theorem d_MQ_look_32 : decode b_MQ_look 32 = .ok (.invokevirtual 215, 3) := by decide +kernel
theorem d_MQ_look_35 : decode b_MQ_look 35 = .ok (.pop, 1) := by decide +kernel
theorem d_MQ_look_36 : decode b_MQ_look 36 = .ok (.aload_n 1, 1) := by decide +kernel
theorem d_MQ_look_37 : decode b_MQ_look 37 = .ok (.iconst 0, 1) := by decide +kernel
theorem d_MQ_look_38 : decode b_MQ_look 38 = .ok (.putfield 212, 3) := by decide +kernel
theorem d_MQ_look_41 : decode b_MQ_look 41 = .ok (.return_, 1) := by decide +kernel
theorem d_MQ_beginFor_0 : decode b_MQ_beginFor 0 = .ok (.aload_n 1, 1) := by decide +kernel
theorem d_MQ_beginFor_1 : decode b_MQ_beginFor 1 = .ok (.aload_n 0, 1) := by decide +kernel
theorem d_MQ_beginFor_2 : decode b_MQ_beginFor 2 = .ok (.aload_n 1, 1) := by decide +kernel
theorem d_MQ_beginFor_3 : decode b_MQ_beginFor 3 = .ok (.getfield 195, 3) := by decide +kernel
theorem d_MQ_beginFor_6 : decode b_MQ_beginFor 6 = .ok (.invokevirtual 196, 3) := by decide +kernel
theorem d_MQ_beginFor_9 : decode b_MQ_beginFor 9 = .ok (.putfield 199, 3) := by decide +kernel
theorem d_MQ_beginFor_12 : decode b_MQ_beginFor 12 = .ok (.aload_n 1, 1) := by decide +kernel
theorem d_MQ_beginFor_13 : decode b_MQ_beginFor 13 = .ok (.iconst 0, 1) := by decide +kernel
theorem d_MQ_beginFor_14 : decode b_MQ_beginFor 14 = .ok (.putfield 202, 3) := by decide +kernel
theorem d_MQ_beginFor_17 : decode b_MQ_beginFor 17 = .ok (.aload_n 1, 1) := by decide +kernel
theorem d_MQ_beginFor_18 : decode b_MQ_beginFor 18 = .ok (.getfield 199, 3) := by decide +kernel
theorem d_MQ_beginFor_21 : decode b_MQ_beginFor 21 = .ok (.ireturn, 1) := by decide +kernel
theorem d_MQ_begin_0 : decode b_MQ_begin 0 = .ok (.aload_n 0, 1) := by decide +kernel
theorem d_MQ_begin_1 : decode b_MQ_begin 1 = .ok (.getfield 32, 3) := by decide +kernel
theorem d_MQ_begin_4 : decode b_MQ_begin 4 = .ok (.new 135, 3) := by decide +kernel
theorem d_MQ_begin_7 : decode b_MQ_begin 7 = .ok (.dup, 1) := by decide +kernel
theorem d_MQ_begin_8 : decode b_MQ_begin 8 = .ok (.iload_n 1, 1) := by decide +kernel
theorem d_MQ_begin_9 : decode b_MQ_begin 9 = .ok (.invokespecial 188, 3) := by decide +kernel
theorem d_MQ_begin_12 : decode b_MQ_begin 12 = .ok (.invokevirtual 191, 3) := by decide +kernel
theorem d_MQ_begin_15 : decode b_MQ_begin 15 = .ok (.pop, 1) := by decide +kernel
theorem d_MQ_begin_16 : decode b_MQ_begin 16 = .ok (.aload_n 0, 1) := by decide +kernel
theorem d_MQ_begin_17 : decode b_MQ_begin 17 = .ok (.dup, 1) := by decide +kernel
theorem d_MQ_begin_18 : decode b_MQ_begin 18 = .ok (.getfield 144, 3) := by decide +kernel
theorem d_MQ_begin_21 : decode b_MQ_begin 21 = .ok (.iconst 1, 1) := by decide +kernel
theorem d_MQ_begin_22 : decode b_MQ_begin 22 = .ok (.iadd, 1) := by decide +kernel
theorem d_MQ_begin_23 : decode b_MQ_begin 23 = .ok (.putfield 144, 3) := by decide +kernel
theorem d_MQ_begin_26 : decode b_MQ_begin 26 = .ok (.aload_n 0, 1) := by decide +kernel
theorem d_MQ_begin_27 : decode b_MQ_begin 27 = .ok (.getfield 32, 3) := by decide +kernel
theorem d_MQ_begin_30 : decode b_MQ_begin 30 = .ok (.invokevirtual 151, 3) := by decide +kernel
theorem d_MQ_begin_33 : decode b_MQ_begin 33 = .ok (.ireturn, 1) := by decide +kernel
theorem d_MQ_next_0 : decode b_MQ_next 0 = .ok (.aload_n 0, 1) := by decide +kernel
theorem d_MQ_next_1 : decode b_MQ_next 1 = .ok (.iload_n 1, 1) := by decide +kernel
theorem d_MQ_next_2 : decode b_MQ_next 2 = .ok (.invokevirtual 39, 3) := by decide +kernel
theorem d_MQ_next_5 : decode b_MQ_next 5 = .ok (.ifCond .eq 13, 3) := by decide +kernel
theorem d_MQ_next_8 : decode b_MQ_next 8 = .ok (.iload_n 2, 1) := by decide +kernel
theorem d_MQ_next_9 : decode b_MQ_next 9 = .ok (.ifCond .lt 9, 3) := by decide +kernel
theorem d_MQ_next_12 : decode b_MQ_next 12 = .ok (.iload_n 2, 1) := by decide +kernel
theorem d_MQ_next_13 : decode b_MQ_next 13 = .ok (.bipush 8, 2) := by decide +kernel
theorem d_MQ_next_15 : decode b_MQ_next 15 = .ok (.if_icmp .lt 6, 3) := by decide +kernel
theorem d_MQ_next_18 : decode b_MQ_next 18 = .ok (.bipush (-2), 2) := by decide +kernel
theorem d_MQ_next_20 : decode b_MQ_next 20 = .ok (.ireturn, 1) := by decide +kernel
theorem d_MQ_next_21 : decode b_MQ_next 21 = .ok (.aload_n 0, 1) := by decide +kernel
theorem d_MQ_next_22 : decode b_MQ_next 22 = .ok (.getfield 24, 3) := by decide +kernel
theorem d_MQ_next_25 : decode b_MQ_next 25 = .ok (.iload_n 1, 1) := by decide +kernel
theorem d_MQ_next_26 : decode b_MQ_next 26 = .ok (.aaload, 1) := by decide +kernel
theorem d_MQ_next_27 : decode b_MQ_next 27 = .ok (.astore_n 3, 1) := by decide +kernel
theorem d_MQ_next_28 : decode b_MQ_next 28 = .ok (.aload_n 3, 1) := by decide +kernel
theorem d_MQ_next_29 : decode b_MQ_next 29 = .ok (.invokevirtual 107, 3) := by decide +kernel
theorem d_MQ_next_32 : decode b_MQ_next 32 = .ok (.ifCond .eq 6, 3) := by decide +kernel
theorem d_MQ_next_35 : decode b_MQ_next 35 = .ok (.bipush (-3), 2) := by decide +kernel
theorem d_MQ_next_37 : decode b_MQ_next 37 = .ok (.ireturn, 1) := by decide +kernel
theorem d_MQ_next_38 : decode b_MQ_next 38 = .ok (.aload_n 3, 1) := by decide +kernel
theorem d_MQ_next_39 : decode b_MQ_next 39 = .ok (.getfield 110, 3) := by decide +kernel
theorem d_MQ_next_42 : decode b_MQ_next 42 = .ok (.iload_n 2, 1) := by decide +kernel
theorem d_MQ_next_43 : decode b_MQ_next 43 = .ok (.iaload, 1) := by decide +kernel
theorem d_MQ_next_44 : decode b_MQ_next 44 = .ok (.iconst 1, 1) := by decide +kernel
theorem d_MQ_next_45 : decode b_MQ_next 45 = .ok (.iadd, 1) := by decide +kernel
theorem d_MQ_next_46 : decode b_MQ_next 46 = .ok (.istore 4, 2) := by decide +kernel
theorem d_MQ_next_48 : decode b_MQ_next 48 = .ok (.aload_n 3, 1) := by decide +kernel
theorem d_MQ_next_49 : decode b_MQ_next 49 = .ok (.iload 4, 2) := by decide +kernel
theorem d_MQ_next_51 : decode b_MQ_next 51 = .ok (.invokevirtual 82, 3) := by decide +kernel
theorem d_MQ_next_54 : decode b_MQ_next 54 = .ok (.ifCond .ne 6, 3) := by decide +kernel
theorem d_MQ_next_57 : decode b_MQ_next 57 = .ok (.bipush (-4), 2) := by decide +kernel
theorem d_MQ_next_59 : decode b_MQ_next 59 = .ok (.ireturn, 1) := by decide +kernel
theorem d_MQ_next_60 : decode b_MQ_next 60 = .ok (.aload_n 3, 1) := by decide +kernel
theorem d_MQ_next_61 : decode b_MQ_next 61 = .ok (.getfield 110, 3) := by decide +kernel
theorem d_MQ_next_64 : decode b_MQ_next 64 = .ok (.iload_n 2, 1) := by decide +kernel
theorem d_MQ_next_65 : decode b_MQ_next 65 = .ok (.iload 4, 2) := by decide +kernel
theorem d_MQ_next_67 : decode b_MQ_next 67 = .ok (.iastore, 1) := by decide +kernel
theorem d_MQ_next_68 : decode b_MQ_next 68 = .ok (.aload_n 3, 1) := by decide +kernel
theorem d_MQ_next_69 : decode b_MQ_next 69 = .ok (.aload_n 0, 1) := by decide +kernel
theorem d_MQ_next_70 : decode b_MQ_next 70 = .ok (.getfield 57, 3) := by decide +kernel
theorem d_MQ_next_73 : decode b_MQ_next 73 = .ok (.invokevirtual 61, 3) := by decide +kernel
theorem d_MQ_next_76 : decode b_MQ_next 76 = .ok (.iload 4, 2) := by decide +kernel
theorem d_MQ_next_78 : decode b_MQ_next 78 = .ok (.ireturn, 1) := by decide +kernel
theorem d_MQ_take_0 : decode b_MQ_take 0 = .ok (.aload_n 0, 1) := by decide +kernel
theorem d_MQ_take_1 : decode b_MQ_take 1 = .ok (.iload_n 1, 1) := by decide +kernel
theorem d_MQ_take_2 : decode b_MQ_take 2 = .ok (.invokevirtual 39, 3) := by decide +kernel
theorem d_MQ_take_5 : decode b_MQ_take 5 = .ok (.ifCond .ne 6, 3) := by decide +kernel
theorem d_MQ_take_8 : decode b_MQ_take 8 = .ok (.bipush (-2), 2) := by decide +kernel
theorem d_MQ_take_10 : decode b_MQ_take 10 = .ok (.ireturn, 1) := by decide +kernel
theorem d_MQ_take_11 : decode b_MQ_take 11 = .ok (.aload_n 0, 1) := by decide +kernel
theorem d_MQ_take_12 : decode b_MQ_take 12 = .ok (.getfield 24, 3) := by decide +kernel
theorem d_MQ_take_15 : decode b_MQ_take 15 = .ok (.iload_n 1, 1) := by decide +kernel
theorem d_MQ_take_16 : decode b_MQ_take 16 = .ok (.aaload, 1) := by decide +kernel
theorem d_MQ_take_17 : decode b_MQ_take 17 = .ok (.astore_n 2, 1) := by decide +kernel
theorem d_MQ_take_18 : decode b_MQ_take 18 = .ok (.aload_n 2, 1) := by decide +kernel
theorem d_MQ_take_19 : decode b_MQ_take 19 = .ok (.invokevirtual 79, 3) := by decide +kernel
theorem d_MQ_take_22 : decode b_MQ_take 22 = .ok (.ifCond .eq 6, 3) := by decide +kernel
theorem d_MQ_take_25 : decode b_MQ_take 25 = .ok (.bipush (-3), 2) := by decide +kernel
theorem d_MQ_take_27 : decode b_MQ_take 27 = .ok (.ireturn, 1) := by decide +kernel
theorem d_MQ_take_28 : decode b_MQ_take 28 = .ok (.aload_n 2, 1) := by decide +kernel
theorem d_MQ_take_29 : decode b_MQ_take 29 = .ok (.getfield 87, 3) := by decide +kernel
theorem d_MQ_take_32 : decode b_MQ_take 32 = .ok (.invokevirtual 114, 3) := by decide +kernel
theorem d_MQ_take_35 : decode b_MQ_take 35 = .ok (.ifCond .eq 6, 3) := by decide +kernel
theorem d_MQ_take_38 : decode b_MQ_take 38 = .ok (.bipush (-4), 2) := by decide +kernel
theorem d_MQ_take_40 : decode b_MQ_take 40 = .ok (.ireturn, 1) := by decide +kernel
theorem d_MQ_take_41 : decode b_MQ_take 41 = .ok (.aload_n 2, 1) := by decide +kernel
theorem d_MQ_take_42 : decode b_MQ_take 42 = .ok (.invokevirtual 117, 3) := by decide +kernel
theorem d_MQ_take_45 : decode b_MQ_take 45 = .ok (.ifCond .ne 6, 3) := by decide +kernel
theorem d_MQ_take_48 : decode b_MQ_take 48 = .ok (.bipush (-5), 2) := by decide +kernel
theorem d_MQ_take_50 : decode b_MQ_take 50 = .ok (.ireturn, 1) := by decide +kernel
theorem d_MQ_take_51 : decode b_MQ_take 51 = .ok (.aload_n 2, 1) := by decide +kernel
theorem d_MQ_take_52 : decode b_MQ_take 52 = .ok (.invokevirtual 120, 3) := by decide +kernel
theorem d_MQ_take_55 : decode b_MQ_take 55 = .ok (.istore_n 3, 1) := by decide +kernel
theorem d_MQ_take_56 : decode b_MQ_take 56 = .ok (.aload_n 0, 1) := by decide +kernel
theorem d_MQ_take_57 : decode b_MQ_take 57 = .ok (.invokevirtual 69, 3) := by decide +kernel
theorem d_MQ_take_60 : decode b_MQ_take 60 = .ok (.iload_n 3, 1) := by decide +kernel
theorem d_MQ_take_61 : decode b_MQ_take 61 = .ok (.ireturn, 1) := by decide +kernel
theorem d_MQ_trigger_0 : decode b_MQ_trigger 0 = .ok (.aload_n 0, 1) := by decide +kernel
theorem d_MQ_trigger_1 : decode b_MQ_trigger 1 = .ok (.iload_n 1, 1) := by decide +kernel
theorem d_MQ_trigger_2 : decode b_MQ_trigger 2 = .ok (.invokevirtual 39, 3) := by decide +kernel
theorem d_MQ_trigger_5 : decode b_MQ_trigger 5 = .ok (.ifCond .eq 14, 3) := by decide +kernel
theorem d_MQ_trigger_8 : decode b_MQ_trigger 8 = .ok (.iload_n 2, 1) := by decide +kernel
theorem d_MQ_trigger_9 : decode b_MQ_trigger 9 = .ok (.ifCond .lt 10, 3) := by decide +kernel
theorem d_MQ_trigger_12 : decode b_MQ_trigger 12 = .ok (.iload_n 2, 1) := by decide +kernel
theorem d_MQ_trigger_13 : decode b_MQ_trigger 13 = .ok (.sipush 4096, 3) := by decide +kernel
theorem d_MQ_trigger_16 : decode b_MQ_trigger 16 = .ok (.if_icmp .le 6, 3) := by decide +kernel
theorem d_MQ_trigger_19 : decode b_MQ_trigger 19 = .ok (.bipush (-2), 2) := by decide +kernel
theorem d_MQ_trigger_21 : decode b_MQ_trigger 21 = .ok (.ireturn, 1) := by decide +kernel
theorem d_MQ_trigger_22 : decode b_MQ_trigger 22 = .ok (.aload_n 0, 1) := by decide +kernel
theorem d_MQ_trigger_23 : decode b_MQ_trigger 23 = .ok (.getfield 24, 3) := by decide +kernel
theorem d_MQ_trigger_26 : decode b_MQ_trigger 26 = .ok (.iload_n 1, 1) := by decide +kernel
theorem d_MQ_trigger_27 : decode b_MQ_trigger 27 = .ok (.aaload, 1) := by decide +kernel
theorem d_MQ_trigger_28 : decode b_MQ_trigger 28 = .ok (.astore 4, 2) := by decide +kernel
theorem d_MQ_trigger_30 : decode b_MQ_trigger 30 = .ok (.aload 4, 2) := by decide +kernel
theorem d_MQ_trigger_32 : decode b_MQ_trigger 32 = .ok (.invokevirtual 79, 3) := by decide +kernel
theorem d_MQ_trigger_35 : decode b_MQ_trigger 35 = .ok (.ifCond .eq 6, 3) := by decide +kernel
theorem d_MQ_trigger_38 : decode b_MQ_trigger 38 = .ok (.bipush (-3), 2) := by decide +kernel
theorem d_MQ_trigger_40 : decode b_MQ_trigger 40 = .ok (.ireturn, 1) := by decide +kernel
theorem d_MQ_trigger_41 : decode b_MQ_trigger 41 = .ok (.aload 4, 2) := by decide +kernel
theorem d_MQ_trigger_43 : decode b_MQ_trigger 43 = .ok (.iload_n 2, 1) := by decide +kernel
theorem d_MQ_trigger_44 : decode b_MQ_trigger 44 = .ok (.ifCond .ne 7, 3) := by decide +kernel
theorem d_MQ_trigger_47 : decode b_MQ_trigger 47 = .ok (.aconst_null, 1) := by decide +kernel
theorem d_MQ_trigger_48 : decode b_MQ_trigger 48 = .ok (.goto 12, 3) := by decide +kernel
theorem d_MQ_trigger_51 : decode b_MQ_trigger 51 = .ok (.new 123, 3) := by decide +kernel
theorem d_MQ_trigger_54 : decode b_MQ_trigger 54 = .ok (.dup, 1) := by decide +kernel
theorem d_MQ_trigger_55 : decode b_MQ_trigger 55 = .ok (.iload_n 2, 1) := by decide +kernel
theorem d_MQ_trigger_56 : decode b_MQ_trigger 56 = .ok (.iload_n 3, 1) := by decide +kernel
theorem d_MQ_trigger_57 : decode b_MQ_trigger 57 = .ok (.invokespecial 125, 3) := by decide +kernel
theorem d_MQ_trigger_60 : decode b_MQ_trigger 60 = .ok (.putfield 128, 3) := by decide +kernel
theorem d_MQ_trigger_63 : decode b_MQ_trigger 63 = .ok (.aload_n 0, 1) := by decide +kernel
theorem d_MQ_trigger_64 : decode b_MQ_trigger 64 = .ok (.invokevirtual 69, 3) := by decide +kernel
theorem d_MQ_trigger_67 : decode b_MQ_trigger 67 = .ok (.iconst 1, 1) := by decide +kernel
theorem d_MQ_trigger_68 : decode b_MQ_trigger 68 = .ok (.ireturn, 1) := by decide +kernel
theorem d_MQ_started_0 : decode b_MQ_started 0 = .ok (.aload_n 0, 1) := by decide +kernel
theorem d_MQ_started_1 : decode b_MQ_started 1 = .ok (.iload_n 1, 1) := by decide +kernel
theorem d_MQ_started_2 : decode b_MQ_started 2 = .ok (.invokevirtual 132, 3) := by decide +kernel
theorem d_MQ_started_5 : decode b_MQ_started 5 = .ok (.ifCond .eq 22, 3) := by decide +kernel
theorem d_MQ_started_8 : decode b_MQ_started 8 = .ok (.aload_n 0, 1) := by decide +kernel
theorem d_MQ_started_9 : decode b_MQ_started 9 = .ok (.getfield 32, 3) := by decide +kernel
theorem d_MQ_started_12 : decode b_MQ_started 12 = .ok (.iload_n 1, 1) := by decide +kernel
theorem d_MQ_started_13 : decode b_MQ_started 13 = .ok (.iconst 1, 1) := by decide +kernel
theorem d_MQ_started_14 : decode b_MQ_started 14 = .ok (.isub, 1) := by decide +kernel
theorem d_MQ_started_15 : decode b_MQ_started 15 = .ok (.invokevirtual 90, 3) := by decide +kernel
theorem d_MQ_started_18 : decode b_MQ_started 18 = .ok (.checkcast 135, 3) := by decide +kernel
theorem d_MQ_started_21 : decode b_MQ_started 21 = .ok (.getfield 137, 3) := by decide +kernel
theorem d_MQ_started_24 : decode b_MQ_started 24 = .ok (.goto 4, 3) := by decide +kernel
theorem d_MQ_started_27 : decode b_MQ_started 27 = .ok (.iconst 0, 1) := by decide +kernel
theorem d_MQ_started_28 : decode b_MQ_started 28 = .ok (.ireturn, 1) := by decide +kernel
theorem d_MQ_isTask_0 : decode b_MQ_isTask 0 = .ok (.iload_n 1, 1) := by decide +kernel
theorem d_MQ_isTask_1 : decode b_MQ_isTask 1 = .ok (.iconst 1, 1) := by decide +kernel
theorem d_MQ_isTask_2 : decode b_MQ_isTask 2 = .ok (.if_icmp .lt 18, 3) := by decide +kernel
theorem d_MQ_isTask_5 : decode b_MQ_isTask 5 = .ok (.iload_n 1, 1) := by decide +kernel
theorem d_MQ_isTask_6 : decode b_MQ_isTask 6 = .ok (.aload_n 0, 1) := by decide +kernel
theorem d_MQ_isTask_7 : decode b_MQ_isTask 7 = .ok (.getfield 32, 3) := by decide +kernel
theorem d_MQ_isTask_10 : decode b_MQ_isTask 10 = .ok (.invokevirtual 151, 3) := by decide +kernel
theorem d_MQ_isTask_13 : decode b_MQ_isTask 13 = .ok (.if_icmp .gt 7, 3) := by decide +kernel
theorem d_MQ_isTask_16 : decode b_MQ_isTask 16 = .ok (.iconst 1, 1) := by decide +kernel
theorem d_MQ_isTask_17 : decode b_MQ_isTask 17 = .ok (.goto 4, 3) := by decide +kernel
theorem d_MQ_isTask_20 : decode b_MQ_isTask 20 = .ok (.iconst 0, 1) := by decide +kernel
theorem d_MQ_isTask_21 : decode b_MQ_isTask 21 = .ok (.ireturn, 1) := by decide +kernel
theorem d_MQ_end_0 : decode b_MQ_end 0 = .ok (.aload_n 0, 1) := by decide +kernel
theorem d_MQ_end_1 : decode b_MQ_end 1 = .ok (.iload_n 1, 1) := by decide +kernel
theorem d_MQ_end_2 : decode b_MQ_end 2 = .ok (.invokevirtual 132, 3) := by decide +kernel
theorem d_MQ_end_5 : decode b_MQ_end 5 = .ok (.ifCond .ne 6, 3) := by decide +kernel
theorem d_MQ_end_8 : decode b_MQ_end 8 = .ok (.bipush (-4), 2) := by decide +kernel
theorem d_MQ_end_10 : decode b_MQ_end 10 = .ok (.ireturn, 1) := by decide +kernel
theorem d_MQ_end_11 : decode b_MQ_end 11 = .ok (.aload_n 0, 1) := by decide +kernel
theorem d_MQ_end_12 : decode b_MQ_end 12 = .ok (.getfield 32, 3) := by decide +kernel
theorem d_MQ_end_15 : decode b_MQ_end 15 = .ok (.iload_n 1, 1) := by decide +kernel
theorem d_MQ_end_16 : decode b_MQ_end 16 = .ok (.iconst 1, 1) := by decide +kernel
theorem d_MQ_end_17 : decode b_MQ_end 17 = .ok (.isub, 1) := by decide +kernel
theorem d_MQ_end_18 : decode b_MQ_end 18 = .ok (.invokevirtual 90, 3) := by decide +kernel
theorem d_MQ_end_21 : decode b_MQ_end 21 = .ok (.checkcast 135, 3) := by decide +kernel
theorem d_MQ_end_24 : decode b_MQ_end 24 = .ok (.astore_n 2, 1) := by decide +kernel
theorem d_MQ_end_25 : decode b_MQ_end 25 = .ok (.aload_n 2, 1) := by decide +kernel
theorem d_MQ_end_26 : decode b_MQ_end 26 = .ok (.getfield 140, 3) := by decide +kernel
theorem d_MQ_end_29 : decode b_MQ_end 29 = .ok (.ifCond .ne 6, 3) := by decide +kernel
theorem d_MQ_end_32 : decode b_MQ_end 32 = .ok (.bipush (-4), 2) := by decide +kernel
theorem d_MQ_end_34 : decode b_MQ_end 34 = .ok (.ireturn, 1) := by decide +kernel
theorem d_MQ_end_35 : decode b_MQ_end 35 = .ok (.aload_n 2, 1) := by decide +kernel
theorem d_MQ_end_36 : decode b_MQ_end 36 = .ok (.iconst 0, 1) := by decide +kernel
theorem d_MQ_end_37 : decode b_MQ_end 37 = .ok (.putfield 140, 3) := by decide +kernel
theorem d_MQ_end_40 : decode b_MQ_end 40 = .ok (.aload_n 0, 1) := by decide +kernel
theorem d_MQ_end_41 : decode b_MQ_end 41 = .ok (.dup, 1) := by decide +kernel
theorem d_MQ_end_42 : decode b_MQ_end 42 = .ok (.getfield 144, 3) := by decide +kernel
theorem d_MQ_end_45 : decode b_MQ_end 45 = .ok (.iconst 1, 1) := by decide +kernel
theorem d_MQ_end_46 : decode b_MQ_end 46 = .ok (.isub, 1) := by decide +kernel
theorem d_MQ_end_47 : decode b_MQ_end 47 = .ok (.putfield 144, 3) := by decide +kernel
theorem d_MQ_end_50 : decode b_MQ_end 50 = .ok (.aload_n 0, 1) := by decide +kernel
theorem d_MQ_end_51 : decode b_MQ_end 51 = .ok (.iload_n 1, 1) := by decide +kernel
theorem d_MQ_end_52 : decode b_MQ_end 52 = .ok (.invokevirtual 147, 3) := by decide +kernel
theorem d_MQ_end_55 : decode b_MQ_end 55 = .ok (.istore_n 3, 1) := by decide +kernel
theorem d_MQ_end_56 : decode b_MQ_end 56 = .ok (.aload_n 0, 1) := by decide +kernel
theorem d_MQ_end_57 : decode b_MQ_end 57 = .ok (.invokevirtual 69, 3) := by decide +kernel
theorem d_MQ_end_60 : decode b_MQ_end 60 = .ok (.iload_n 3, 1) := by decide +kernel
theorem d_MQ_end_61 : decode b_MQ_end 61 = .ok (.ireturn, 1) := by decide +kernel
theorem d_MQ_beginAgain_0 : decode b_MQ_beginAgain 0 = .ok (.iconst 0, 1) := by decide +kernel
theorem d_MQ_beginAgain_1 : decode b_MQ_beginAgain 1 = .ok (.istore_n 2, 1) := by decide +kernel
theorem d_MQ_beginAgain_2 : decode b_MQ_beginAgain 2 = .ok (.iload_n 2, 1) := by decide +kernel
theorem d_MQ_beginAgain_3 : decode b_MQ_beginAgain 3 = .ok (.aload_n 0, 1) := by decide +kernel
theorem d_MQ_beginAgain_4 : decode b_MQ_beginAgain 4 = .ok (.getfield 24, 3) := by decide +kernel
theorem d_MQ_beginAgain_7 : decode b_MQ_beginAgain 7 = .ok (.arraylength, 1) := by decide +kernel
theorem d_MQ_beginAgain_8 : decode b_MQ_beginAgain 8 = .ok (.if_icmp .ge 77, 3) := by decide +kernel
theorem d_MQ_beginAgain_11 : decode b_MQ_beginAgain 11 = .ok (.aload_n 0, 1) := by decide +kernel
theorem d_MQ_beginAgain_12 : decode b_MQ_beginAgain 12 = .ok (.getfield 24, 3) := by decide +kernel
theorem d_MQ_beginAgain_15 : decode b_MQ_beginAgain 15 = .ok (.iload_n 2, 1) := by decide +kernel
theorem d_MQ_beginAgain_16 : decode b_MQ_beginAgain 16 = .ok (.aaload, 1) := by decide +kernel
theorem d_MQ_beginAgain_17 : decode b_MQ_beginAgain 17 = .ok (.getfield 128, 3) := by decide +kernel
theorem d_MQ_beginAgain_20 : decode b_MQ_beginAgain 20 = .ok (.astore_n 3, 1) := by decide +kernel
theorem d_MQ_beginAgain_21 : decode b_MQ_beginAgain 21 = .ok (.aload_n 3, 1) := by decide +kernel
theorem d_MQ_beginAgain_22 : decode b_MQ_beginAgain 22 = .ok (.ifnull 57, 3) := by decide +kernel
theorem d_MQ_beginAgain_25 : decode b_MQ_beginAgain 25 = .ok (.aload_n 3, 1) := by decide +kernel
theorem d_MQ_beginAgain_26 : decode b_MQ_beginAgain 26 = .ok (.getfield 199, 3) := by decide +kernel
theorem d_MQ_beginAgain_29 : decode b_MQ_beginAgain 29 = .ok (.iload_n 1, 1) := by decide +kernel
theorem d_MQ_beginAgain_30 : decode b_MQ_beginAgain 30 = .ok (.if_icmp .ne 49, 3) := by decide +kernel
theorem d_MQ_beginAgain_33 : decode b_MQ_beginAgain 33 = .ok (.aload_n 3, 1) := by decide +kernel
theorem d_MQ_beginAgain_34 : decode b_MQ_beginAgain 34 = .ok (.iconst 0, 1) := by decide +kernel
theorem d_MQ_beginAgain_35 : decode b_MQ_beginAgain 35 = .ok (.putfield 199, 3) := by decide +kernel
theorem d_MQ_beginAgain_38 : decode b_MQ_beginAgain 38 = .ok (.aload_n 3, 1) := by decide +kernel
theorem d_MQ_beginAgain_39 : decode b_MQ_beginAgain 39 = .ok (.getfield 202, 3) := by decide +kernel
theorem d_MQ_beginAgain_42 : decode b_MQ_beginAgain 42 = .ok (.ifCond .ne 19, 3) := by decide +kernel
theorem d_MQ_beginAgain_45 : decode b_MQ_beginAgain 45 = .ok (.aload_n 0, 1) := by decide +kernel
theorem d_MQ_beginAgain_46 : decode b_MQ_beginAgain 46 = .ok (.getfield 24, 3) := by decide +kernel
theorem d_MQ_beginAgain_49 : decode b_MQ_beginAgain 49 = .ok (.iload_n 2, 1) := by decide +kernel
theorem d_MQ_beginAgain_50 : decode b_MQ_beginAgain 50 = .ok (.aaload, 1) := by decide +kernel
theorem d_MQ_beginAgain_51 : decode b_MQ_beginAgain 51 = .ok (.invokevirtual 117, 3) := by decide +kernel
theorem d_MQ_beginAgain_54 : decode b_MQ_beginAgain 54 = .ok (.ifCond .le 7, 3) := by decide +kernel
theorem d_MQ_beginAgain_57 : decode b_MQ_beginAgain 57 = .ok (.iconst 1, 1) := by decide +kernel
theorem d_MQ_beginAgain_58 : decode b_MQ_beginAgain 58 = .ok (.goto 4, 3) := by decide +kernel
theorem d_MQ_beginAgain_61 : decode b_MQ_beginAgain 61 = .ok (.iconst 0, 1) := by decide +kernel
theorem d_MQ_beginAgain_62 : decode b_MQ_beginAgain 62 = .ok (.istore 4, 2) := by decide +kernel
theorem d_MQ_beginAgain_64 : decode b_MQ_beginAgain 64 = .ok (.iload 4, 2) := by decide +kernel
theorem d_MQ_beginAgain_66 : decode b_MQ_beginAgain 66 = .ok (.ifCond .eq 11, 3) := by decide +kernel
theorem d_MQ_beginAgain_69 : decode b_MQ_beginAgain 69 = .ok (.aload_n 0, 1) := by decide +kernel
theorem d_MQ_beginAgain_70 : decode b_MQ_beginAgain 70 = .ok (.aload_n 3, 1) := by decide +kernel
theorem d_MQ_beginAgain_71 : decode b_MQ_beginAgain 71 = .ok (.invokevirtual 215, 3) := by decide +kernel
theorem d_MQ_beginAgain_74 : decode b_MQ_beginAgain 74 = .ok (.goto 4, 3) := by decide +kernel
theorem d_MQ_beginAgain_77 : decode b_MQ_beginAgain 77 = .ok (.iconst 0, 1) := by decide +kernel
theorem d_MQ_beginAgain_78 : decode b_MQ_beginAgain 78 = .ok (.ireturn, 1) := by decide +kernel
theorem d_MQ_beginAgain_79 : decode b_MQ_beginAgain 79 = .ok (.iinc 2 1, 3) := by decide +kernel
theorem d_MQ_beginAgain_82 : decode b_MQ_beginAgain 82 = .ok (.goto (-80), 3) := by decide +kernel
theorem d_MQ_beginAgain_85 : decode b_MQ_beginAgain 85 = .ok (.iconst 0, 1) := by decide +kernel
theorem d_MQ_beginAgain_86 : decode b_MQ_beginAgain 86 = .ok (.ireturn, 1) := by decide +kernel
theorem d_MQ_rewrite_0 : decode b_MQ_rewrite 0 = .ok (.aload_n 0, 1) := by decide +kernel
theorem d_MQ_rewrite_1 : decode b_MQ_rewrite 1 = .ok (.iload_n 1, 1) := by decide +kernel
theorem d_MQ_rewrite_2 : decode b_MQ_rewrite 2 = .ok (.invokevirtual 39, 3) := by decide +kernel
theorem d_MQ_rewrite_5 : decode b_MQ_rewrite 5 = .ok (.ifCond .ne 6, 3) := by decide +kernel
theorem d_MQ_rewrite_8 : decode b_MQ_rewrite 8 = .ok (.bipush (-2), 2) := by decide +kernel
theorem d_MQ_rewrite_10 : decode b_MQ_rewrite 10 = .ok (.ireturn, 1) := by decide +kernel
theorem d_MQ_rewrite_11 : decode b_MQ_rewrite 11 = .ok (.aload_n 0, 1) := by decide +kernel
theorem d_MQ_rewrite_12 : decode b_MQ_rewrite 12 = .ok (.getfield 24, 3) := by decide +kernel
theorem d_MQ_rewrite_15 : decode b_MQ_rewrite 15 = .ok (.iload_n 1, 1) := by decide +kernel
theorem d_MQ_rewrite_16 : decode b_MQ_rewrite 16 = .ok (.aaload, 1) := by decide +kernel
theorem d_MQ_rewrite_17 : decode b_MQ_rewrite 17 = .ok (.astore 5, 2) := by decide +kernel
theorem d_MQ_rewrite_19 : decode b_MQ_rewrite 19 = .ok (.aload 5, 2) := by decide +kernel
theorem d_MQ_rewrite_21 : decode b_MQ_rewrite 21 = .ok (.invokevirtual 107, 3) := by decide +kernel
theorem d_MQ_rewrite_24 : decode b_MQ_rewrite 24 = .ok (.ifCond .eq 6, 3) := by decide +kernel
theorem d_MQ_rewrite_27 : decode b_MQ_rewrite 27 = .ok (.bipush (-3), 2) := by decide +kernel
theorem d_MQ_rewrite_29 : decode b_MQ_rewrite 29 = .ok (.ireturn, 1) := by decide +kernel
theorem d_MQ_rewrite_30 : decode b_MQ_rewrite 30 = .ok (.aload 5, 2) := by decide +kernel
theorem d_MQ_rewrite_32 : decode b_MQ_rewrite 32 = .ok (.iload_n 2, 1) := by decide +kernel
theorem d_MQ_rewrite_33 : decode b_MQ_rewrite 33 = .ok (.invokevirtual 82, 3) := by decide +kernel
theorem d_MQ_rewrite_36 : decode b_MQ_rewrite 36 = .ok (.ifCond .ne 6, 3) := by decide +kernel
theorem d_MQ_rewrite_39 : decode b_MQ_rewrite 39 = .ok (.bipush (-4), 2) := by decide +kernel
theorem d_MQ_rewrite_41 : decode b_MQ_rewrite 41 = .ok (.ireturn, 1) := by decide +kernel
theorem d_MQ_rewrite_42 : decode b_MQ_rewrite 42 = .ok (.aload 5, 2) := by decide +kernel
theorem d_MQ_rewrite_44 : decode b_MQ_rewrite 44 = .ok (.getfield 87, 3) := by decide +kernel
theorem d_MQ_rewrite_47 : decode b_MQ_rewrite 47 = .ok (.iload_n 2, 1) := by decide +kernel
theorem d_MQ_rewrite_48 : decode b_MQ_rewrite 48 = .ok (.iconst 1, 1) := by decide +kernel
theorem d_MQ_rewrite_49 : decode b_MQ_rewrite 49 = .ok (.isub, 1) := by decide +kernel
theorem d_MQ_rewrite_50 : decode b_MQ_rewrite 50 = .ok (.invokevirtual 90, 3) := by decide +kernel
theorem d_MQ_rewrite_53 : decode b_MQ_rewrite 53 = .ok (.checkcast 94, 3) := by decide +kernel
theorem d_MQ_rewrite_56 : decode b_MQ_rewrite 56 = .ok (.lload_n 3, 1) := by decide +kernel
theorem d_MQ_rewrite_57 : decode b_MQ_rewrite 57 = .ok (.putfield 96, 3) := by decide +kernel
theorem d_MQ_rewrite_60 : decode b_MQ_rewrite 60 = .ok (.aload 5, 2) := by decide +kernel
theorem d_MQ_rewrite_62 : decode b_MQ_rewrite 62 = .ok (.aload_n 0, 1) := by decide +kernel
theorem d_MQ_rewrite_63 : decode b_MQ_rewrite 63 = .ok (.getfield 57, 3) := by decide +kernel
theorem d_MQ_rewrite_66 : decode b_MQ_rewrite 66 = .ok (.invokevirtual 61, 3) := by decide +kernel
theorem d_MQ_rewrite_69 : decode b_MQ_rewrite 69 = .ok (.iconst 1, 1) := by decide +kernel
theorem d_MQ_rewrite_70 : decode b_MQ_rewrite 70 = .ok (.ireturn, 1) := by decide +kernel
theorem d_MQ_delay_0 : decode b_MQ_delay 0 = .ok (.aload_n 0, 1) := by decide +kernel
theorem d_MQ_delay_1 : decode b_MQ_delay 1 = .ok (.getfield 36, 3) := by decide +kernel
theorem d_MQ_delay_4 : decode b_MQ_delay 4 = .ok (.invokevirtual 151, 3) := by decide +kernel
theorem d_MQ_delay_7 : decode b_MQ_delay 7 = .ok (.sipush 200, 3) := by decide +kernel
theorem d_MQ_delay_10 : decode b_MQ_delay 10 = .ok (.if_icmp .lt 5, 3) := by decide +kernel
theorem d_MQ_delay_13 : decode b_MQ_delay 13 = .ok (.iconst (-1), 1) := by decide +kernel
theorem d_MQ_delay_14 : decode b_MQ_delay 14 = .ok (.ireturn, 1) := by decide +kernel
theorem d_MQ_delay_15 : decode b_MQ_delay 15 = .ok (.aload_n 0, 1) := by decide +kernel
theorem d_MQ_delay_16 : decode b_MQ_delay 16 = .ok (.dup, 1) := by decide +kernel
theorem d_MQ_delay_17 : decode b_MQ_delay 17 = .ok (.getfield 154, 3) := by decide +kernel
theorem d_MQ_delay_20 : decode b_MQ_delay 20 = .ok (.iconst 1, 1) := by decide +kernel
theorem d_MQ_delay_21 : decode b_MQ_delay 21 = .ok (.iadd, 1) := by decide +kernel
theorem d_MQ_delay_22 : decode b_MQ_delay 22 = .ok (.putfield 154, 3) := by decide +kernel
theorem d_MQ_delay_25 : decode b_MQ_delay 25 = .ok (.aload_n 0, 1) := by decide +kernel
theorem d_MQ_delay_26 : decode b_MQ_delay 26 = .ok (.new 157, 3) := by decide +kernel
theorem d_MQ_delay_29 : decode b_MQ_delay 29 = .ok (.dup, 1) := by decide +kernel
theorem d_MQ_delay_30 : decode b_MQ_delay 30 = .ok (.aload_n 0, 1) := by decide +kernel
theorem d_MQ_delay_31 : decode b_MQ_delay 31 = .ok (.getfield 154, 3) := by decide +kernel
theorem d_MQ_delay_34 : decode b_MQ_delay 34 = .ok (.iload_n 1, 1) := by decide +kernel
theorem d_MQ_delay_35 : decode b_MQ_delay 35 = .ok (.lload_n 2, 1) := by decide +kernel
theorem d_MQ_delay_36 : decode b_MQ_delay 36 = .ok (.invokespecial 159, 3) := by decide +kernel
theorem d_MQ_delay_39 : decode b_MQ_delay 39 = .ok (.invokevirtual 162, 3) := by decide +kernel
theorem d_MQ_delay_42 : decode b_MQ_delay 42 = .ok (.aload_n 0, 1) := by decide +kernel
theorem d_MQ_delay_43 : decode b_MQ_delay 43 = .ok (.invokevirtual 166, 3) := by decide +kernel
theorem d_MQ_delay_46 : decode b_MQ_delay 46 = .ok (.pop, 1) := by decide +kernel
theorem d_MQ_delay_47 : decode b_MQ_delay 47 = .ok (.aload_n 0, 1) := by decide +kernel
theorem d_MQ_delay_48 : decode b_MQ_delay 48 = .ok (.getfield 154, 3) := by decide +kernel
theorem d_MQ_delay_51 : decode b_MQ_delay 51 = .ok (.ireturn, 1) := by decide +kernel
theorem d_MQ_keepWaiting_0 : decode b_MQ_keepWaiting 0 = .ok (.aload_n 0, 1) := by decide +kernel
theorem d_MQ_keepWaiting_1 : decode b_MQ_keepWaiting 1 = .ok (.getfield 36, 3) := by decide +kernel
theorem d_MQ_keepWaiting_4 : decode b_MQ_keepWaiting 4 = .ok (.invokevirtual 151, 3) := by decide +kernel
theorem d_MQ_keepWaiting_7 : decode b_MQ_keepWaiting 7 = .ok (.istore_n 2, 1) := by decide +kernel
theorem d_MQ_keepWaiting_8 : decode b_MQ_keepWaiting 8 = .ok (.iload_n 2, 1) := by decide +kernel
theorem d_MQ_keepWaiting_9 : decode b_MQ_keepWaiting 9 = .ok (.ifCond .le 33, 3) := by decide +kernel
theorem d_MQ_keepWaiting_12 : decode b_MQ_keepWaiting 12 = .ok (.aload_n 0, 1) := by decide +kernel
theorem d_MQ_keepWaiting_13 : decode b_MQ_keepWaiting 13 = .ok (.getfield 36, 3) := by decide +kernel
theorem d_MQ_keepWaiting_16 : decode b_MQ_keepWaiting 16 = .ok (.iload_n 2, 1) := by decide +kernel
theorem d_MQ_keepWaiting_17 : decode b_MQ_keepWaiting 17 = .ok (.iconst 1, 1) := by decide +kernel
theorem d_MQ_keepWaiting_18 : decode b_MQ_keepWaiting 18 = .ok (.isub, 1) := by decide +kernel
theorem d_MQ_keepWaiting_19 : decode b_MQ_keepWaiting 19 = .ok (.invokevirtual 90, 3) := by decide +kernel
theorem d_MQ_keepWaiting_22 : decode b_MQ_keepWaiting 22 = .ok (.checkcast 157, 3) := by decide +kernel
theorem d_MQ_keepWaiting_25 : decode b_MQ_keepWaiting 25 = .ok (.getfield 219, 3) := by decide +kernel
theorem d_MQ_keepWaiting_28 : decode b_MQ_keepWaiting 28 = .ok (.aload_n 1, 1) := by decide +kernel
theorem d_MQ_keepWaiting_29 : decode b_MQ_keepWaiting 29 = .ok (.getfield 219, 3) := by decide +kernel
theorem d_MQ_keepWaiting_32 : decode b_MQ_keepWaiting 32 = .ok (.lcmp, 1) := by decide +kernel
theorem d_MQ_keepWaiting_33 : decode b_MQ_keepWaiting 33 = .ok (.ifCond .le 9, 3) := by decide +kernel
theorem d_MQ_keepWaiting_36 : decode b_MQ_keepWaiting 36 = .ok (.iinc 2 (-1), 3) := by decide +kernel
theorem d_MQ_keepWaiting_39 : decode b_MQ_keepWaiting 39 = .ok (.goto (-31), 3) := by decide +kernel
theorem d_MQ_keepWaiting_42 : decode b_MQ_keepWaiting 42 = .ok (.aload_n 0, 1) := by decide +kernel
theorem d_MQ_keepWaiting_43 : decode b_MQ_keepWaiting 43 = .ok (.getfield 36, 3) := by decide +kernel
theorem d_MQ_keepWaiting_46 : decode b_MQ_keepWaiting 46 = .ok (.iload_n 2, 1) := by decide +kernel
theorem d_MQ_keepWaiting_47 : decode b_MQ_keepWaiting 47 = .ok (.aload_n 1, 1) := by decide +kernel
theorem d_MQ_keepWaiting_48 : decode b_MQ_keepWaiting 48 = .ok (.invokevirtual 222, 3) := by decide +kernel
theorem d_MQ_keepWaiting_51 : decode b_MQ_keepWaiting 51 = .ok (.return_, 1) := by decide +kernel
theorem d_MQ_postDue_0 : decode b_MQ_postDue 0 = .ok (.iconst 0, 1) := by decide +kernel
theorem d_MQ_postDue_1 : decode b_MQ_postDue 1 = .ok (.istore_n 1, 1) := by decide +kernel
theorem d_MQ_postDue_2 : decode b_MQ_postDue 2 = .ok (.iload_n 1, 1) := by decide +kernel
theorem d_MQ_postDue_3 : decode b_MQ_postDue 3 = .ok (.sipush 200, 3) := by decide +kernel
theorem d_MQ_postDue_6 : decode b_MQ_postDue 6 = .ok (.if_icmp .ge 60, 3) := by decide +kernel
theorem d_MQ_postDue_9 : decode b_MQ_postDue 9 = .ok (.aload_n 0, 1) := by decide +kernel
theorem d_MQ_postDue_10 : decode b_MQ_postDue 10 = .ok (.getfield 36, 3) := by decide +kernel
theorem d_MQ_postDue_13 : decode b_MQ_postDue 13 = .ok (.invokevirtual 114, 3) := by decide +kernel
theorem d_MQ_postDue_16 : decode b_MQ_postDue 16 = .ok (.ifCond .ne 50, 3) := by decide +kernel
theorem d_MQ_postDue_19 : decode b_MQ_postDue 19 = .ok (.aload_n 0, 1) := by decide +kernel
theorem d_MQ_postDue_20 : decode b_MQ_postDue 20 = .ok (.getfield 36, 3) := by decide +kernel
theorem d_MQ_postDue_23 : decode b_MQ_postDue 23 = .ok (.iconst 0, 1) := by decide +kernel
theorem d_MQ_postDue_24 : decode b_MQ_postDue 24 = .ok (.invokevirtual 90, 3) := by decide +kernel
theorem d_MQ_postDue_27 : decode b_MQ_postDue 27 = .ok (.checkcast 157, 3) := by decide +kernel
theorem d_MQ_postDue_30 : decode b_MQ_postDue 30 = .ok (.getfield 219, 3) := by decide +kernel
theorem d_MQ_postDue_33 : decode b_MQ_postDue 33 = .ok (.aload_n 0, 1) := by decide +kernel
theorem d_MQ_postDue_34 : decode b_MQ_postDue 34 = .ok (.getfield 57, 3) := by decide +kernel
theorem d_MQ_postDue_37 : decode b_MQ_postDue 37 = .ok (.lcmp, 1) := by decide +kernel
theorem d_MQ_postDue_38 : decode b_MQ_postDue 38 = .ok (.ifCond .gt 28, 3) := by decide +kernel
theorem d_MQ_postDue_41 : decode b_MQ_postDue 41 = .ok (.aload_n 0, 1) := by decide +kernel
theorem d_MQ_postDue_42 : decode b_MQ_postDue 42 = .ok (.aload_n 0, 1) := by decide +kernel
theorem d_MQ_postDue_43 : decode b_MQ_postDue 43 = .ok (.getfield 36, 3) := by decide +kernel
theorem d_MQ_postDue_46 : decode b_MQ_postDue 46 = .ok (.iconst 0, 1) := by decide +kernel
theorem d_MQ_postDue_47 : decode b_MQ_postDue 47 = .ok (.invokevirtual 172, 3) := by decide +kernel
theorem d_MQ_postDue_50 : decode b_MQ_postDue 50 = .ok (.checkcast 157, 3) := by decide +kernel
theorem d_MQ_postDue_53 : decode b_MQ_postDue 53 = .ok (.getfield 225, 3) := by decide +kernel
theorem d_MQ_postDue_56 : decode b_MQ_postDue 56 = .ok (.invokevirtual 196, 3) := by decide +kernel
theorem d_MQ_postDue_59 : decode b_MQ_postDue 59 = .ok (.pop, 1) := by decide +kernel
theorem d_MQ_postDue_60 : decode b_MQ_postDue 60 = .ok (.iinc 1 1, 3) := by decide +kernel
theorem d_MQ_postDue_63 : decode b_MQ_postDue 63 = .ok (.goto (-61), 3) := by decide +kernel
theorem d_MQ_postDue_66 : decode b_MQ_postDue 66 = .ok (.iload_n 1, 1) := by decide +kernel
theorem d_MQ_postDue_67 : decode b_MQ_postDue 67 = .ok (.ireturn, 1) := by decide +kernel
theorem d_MQ_cancel_0 : decode b_MQ_cancel 0 = .ok (.iconst 0, 1) := by decide +kernel
theorem d_MQ_cancel_1 : decode b_MQ_cancel 1 = .ok (.istore_n 2, 1) := by decide +kernel
theorem d_MQ_cancel_2 : decode b_MQ_cancel 2 = .ok (.iload_n 2, 1) := by decide +kernel
theorem d_MQ_cancel_3 : decode b_MQ_cancel 3 = .ok (.aload_n 0, 1) := by decide +kernel
theorem d_MQ_cancel_4 : decode b_MQ_cancel 4 = .ok (.getfield 36, 3) := by decide +kernel
theorem d_MQ_cancel_7 : decode b_MQ_cancel 7 = .ok (.invokevirtual 151, 3) := by decide +kernel
theorem d_MQ_cancel_10 : decode b_MQ_cancel 10 = .ok (.if_icmp .ge 38, 3) := by decide +kernel
theorem d_MQ_cancel_13 : decode b_MQ_cancel 13 = .ok (.aload_n 0, 1) := by decide +kernel
theorem d_MQ_cancel_14 : decode b_MQ_cancel 14 = .ok (.getfield 36, 3) := by decide +kernel
theorem d_MQ_cancel_17 : decode b_MQ_cancel 17 = .ok (.iload_n 2, 1) := by decide +kernel
theorem d_MQ_cancel_18 : decode b_MQ_cancel 18 = .ok (.invokevirtual 90, 3) := by decide +kernel
theorem d_MQ_cancel_21 : decode b_MQ_cancel 21 = .ok (.checkcast 157, 3) := by decide +kernel
theorem d_MQ_cancel_24 : decode b_MQ_cancel 24 = .ok (.getfield 169, 3) := by decide +kernel
theorem d_MQ_cancel_27 : decode b_MQ_cancel 27 = .ok (.iload_n 1, 1) := by decide +kernel
theorem d_MQ_cancel_28 : decode b_MQ_cancel 28 = .ok (.if_icmp .ne 14, 3) := by decide +kernel
theorem d_MQ_cancel_31 : decode b_MQ_cancel 31 = .ok (.aload_n 0, 1) := by decide +kernel
theorem d_MQ_cancel_32 : decode b_MQ_cancel 32 = .ok (.getfield 36, 3) := by decide +kernel
theorem d_MQ_cancel_35 : decode b_MQ_cancel 35 = .ok (.iload_n 2, 1) := by decide +kernel
theorem d_MQ_cancel_36 : decode b_MQ_cancel 36 = .ok (.invokevirtual 172, 3) := by decide +kernel
theorem d_MQ_cancel_39 : decode b_MQ_cancel 39 = .ok (.pop, 1) := by decide +kernel
theorem d_MQ_cancel_40 : decode b_MQ_cancel 40 = .ok (.iconst 1, 1) := by decide +kernel
theorem d_MQ_cancel_41 : decode b_MQ_cancel 41 = .ok (.ireturn, 1) := by decide +kernel
theorem d_MQ_cancel_42 : decode b_MQ_cancel 42 = .ok (.iinc 2 1, 3) := by decide +kernel
theorem d_MQ_cancel_45 : decode b_MQ_cancel 45 = .ok (.goto (-43), 3) := by decide +kernel
theorem d_MQ_cancel_48 : decode b_MQ_cancel 48 = .ok (.iconst 0, 1) := by decide +kernel
theorem d_MQ_cancel_49 : decode b_MQ_cancel 49 = .ok (.ireturn, 1) := by decide +kernel
theorem d_MQ_tick_0 : decode b_MQ_tick 0 = .ok (.lload_n 1, 1) := by decide +kernel
theorem d_MQ_tick_1 : decode b_MQ_tick 1 = .ok (.aload_n 0, 1) := by decide +kernel
theorem d_MQ_tick_2 : decode b_MQ_tick 2 = .ok (.getfield 57, 3) := by decide +kernel
theorem d_MQ_tick_5 : decode b_MQ_tick 5 = .ok (.lcmp, 1) := by decide +kernel
theorem d_MQ_tick_6 : decode b_MQ_tick 6 = .ok (.ifCond .ge 5, 3) := by decide +kernel
theorem d_MQ_tick_9 : decode b_MQ_tick 9 = .ok (.iconst (-1), 1) := by decide +kernel
theorem d_MQ_tick_10 : decode b_MQ_tick 10 = .ok (.ireturn, 1) := by decide +kernel
theorem d_MQ_tick_11 : decode b_MQ_tick 11 = .ok (.aload_n 0, 1) := by decide +kernel
theorem d_MQ_tick_12 : decode b_MQ_tick 12 = .ok (.lload_n 1, 1) := by decide +kernel
theorem d_MQ_tick_13 : decode b_MQ_tick 13 = .ok (.putfield 57, 3) := by decide +kernel
theorem d_MQ_tick_16 : decode b_MQ_tick 16 = .ok (.aload_n 0, 1) := by decide +kernel
theorem d_MQ_tick_17 : decode b_MQ_tick 17 = .ok (.invokevirtual 166, 3) := by decide +kernel
theorem d_MQ_tick_20 : decode b_MQ_tick 20 = .ok (.ireturn, 1) := by decide +kernel
theorem d_MQ_unit_0 : decode b_MQ_unit 0 = .ok (.iload_n 1, 1) := by decide +kernel
theorem d_MQ_unit_1 : decode b_MQ_unit 1 = .ok (.ifCond .le 9, 3) := by decide +kernel
theorem d_MQ_unit_4 : decode b_MQ_unit 4 = .ok (.iload_n 1, 1) := by decide +kernel
theorem d_MQ_unit_5 : decode b_MQ_unit 5 = .ok (.bipush 9, 2) := by decide +kernel
theorem d_MQ_unit_7 : decode b_MQ_unit 7 = .ok (.if_icmp .le 6, 3) := by decide +kernel
theorem d_MQ_unit_10 : decode b_MQ_unit 10 = .ok (.bipush (-2), 2) := by decide +kernel
theorem d_MQ_unit_12 : decode b_MQ_unit 12 = .ok (.ireturn, 1) := by decide +kernel
theorem d_MQ_unit_13 : decode b_MQ_unit 13 = .ok (.iconst 0, 1) := by decide +kernel
theorem d_MQ_unit_14 : decode b_MQ_unit 14 = .ok (.istore_n 3, 1) := by decide +kernel
theorem d_MQ_unit_15 : decode b_MQ_unit 15 = .ok (.iconst 0, 1) := by decide +kernel
theorem d_MQ_unit_16 : decode b_MQ_unit 16 = .ok (.istore 4, 2) := by decide +kernel
theorem d_MQ_unit_18 : decode b_MQ_unit 18 = .ok (.iload 4, 2) := by decide +kernel
theorem d_MQ_unit_20 : decode b_MQ_unit 20 = .ok (.aload_n 0, 1) := by decide +kernel
theorem d_MQ_unit_21 : decode b_MQ_unit 21 = .ok (.getfield 24, 3) := by decide +kernel
theorem d_MQ_unit_24 : decode b_MQ_unit 24 = .ok (.arraylength, 1) := by decide +kernel
theorem d_MQ_unit_25 : decode b_MQ_unit 25 = .ok (.if_icmp .ge 44, 3) := by decide +kernel
theorem d_MQ_unit_28 : decode b_MQ_unit 28 = .ok (.aload_n 0, 1) := by decide +kernel
theorem d_MQ_unit_29 : decode b_MQ_unit 29 = .ok (.getfield 24, 3) := by decide +kernel
theorem d_MQ_unit_32 : decode b_MQ_unit 32 = .ok (.iload 4, 2) := by decide +kernel
theorem d_MQ_unit_34 : decode b_MQ_unit 34 = .ok (.aaload, 1) := by decide +kernel
theorem d_MQ_unit_35 : decode b_MQ_unit 35 = .ok (.astore 5, 2) := by decide +kernel
theorem d_MQ_unit_37 : decode b_MQ_unit 37 = .ok (.aload 5, 2) := by decide +kernel
theorem d_MQ_unit_39 : decode b_MQ_unit 39 = .ok (.invokevirtual 46, 3) := by decide +kernel
theorem d_MQ_unit_42 : decode b_MQ_unit 42 = .ok (.ifCond .eq 21, 3) := by decide +kernel
theorem d_MQ_unit_45 : decode b_MQ_unit 45 = .ok (.aload 5, 2) := by decide +kernel
theorem d_MQ_unit_47 : decode b_MQ_unit 47 = .ok (.getfield 50, 3) := by decide +kernel
theorem d_MQ_unit_50 : decode b_MQ_unit 50 = .ok (.iload_n 1, 1) := by decide +kernel
theorem d_MQ_unit_51 : decode b_MQ_unit 51 = .ok (.if_icmp .ne 12, 3) := by decide +kernel
theorem d_MQ_unit_54 : decode b_MQ_unit 54 = .ok (.iload_n 3, 1) := by decide +kernel
theorem d_MQ_unit_55 : decode b_MQ_unit 55 = .ok (.aload 5, 2) := by decide +kernel
theorem d_MQ_unit_57 : decode b_MQ_unit 57 = .ok (.iload_n 2, 1) := by decide +kernel
theorem d_MQ_unit_58 : decode b_MQ_unit 58 = .ok (.invokevirtual 175, 3) := by decide +kernel
theorem d_MQ_unit_61 : decode b_MQ_unit 61 = .ok (.iadd, 1) := by decide +kernel
theorem d_MQ_unit_62 : decode b_MQ_unit 62 = .ok (.istore_n 3, 1) := by decide +kernel
theorem d_MQ_unit_63 : decode b_MQ_unit 63 = .ok (.iinc 4 1, 3) := by decide +kernel
theorem d_MQ_unit_66 : decode b_MQ_unit 66 = .ok (.goto (-48), 3) := by decide +kernel
theorem d_MQ_unit_69 : decode b_MQ_unit 69 = .ok (.aload_n 0, 1) := by decide +kernel
theorem d_MQ_unit_70 : decode b_MQ_unit 70 = .ok (.invokevirtual 69, 3) := by decide +kernel
theorem d_MQ_unit_73 : decode b_MQ_unit 73 = .ok (.iload_n 3, 1) := by decide +kernel
theorem d_MQ_unit_74 : decode b_MQ_unit 74 = .ok (.ireturn, 1) := by decide +kernel
theorem d_MQ_age_0 : decode b_MQ_age 0 = .ok (.iconst 0, 1) := by decide +kernel
theorem d_MQ_age_1 : decode b_MQ_age 1 = .ok (.istore_n 3, 1) := by decide +kernel
theorem d_MQ_age_2 : decode b_MQ_age 2 = .ok (.iconst 0, 1) := by decide +kernel
theorem d_MQ_age_3 : decode b_MQ_age 3 = .ok (.istore 4, 2) := by decide +kernel
theorem d_MQ_age_5 : decode b_MQ_age 5 = .ok (.iload 4, 2) := by decide +kernel
theorem d_MQ_age_7 : decode b_MQ_age 7 = .ok (.aload_n 0, 1) := by decide +kernel
theorem d_MQ_age_8 : decode b_MQ_age 8 = .ok (.getfield 24, 3) := by decide +kernel
theorem d_MQ_age_11 : decode b_MQ_age 11 = .ok (.arraylength, 1) := by decide +kernel
theorem d_MQ_age_12 : decode b_MQ_age 12 = .ok (.if_icmp .ge 52, 3) := by decide +kernel
theorem d_MQ_age_15 : decode b_MQ_age 15 = .ok (.aload_n 0, 1) := by decide +kernel
theorem d_MQ_age_16 : decode b_MQ_age 16 = .ok (.getfield 24, 3) := by decide +kernel
theorem d_MQ_age_19 : decode b_MQ_age 19 = .ok (.iload 4, 2) := by decide +kernel
theorem d_MQ_age_21 : decode b_MQ_age 21 = .ok (.aaload, 1) := by decide +kernel
theorem d_MQ_age_22 : decode b_MQ_age 22 = .ok (.astore 5, 2) := by decide +kernel
theorem d_MQ_age_24 : decode b_MQ_age 24 = .ok (.aload 5, 2) := by decide +kernel
theorem d_MQ_age_26 : decode b_MQ_age 26 = .ok (.invokevirtual 79, 3) := by decide +kernel
theorem d_MQ_age_29 : decode b_MQ_age 29 = .ok (.ifCond .eq 29, 3) := by decide +kernel
theorem d_MQ_age_32 : decode b_MQ_age 32 = .ok (.aload 5, 2) := by decide +kernel
theorem d_MQ_age_34 : decode b_MQ_age 34 = .ok (.invokevirtual 46, 3) := by decide +kernel
theorem d_MQ_age_37 : decode b_MQ_age 37 = .ok (.ifCond .ne 21, 3) := by decide +kernel
theorem d_MQ_age_40 : decode b_MQ_age 40 = .ok (.aload 5, 2) := by decide +kernel
theorem d_MQ_age_42 : decode b_MQ_age 42 = .ok (.getfield 179, 3) := by decide +kernel
theorem d_MQ_age_45 : decode b_MQ_age 45 = .ok (.lload_n 1, 1) := by decide +kernel
theorem d_MQ_age_46 : decode b_MQ_age 46 = .ok (.lcmp, 1) := by decide +kernel
theorem d_MQ_age_47 : decode b_MQ_age 47 = .ok (.ifCond .ge 11, 3) := by decide +kernel
theorem d_MQ_age_50 : decode b_MQ_age 50 = .ok (.aload 5, 2) := by decide +kernel
theorem d_MQ_age_52 : decode b_MQ_age 52 = .ok (.invokevirtual 182, 3) := by decide +kernel
theorem d_MQ_age_55 : decode b_MQ_age 55 = .ok (.iinc 3 1, 3) := by decide +kernel
theorem d_MQ_age_58 : decode b_MQ_age 58 = .ok (.iinc 4 1, 3) := by decide +kernel
theorem d_MQ_age_61 : decode b_MQ_age 61 = .ok (.goto (-56), 3) := by decide +kernel
theorem d_MQ_age_64 : decode b_MQ_age 64 = .ok (.iload_n 3, 1) := by decide +kernel
theorem d_MQ_age_65 : decode b_MQ_age 65 = .ok (.ireturn, 1) := by decide +kernel
theorem d_MQ_count_0 : decode b_MQ_count 0 = .ok (.aload_n 0, 1) := by decide +kernel
theorem d_MQ_count_1 : decode b_MQ_count 1 = .ok (.iload_n 1, 1) := by decide +kernel
theorem d_MQ_count_2 : decode b_MQ_count 2 = .ok (.invokevirtual 39, 3) := by decide +kernel
theorem d_MQ_count_5 : decode b_MQ_count 5 = .ok (.ifCond .eq 16, 3) := by decide +kernel
theorem d_MQ_count_8 : decode b_MQ_count 8 = .ok (.aload_n 0, 1) := by decide +kernel
theorem d_MQ_count_9 : decode b_MQ_count 9 = .ok (.getfield 24, 3) := by decide +kernel
theorem d_MQ_count_12 : decode b_MQ_count 12 = .ok (.iload_n 1, 1) := by decide +kernel
theorem d_MQ_count_13 : decode b_MQ_count 13 = .ok (.aaload, 1) := by decide +kernel
theorem d_MQ_count_14 : decode b_MQ_count 14 = .ok (.getfield 87, 3) := by decide +kernel
theorem d_MQ_count_17 : decode b_MQ_count 17 = .ok (.invokevirtual 151, 3) := by decide +kernel
theorem d_MQ_count_20 : decode b_MQ_count 20 = .ok (.ireturn, 1) := by decide +kernel
theorem d_MQ_count_21 : decode b_MQ_count 21 = .ok (.iload_n 1, 1) := by decide +kernel
theorem d_MQ_count_22 : decode b_MQ_count 22 = .ok (.bipush 32, 2) := by decide +kernel
theorem d_MQ_count_24 : decode b_MQ_count 24 = .ok (.if_icmp .lt 27, 3) := by decide +kernel
theorem d_MQ_count_27 : decode b_MQ_count 27 = .ok (.aload_n 0, 1) := by decide +kernel
theorem d_MQ_count_28 : decode b_MQ_count 28 = .ok (.iload_n 1, 1) := by decide +kernel
theorem d_MQ_count_29 : decode b_MQ_count 29 = .ok (.bipush 32, 2) := by decide +kernel
theorem d_MQ_count_31 : decode b_MQ_count 31 = .ok (.isub, 1) := by decide +kernel
theorem d_MQ_count_32 : decode b_MQ_count 32 = .ok (.invokevirtual 39, 3) := by decide +kernel
theorem d_MQ_count_35 : decode b_MQ_count 35 = .ok (.ifCond .eq 16, 3) := by decide +kernel
theorem d_MQ_count_38 : decode b_MQ_count 38 = .ok (.aload_n 0, 1) := by decide +kernel
theorem d_MQ_count_39 : decode b_MQ_count 39 = .ok (.getfield 24, 3) := by decide +kernel
theorem d_MQ_count_42 : decode b_MQ_count 42 = .ok (.iload_n 1, 1) := by decide +kernel
theorem d_MQ_count_43 : decode b_MQ_count 43 = .ok (.bipush 32, 2) := by decide +kernel
theorem d_MQ_count_45 : decode b_MQ_count 45 = .ok (.isub, 1) := by decide +kernel
theorem d_MQ_count_46 : decode b_MQ_count 46 = .ok (.aaload, 1) := by decide +kernel
theorem d_MQ_count_47 : decode b_MQ_count 47 = .ok (.getfield 185, 3) := by decide +kernel
theorem d_MQ_count_50 : decode b_MQ_count 50 = .ok (.ireturn, 1) := by decide +kernel
theorem d_MQ_count_51 : decode b_MQ_count 51 = .ok (.iload_n 1, 1) := by decide +kernel
theorem d_MQ_count_52 : decode b_MQ_count 52 = .ok (.tableswitch 58 64 67 #[32, 37, 45, 50], 32) := by decide +kernel
theorem d_MQ_count_84 : decode b_MQ_count 84 = .ok (.aload_n 0, 1) := by decide +kernel
theorem d_MQ_count_85 : decode b_MQ_count 85 = .ok (.invokevirtual 53, 3) := by decide +kernel
theorem d_MQ_count_88 : decode b_MQ_count 88 = .ok (.ireturn, 1) := by decide +kernel
theorem d_MQ_count_89 : decode b_MQ_count 89 = .ok (.aload_n 0, 1) := by decide +kernel
theorem d_MQ_count_90 : decode b_MQ_count 90 = .ok (.getfield 32, 3) := by decide +kernel
theorem d_MQ_count_93 : decode b_MQ_count 93 = .ok (.invokevirtual 151, 3) := by decide +kernel
theorem d_MQ_count_96 : decode b_MQ_count 96 = .ok (.ireturn, 1) := by decide +kernel
theorem d_MQ_count_97 : decode b_MQ_count 97 = .ok (.aload_n 0, 1) := by decide +kernel
theorem d_MQ_count_98 : decode b_MQ_count 98 = .ok (.getfield 144, 3) := by decide +kernel
theorem d_MQ_count_101 : decode b_MQ_count 101 = .ok (.ireturn, 1) := by decide +kernel
theorem d_MQ_count_102 : decode b_MQ_count 102 = .ok (.aload_n 0, 1) := by decide +kernel
theorem d_MQ_count_103 : decode b_MQ_count 103 = .ok (.getfield 36, 3) := by decide +kernel
theorem d_MQ_count_106 : decode b_MQ_count 106 = .ok (.invokevirtual 151, 3) := by decide +kernel
theorem d_MQ_count_109 : decode b_MQ_count 109 = .ok (.ireturn, 1) := by decide +kernel
theorem d_MQ_count_110 : decode b_MQ_count 110 = .ok (.bipush (-2), 2) := by decide +kernel
theorem d_MQ_count_112 : decode b_MQ_count 112 = .ok (.ireturn, 1) := by decide +kernel
theorem d_MQ_get_0 : decode b_MQ_get 0 = .ok (.aload_n 0, 1) := by decide +kernel
theorem d_MQ_get_1 : decode b_MQ_get 1 = .ok (.iload_n 1, 1) := by decide +kernel
theorem d_MQ_get_2 : decode b_MQ_get 2 = .ok (.invokevirtual 39, 3) := by decide +kernel
theorem d_MQ_get_5 : decode b_MQ_get 5 = .ok (.ifCond .ne 13, 3) := by decide +kernel
theorem d_MQ_get_8 : decode b_MQ_get 8 = .ok (.new 72, 3) := by decide +kernel
theorem d_MQ_get_11 : decode b_MQ_get 11 = .ok (.dup, 1) := by decide +kernel
theorem d_MQ_get_12 : decode b_MQ_get 12 = .ok (.ldc 74, 2) := by decide +kernel
theorem d_MQ_get_14 : decode b_MQ_get 14 = .ok (.invokespecial 76, 3) := by decide +kernel
theorem d_MQ_get_17 : decode b_MQ_get 17 = .ok (.athrow, 1) := by decide +kernel
theorem d_MQ_get_18 : decode b_MQ_get 18 = .ok (.aload_n 0, 1) := by decide +kernel
theorem d_MQ_get_19 : decode b_MQ_get 19 = .ok (.getfield 24, 3) := by decide +kernel
theorem d_MQ_get_22 : decode b_MQ_get 22 = .ok (.iload_n 1, 1) := by decide +kernel
theorem d_MQ_get_23 : decode b_MQ_get 23 = .ok (.aaload, 1) := by decide +kernel
theorem d_MQ_get_24 : decode b_MQ_get 24 = .ok (.astore_n 3, 1) := by decide +kernel
theorem d_MQ_get_25 : decode b_MQ_get 25 = .ok (.aload_n 3, 1) := by decide +kernel
theorem d_MQ_get_26 : decode b_MQ_get 26 = .ok (.invokevirtual 79, 3) := by decide +kernel
theorem d_MQ_get_29 : decode b_MQ_get 29 = .ok (.ifCond .eq 46, 3) := by decide +kernel
theorem d_MQ_get_32 : decode b_MQ_get 32 = .ok (.aload_n 3, 1) := by decide +kernel
theorem d_MQ_get_33 : decode b_MQ_get 33 = .ok (.iload_n 2, 1) := by decide +kernel
theorem d_MQ_get_34 : decode b_MQ_get 34 = .ok (.invokevirtual 82, 3) := by decide +kernel
theorem d_MQ_get_37 : decode b_MQ_get 37 = .ok (.ifCond .ne 13, 3) := by decide +kernel
theorem d_MQ_get_40 : decode b_MQ_get 40 = .ok (.new 72, 3) := by decide +kernel
theorem d_MQ_get_43 : decode b_MQ_get 43 = .ok (.dup, 1) := by decide +kernel
theorem d_MQ_get_44 : decode b_MQ_get 44 = .ok (.ldc 85, 2) := by decide +kernel
theorem d_MQ_get_46 : decode b_MQ_get 46 = .ok (.invokespecial 76, 3) := by decide +kernel
theorem d_MQ_get_49 : decode b_MQ_get 49 = .ok (.athrow, 1) := by decide +kernel
theorem d_MQ_get_50 : decode b_MQ_get 50 = .ok (.aload_n 3, 1) := by decide +kernel
theorem d_MQ_get_51 : decode b_MQ_get 51 = .ok (.aload_n 0, 1) := by decide +kernel
theorem d_MQ_get_52 : decode b_MQ_get 52 = .ok (.getfield 57, 3) := by decide +kernel
theorem d_MQ_get_55 : decode b_MQ_get 55 = .ok (.invokevirtual 61, 3) := by decide +kernel
theorem d_MQ_get_58 : decode b_MQ_get 58 = .ok (.aload_n 3, 1) := by decide +kernel
theorem d_MQ_get_59 : decode b_MQ_get 59 = .ok (.getfield 87, 3) := by decide +kernel
theorem d_MQ_get_62 : decode b_MQ_get 62 = .ok (.iload_n 2, 1) := by decide +kernel
theorem d_MQ_get_63 : decode b_MQ_get 63 = .ok (.iconst 1, 1) := by decide +kernel
theorem d_MQ_get_64 : decode b_MQ_get 64 = .ok (.isub, 1) := by decide +kernel
theorem d_MQ_get_65 : decode b_MQ_get 65 = .ok (.invokevirtual 90, 3) := by decide +kernel
theorem d_MQ_get_68 : decode b_MQ_get 68 = .ok (.checkcast 94, 3) := by decide +kernel
theorem d_MQ_get_71 : decode b_MQ_get 71 = .ok (.getfield 96, 3) := by decide +kernel
theorem d_MQ_get_74 : decode b_MQ_get 74 = .ok (.lreturn, 1) := by decide +kernel
theorem d_MQ_get_75 : decode b_MQ_get 75 = .ok (.aload_n 3, 1) := by decide +kernel
theorem d_MQ_get_76 : decode b_MQ_get 76 = .ok (.getfield 99, 3) := by decide +kernel
theorem d_MQ_get_79 : decode b_MQ_get 79 = .ok (.ifCond .eq 11, 3) := by decide +kernel
theorem d_MQ_get_82 : decode b_MQ_get 82 = .ok (.iload_n 2, 1) := by decide +kernel
theorem d_MQ_get_83 : decode b_MQ_get 83 = .ok (.aload_n 3, 1) := by decide +kernel
theorem d_MQ_get_84 : decode b_MQ_get 84 = .ok (.getfield 99, 3) := by decide +kernel
theorem d_MQ_get_87 : decode b_MQ_get 87 = .ok (.if_icmp .eq 13, 3) := by decide +kernel
theorem d_MQ_get_90 : decode b_MQ_get 90 = .ok (.new 72, 3) := by decide +kernel
theorem d_MQ_get_93 : decode b_MQ_get 93 = .ok (.dup, 1) := by decide +kernel
theorem d_MQ_get_94 : decode b_MQ_get 94 = .ok (.ldc 102, 2) := by decide +kernel
theorem d_MQ_get_96 : decode b_MQ_get 96 = .ok (.invokespecial 76, 3) := by decide +kernel
theorem d_MQ_get_99 : decode b_MQ_get 99 = .ok (.athrow, 1) := by decide +kernel
theorem d_MQ_get_100 : decode b_MQ_get 100 = .ok (.aload_n 3, 1) := by decide +kernel
theorem d_MQ_get_101 : decode b_MQ_get 101 = .ok (.getfield 104, 3) := by decide +kernel
theorem d_MQ_get_104 : decode b_MQ_get 104 = .ok (.lreturn, 1) := by decide +kernel
end
section
theorem d_La_cell_0 : decode b_La_cell 0 = .ok (.iload_n 1, 1) := by decide +kernel
theorem d_La_cell_1 : decode b_La_cell 1 = .ok (.aload_n 0, 1) := by decide +kernel
theorem d_La_cell_2 : decode b_La_cell 2 = .ok (.arraylength, 1) := by decide +kernel
theorem d_La_cell_3 : decode b_La_cell 3 = .ok (.if_icmp .ge 9, 3) := by decide +kernel
theorem d_La_cell_6 : decode b_La_cell 6 = .ok (.aload_n 0, 1) := by decide +kernel
theorem d_La_cell_7 : decode b_La_cell 7 = .ok (.iload_n 1, 1) := by decide +kernel
theorem d_La_cell_8 : decode b_La_cell 8 = .ok (.iaload, 1) := by decide +kernel
theorem d_La_cell_9 : decode b_La_cell 9 = .ok (.goto 4, 3) := by decide +kernel
theorem d_La_cell_12 : decode b_La_cell 12 = .ok (.iconst 0, 1) := by decide +kernel
theorem d_La_cell_13 : decode b_La_cell 13 = .ok (.ireturn, 1) := by decide +kernel
theorem d_La_get_0 : decode b_La_get 0 = .ok (.aload_n 3, 1) := by decide +kernel
theorem d_La_get_1 : decode b_La_get 1 = .ok (.iconst 0, 1) := by decide +kernel
theorem d_La_get_2 : decode b_La_get 2 = .ok (.aload_n 0, 1) := by decide +kernel
theorem d_La_get_3 : decode b_La_get 3 = .ok (.iload_n 1, 1) := by decide +kernel
theorem d_La_get_4 : decode b_La_get 4 = .ok (.iload_n 2, 1) := by decide +kernel
theorem d_La_get_5 : decode b_La_get 5 = .ok (.invokevirtual 7, 3) := by decide +kernel
theorem d_La_get_8 : decode b_La_get 8 = .ok (.lastore, 1) := by decide +kernel
theorem d_La_get_9 : decode b_La_get 9 = .ok (.goto 7, 3) := by decide +kernel
theorem d_La_get_12 : decode b_La_get 12 = .ok (.astore 4, 2) := by decide +kernel
theorem d_La_get_14 : decode b_La_get 14 = .ok (.iconst 1, 1) := by decide +kernel
theorem d_La_get_15 : decode b_La_get 15 = .ok (.ireturn, 1) := by decide +kernel
theorem d_La_get_16 : decode b_La_get 16 = .ok (.iconst 0, 1) := by decide +kernel
theorem d_La_get_17 : decode b_La_get 17 = .ok (.ireturn, 1) := by decide +kernel
end
section
theorem d_La_law_0 : decode code 0 = .ok (.new 8, 3) := by decide +kernel
theorem d_La_law_3 : decode code 3 = .ok (.dup, 1) := by decide +kernel
theorem d_La_law_4 : decode code 4 = .ok (.aload_n 0, 1) := by decide +kernel
theorem d_La_law_5 : decode code 5 = .ok (.iconst 0, 1) := by decide +kernel
theorem d_La_law_6 : decode code 6 = .ok (.invokestatic 15, 3) := by decide +kernel
theorem d_La_law_9 : decode code 9 = .ok (.invokespecial 21, 3) := by decide +kernel
theorem d_La_law_12 : decode code 12 = .ok (.astore_n 1, 1) := by decide +kernel
theorem d_La_law_13 : decode code 13 = .ok (.new 24, 3) := by decide +kernel
theorem d_La_law_16 : decode code 16 = .ok (.dup, 1) := by decide +kernel
theorem d_La_law_17 : decode code 17 = .ok (.aload_n 0, 1) := by decide +kernel
theorem d_La_law_18 : decode code 18 = .ok (.iconst 0, 1) := by decide +kernel
theorem d_La_law_19 : decode code 19 = .ok (.invokestatic 15, 3) := by decide +kernel
theorem d_La_law_22 : decode code 22 = .ok (.invokespecial 26, 3) := by decide +kernel
theorem d_La_law_25 : decode code 25 = .ok (.astore_n 2, 1) := by decide +kernel
theorem d_La_law_26 : decode code 26 = .ok (.iconst 1, 1) := by decide +kernel
theorem d_La_law_27 : decode code 27 = .ok (.newarray .long, 2) := by decide +kernel
theorem d_La_law_29 : decode code 29 = .ok (.astore_n 3, 1) := by decide +kernel
theorem d_La_law_30 : decode code 30 = .ok (.iconst 1, 1) := by decide +kernel
theorem d_La_law_31 : decode code 31 = .ok (.istore 4, 2) := by decide +kernel
theorem d_La_law_33 : decode code 33 = .ok (.iload 4, 2) := by decide +kernel
theorem d_La_law_35 : decode code 35 = .ok (.aload_n 0, 1) := by decide +kernel
theorem d_La_law_36 : decode code 36 = .ok (.arraylength, 1) := by decide +kernel
theorem d_La_law_37 : decode code 37 = .ok (.bipush 6, 2) := by decide +kernel
theorem d_La_law_39 : decode code 39 = .ok (.isub, 1) := by decide +kernel
theorem d_La_law_40 : decode code 40 = .ok (.if_icmp .gt 774, 3) := by decide +kernel
theorem d_La_law_43 : decode code 43 = .ok (.aload_n 0, 1) := by decide +kernel
theorem d_La_law_44 : decode code 44 = .ok (.iload 4, 2) := by decide +kernel
theorem d_La_law_46 : decode code 46 = .ok (.iaload, 1) := by decide +kernel
theorem d_La_law_47 : decode code 47 = .ok (.bipush 15, 2) := by decide +kernel
theorem d_La_law_49 : decode code 49 = .ok (.iand, 1) := by decide +kernel
theorem d_La_law_50 : decode code 50 = .ok (.tableswitch 758 0 13 #[70, 163, 230, 267, 292, 341, 366, 391, 472, 541, 566, 623, 676, 733], 70) := by decide +kernel
theorem d_La_law_120 : decode code 120 = .ok (.aload_n 1, 1) := by decide +kernel
theorem d_La_law_121 : decode code 121 = .ok (.aload_n 0, 1) := by decide +kernel
theorem d_La_law_122 : decode code 122 = .ok (.iload 4, 2) := by decide +kernel
theorem d_La_law_124 : decode code 124 = .ok (.iconst 1, 1) := by decide +kernel
theorem d_La_law_125 : decode code 125 = .ok (.iadd, 1) := by decide +kernel
theorem d_La_law_126 : decode code 126 = .ok (.iaload, 1) := by decide +kernel
theorem d_La_law_127 : decode code 127 = .ok (.aload_n 0, 1) := by decide +kernel
theorem d_La_law_128 : decode code 128 = .ok (.iload 4, 2) := by decide +kernel
theorem d_La_law_130 : decode code 130 = .ok (.iconst 2, 1) := by decide +kernel
theorem d_La_law_131 : decode code 131 = .ok (.iadd, 1) := by decide +kernel
theorem d_La_law_132 : decode code 132 = .ok (.iaload, 1) := by decide +kernel
theorem d_La_law_133 : decode code 133 = .ok (.aload_n 0, 1) := by decide +kernel
theorem d_La_law_134 : decode code 134 = .ok (.iload 4, 2) := by decide +kernel
theorem d_La_law_136 : decode code 136 = .ok (.iconst 3, 1) := by decide +kernel
theorem d_La_law_137 : decode code 137 = .ok (.iadd, 1) := by decide +kernel
theorem d_La_law_138 : decode code 138 = .ok (.iaload, 1) := by decide +kernel
theorem d_La_law_139 : decode code 139 = .ok (.i2l, 1) := by decide +kernel
theorem d_La_law_140 : decode code 140 = .ok (.bipush 32, 2) := by decide +kernel
theorem d_La_law_142 : decode code 142 = .ok (.lshl, 1) := by decide +kernel
theorem d_La_law_143 : decode code 143 = .ok (.aload_n 0, 1) := by decide +kernel
theorem d_La_law_144 : decode code 144 = .ok (.iload 4, 2) := by decide +kernel
theorem d_La_law_146 : decode code 146 = .ok (.iconst 4, 1) := by decide +kernel
theorem d_La_law_147 : decode code 147 = .ok (.iadd, 1) := by decide +kernel
theorem d_La_law_148 : decode code 148 = .ok (.iaload, 1) := by decide +kernel
theorem d_La_law_149 : decode code 149 = .ok (.i2l, 1) := by decide +kernel
theorem d_La_law_150 : decode code 150 = .ok (.ldc2_w 27, 3) := by decide +kernel
theorem d_La_law_153 : decode code 153 = .ok (.land, 1) := by decide +kernel
theorem d_La_law_154 : decode code 154 = .ok (.lor, 1) := by decide +kernel
theorem d_La_law_155 : decode code 155 = .ok (.aload_n 0, 1) := by decide +kernel
theorem d_La_law_156 : decode code 156 = .ok (.iload 4, 2) := by decide +kernel
theorem d_La_law_158 : decode code 158 = .ok (.iconst 5, 1) := by decide +kernel
theorem d_La_law_159 : decode code 159 = .ok (.iadd, 1) := by decide +kernel
theorem d_La_law_160 : decode code 160 = .ok (.iaload, 1) := by decide +kernel
theorem d_La_law_161 : decode code 161 = .ok (.invokevirtual 29, 3) := by decide +kernel
theorem d_La_law_164 : decode code 164 = .ok (.aload_n 2, 1) := by decide +kernel
theorem d_La_law_165 : decode code 165 = .ok (.aload_n 0, 1) := by decide +kernel
theorem d_La_law_166 : decode code 166 = .ok (.iload 4, 2) := by decide +kernel
theorem d_La_law_168 : decode code 168 = .ok (.iconst 1, 1) := by decide +kernel
theorem d_La_law_169 : decode code 169 = .ok (.iadd, 1) := by decide +kernel
theorem d_La_law_170 : decode code 170 = .ok (.iaload, 1) := by decide +kernel
theorem d_La_law_171 : decode code 171 = .ok (.aload_n 0, 1) := by decide +kernel
theorem d_La_law_172 : decode code 172 = .ok (.iload 4, 2) := by decide +kernel
theorem d_La_law_174 : decode code 174 = .ok (.iconst 2, 1) := by decide +kernel
theorem d_La_law_175 : decode code 175 = .ok (.iadd, 1) := by decide +kernel
theorem d_La_law_176 : decode code 176 = .ok (.iaload, 1) := by decide +kernel
theorem d_La_law_177 : decode code 177 = .ok (.aload_n 0, 1) := by decide +kernel
theorem d_La_law_178 : decode code 178 = .ok (.iload 4, 2) := by decide +kernel
theorem d_La_law_180 : decode code 180 = .ok (.iconst 3, 1) := by decide +kernel
theorem d_La_law_181 : decode code 181 = .ok (.iadd, 1) := by decide +kernel
theorem d_La_law_182 : decode code 182 = .ok (.iaload, 1) := by decide +kernel
theorem d_La_law_183 : decode code 183 = .ok (.i2l, 1) := by decide +kernel
theorem d_La_law_184 : decode code 184 = .ok (.bipush 32, 2) := by decide +kernel
theorem d_La_law_186 : decode code 186 = .ok (.lshl, 1) := by decide +kernel
theorem d_La_law_187 : decode code 187 = .ok (.aload_n 0, 1) := by decide +kernel
theorem d_La_law_188 : decode code 188 = .ok (.iload 4, 2) := by decide +kernel
theorem d_La_law_190 : decode code 190 = .ok (.iconst 4, 1) := by decide +kernel
theorem d_La_law_191 : decode code 191 = .ok (.iadd, 1) := by decide +kernel
theorem d_La_law_192 : decode code 192 = .ok (.iaload, 1) := by decide +kernel
theorem d_La_law_193 : decode code 193 = .ok (.i2l, 1) := by decide +kernel
theorem d_La_law_194 : decode code 194 = .ok (.ldc2_w 27, 3) := by decide +kernel
theorem d_La_law_197 : decode code 197 = .ok (.land, 1) := by decide +kernel
theorem d_La_law_198 : decode code 198 = .ok (.lor, 1) := by decide +kernel
theorem d_La_law_199 : decode code 199 = .ok (.aload_n 0, 1) := by decide +kernel
theorem d_La_law_200 : decode code 200 = .ok (.iload 4, 2) := by decide +kernel
theorem d_La_law_202 : decode code 202 = .ok (.iconst 5, 1) := by decide +kernel
theorem d_La_law_203 : decode code 203 = .ok (.iadd, 1) := by decide +kernel
theorem d_La_law_204 : decode code 204 = .ok (.iaload, 1) := by decide +kernel
theorem d_La_law_205 : decode code 205 = .ok (.invokevirtual 33, 3) := by decide +kernel
theorem d_La_law_208 : decode code 208 = .ok (.if_icmp .eq 600, 3) := by decide +kernel
theorem d_La_law_211 : decode code 211 = .ok (.iconst 0, 1) := by decide +kernel
theorem d_La_law_212 : decode code 212 = .ok (.ireturn, 1) := by decide +kernel
theorem d_La_law_213 : decode code 213 = .ok (.aload_n 1, 1) := by decide +kernel
theorem d_La_law_214 : decode code 214 = .ok (.aload_n 0, 1) := by decide +kernel
theorem d_La_law_215 : decode code 215 = .ok (.iload 4, 2) := by decide +kernel
theorem d_La_law_217 : decode code 217 = .ok (.iconst 1, 1) := by decide +kernel
theorem d_La_law_218 : decode code 218 = .ok (.iadd, 1) := by decide +kernel
theorem d_La_law_219 : decode code 219 = .ok (.iaload, 1) := by decide +kernel
theorem d_La_law_220 : decode code 220 = .ok (.aload_n 0, 1) := by decide +kernel
theorem d_La_law_221 : decode code 221 = .ok (.iload 4, 2) := by decide +kernel
theorem d_La_law_223 : decode code 223 = .ok (.iconst 2, 1) := by decide +kernel
theorem d_La_law_224 : decode code 224 = .ok (.iadd, 1) := by decide +kernel
theorem d_La_law_225 : decode code 225 = .ok (.iaload, 1) := by decide +kernel
theorem d_La_law_226 : decode code 226 = .ok (.aload_n 3, 1) := by decide +kernel
theorem d_La_law_227 : decode code 227 = .ok (.invokestatic 34, 3) := by decide +kernel
theorem d_La_law_230 : decode code 230 = .ok (.istore 5, 2) := by decide +kernel
theorem d_La_law_232 : decode code 232 = .ok (.aload_n 2, 1) := by decide +kernel
theorem d_La_law_233 : decode code 233 = .ok (.aload_n 0, 1) := by decide +kernel
theorem d_La_law_234 : decode code 234 = .ok (.iload 4, 2) := by decide +kernel
theorem d_La_law_236 : decode code 236 = .ok (.iconst 1, 1) := by decide +kernel
theorem d_La_law_237 : decode code 237 = .ok (.iadd, 1) := by decide +kernel
theorem d_La_law_238 : decode code 238 = .ok (.iaload, 1) := by decide +kernel
theorem d_La_law_239 : decode code 239 = .ok (.aload_n 0, 1) := by decide +kernel
theorem d_La_law_240 : decode code 240 = .ok (.iload 4, 2) := by decide +kernel
theorem d_La_law_242 : decode code 242 = .ok (.iconst 2, 1) := by decide +kernel
theorem d_La_law_243 : decode code 243 = .ok (.iadd, 1) := by decide +kernel
theorem d_La_law_244 : decode code 244 = .ok (.iaload, 1) := by decide +kernel
theorem d_La_law_245 : decode code 245 = .ok (.invokevirtual 37, 3) := by decide +kernel
theorem d_La_law_248 : decode code 248 = .ok (.lstore 6, 2) := by decide +kernel
theorem d_La_law_250 : decode code 250 = .ok (.aload_n 2, 1) := by decide +kernel
theorem d_La_law_251 : decode code 251 = .ok (.invokevirtual 38, 3) := by decide +kernel
theorem d_La_law_254 : decode code 254 = .ok (.iload 5, 2) := by decide +kernel
end
section
theorem d_La_law_256 : decode code 256 = .ok (.if_icmp .eq 5, 3) := by decide +kernel
theorem d_La_law_259 : decode code 259 = .ok (.iconst 0, 1) := by decide +kernel
theorem d_La_law_260 : decode code 260 = .ok (.ireturn, 1) := by decide +kernel
theorem d_La_law_261 : decode code 261 = .ok (.iload 5, 2) := by decide +kernel
theorem d_La_law_263 : decode code 263 = .ok (.ifCond .ne 14, 3) := by decide +kernel
theorem d_La_law_266 : decode code 266 = .ok (.aload_n 3, 1) := by decide +kernel
theorem d_La_law_267 : decode code 267 = .ok (.iconst 0, 1) := by decide +kernel
theorem d_La_law_268 : decode code 268 = .ok (.laload, 1) := by decide +kernel
theorem d_La_law_269 : decode code 269 = .ok (.lload 6, 2) := by decide +kernel
theorem d_La_law_271 : decode code 271 = .ok (.lcmp, 1) := by decide +kernel
theorem d_La_law_272 : decode code 272 = .ok (.ifCond .eq 5, 3) := by decide +kernel
theorem d_La_law_275 : decode code 275 = .ok (.iconst 0, 1) := by decide +kernel
theorem d_La_law_276 : decode code 276 = .ok (.ireturn, 1) := by decide +kernel
theorem d_La_law_277 : decode code 277 = .ok (.goto 531, 3) := by decide +kernel
theorem d_La_law_280 : decode code 280 = .ok (.aload_n 1, 1) := by decide +kernel
theorem d_La_law_281 : decode code 281 = .ok (.aload_n 0, 1) := by decide +kernel
theorem d_La_law_282 : decode code 282 = .ok (.iload 4, 2) := by decide +kernel
theorem d_La_law_284 : decode code 284 = .ok (.iconst 1, 1) := by decide +kernel
theorem d_La_law_285 : decode code 285 = .ok (.iadd, 1) := by decide +kernel
theorem d_La_law_286 : decode code 286 = .ok (.iaload, 1) := by decide +kernel
theorem d_La_law_287 : decode code 287 = .ok (.aload_n 0, 1) := by decide +kernel
theorem d_La_law_288 : decode code 288 = .ok (.iload 4, 2) := by decide +kernel
theorem d_La_law_290 : decode code 290 = .ok (.iconst 2, 1) := by decide +kernel
theorem d_La_law_291 : decode code 291 = .ok (.iadd, 1) := by decide +kernel
theorem d_La_law_292 : decode code 292 = .ok (.iaload, 1) := by decide +kernel
theorem d_La_law_293 : decode code 293 = .ok (.invokevirtual 42, 3) := by decide +kernel
theorem d_La_law_296 : decode code 296 = .ok (.aload_n 2, 1) := by decide +kernel
theorem d_La_law_297 : decode code 297 = .ok (.aload_n 0, 1) := by decide +kernel
theorem d_La_law_298 : decode code 298 = .ok (.iload 4, 2) := by decide +kernel
theorem d_La_law_300 : decode code 300 = .ok (.iconst 1, 1) := by decide +kernel
theorem d_La_law_301 : decode code 301 = .ok (.iadd, 1) := by decide +kernel
theorem d_La_law_302 : decode code 302 = .ok (.iaload, 1) := by decide +kernel
theorem d_La_law_303 : decode code 303 = .ok (.aload_n 0, 1) := by decide +kernel
theorem d_La_law_304 : decode code 304 = .ok (.iload 4, 2) := by decide +kernel
theorem d_La_law_306 : decode code 306 = .ok (.iconst 2, 1) := by decide +kernel
theorem d_La_law_307 : decode code 307 = .ok (.iadd, 1) := by decide +kernel
theorem d_La_law_308 : decode code 308 = .ok (.iaload, 1) := by decide +kernel
theorem d_La_law_309 : decode code 309 = .ok (.invokevirtual 46, 3) := by decide +kernel
theorem d_La_law_312 : decode code 312 = .ok (.if_icmp .eq 496, 3) := by decide +kernel
theorem d_La_law_315 : decode code 315 = .ok (.iconst 0, 1) := by decide +kernel
theorem d_La_law_316 : decode code 316 = .ok (.ireturn, 1) := by decide +kernel
theorem d_La_law_317 : decode code 317 = .ok (.aload_n 1, 1) := by decide +kernel
theorem d_La_law_318 : decode code 318 = .ok (.aload_n 0, 1) := by decide +kernel
theorem d_La_law_319 : decode code 319 = .ok (.iload 4, 2) := by decide +kernel
theorem d_La_law_321 : decode code 321 = .ok (.iconst 1, 1) := by decide +kernel
theorem d_La_law_322 : decode code 322 = .ok (.iadd, 1) := by decide +kernel
theorem d_La_law_323 : decode code 323 = .ok (.iaload, 1) := by decide +kernel
theorem d_La_law_324 : decode code 324 = .ok (.invokevirtual 47, 3) := by decide +kernel
theorem d_La_law_327 : decode code 327 = .ok (.aload_n 2, 1) := by decide +kernel
theorem d_La_law_328 : decode code 328 = .ok (.aload_n 0, 1) := by decide +kernel
theorem d_La_law_329 : decode code 329 = .ok (.iload 4, 2) := by decide +kernel
theorem d_La_law_331 : decode code 331 = .ok (.iconst 1, 1) := by decide +kernel
theorem d_La_law_332 : decode code 332 = .ok (.iadd, 1) := by decide +kernel
theorem d_La_law_333 : decode code 333 = .ok (.iaload, 1) := by decide +kernel
theorem d_La_law_334 : decode code 334 = .ok (.invokevirtual 51, 3) := by decide +kernel
theorem d_La_law_337 : decode code 337 = .ok (.if_icmp .eq 471, 3) := by decide +kernel
theorem d_La_law_340 : decode code 340 = .ok (.iconst 0, 1) := by decide +kernel
theorem d_La_law_341 : decode code 341 = .ok (.ireturn, 1) := by decide +kernel
theorem d_La_law_342 : decode code 342 = .ok (.aload_n 1, 1) := by decide +kernel
theorem d_La_law_343 : decode code 343 = .ok (.aload_n 0, 1) := by decide +kernel
theorem d_La_law_344 : decode code 344 = .ok (.iload 4, 2) := by decide +kernel
theorem d_La_law_346 : decode code 346 = .ok (.iconst 1, 1) := by decide +kernel
theorem d_La_law_347 : decode code 347 = .ok (.iadd, 1) := by decide +kernel
theorem d_La_law_348 : decode code 348 = .ok (.iaload, 1) := by decide +kernel
theorem d_La_law_349 : decode code 349 = .ok (.aload_n 0, 1) := by decide +kernel
theorem d_La_law_350 : decode code 350 = .ok (.iload 4, 2) := by decide +kernel
theorem d_La_law_352 : decode code 352 = .ok (.iconst 2, 1) := by decide +kernel
theorem d_La_law_353 : decode code 353 = .ok (.iadd, 1) := by decide +kernel
theorem d_La_law_354 : decode code 354 = .ok (.iaload, 1) := by decide +kernel
theorem d_La_law_355 : decode code 355 = .ok (.aload_n 0, 1) := by decide +kernel
theorem d_La_law_356 : decode code 356 = .ok (.iload 4, 2) := by decide +kernel
theorem d_La_law_358 : decode code 358 = .ok (.iconst 3, 1) := by decide +kernel
theorem d_La_law_359 : decode code 359 = .ok (.iadd, 1) := by decide +kernel
theorem d_La_law_360 : decode code 360 = .ok (.iaload, 1) := by decide +kernel
theorem d_La_law_361 : decode code 361 = .ok (.invokevirtual 52, 3) := by decide +kernel
theorem d_La_law_364 : decode code 364 = .ok (.aload_n 2, 1) := by decide +kernel
theorem d_La_law_365 : decode code 365 = .ok (.aload_n 0, 1) := by decide +kernel
theorem d_La_law_366 : decode code 366 = .ok (.iload 4, 2) := by decide +kernel
theorem d_La_law_368 : decode code 368 = .ok (.iconst 1, 1) := by decide +kernel
theorem d_La_law_369 : decode code 369 = .ok (.iadd, 1) := by decide +kernel
theorem d_La_law_370 : decode code 370 = .ok (.iaload, 1) := by decide +kernel
theorem d_La_law_371 : decode code 371 = .ok (.aload_n 0, 1) := by decide +kernel
theorem d_La_law_372 : decode code 372 = .ok (.iload 4, 2) := by decide +kernel
theorem d_La_law_374 : decode code 374 = .ok (.iconst 2, 1) := by decide +kernel
theorem d_La_law_375 : decode code 375 = .ok (.iadd, 1) := by decide +kernel
theorem d_La_law_376 : decode code 376 = .ok (.iaload, 1) := by decide +kernel
theorem d_La_law_377 : decode code 377 = .ok (.aload_n 0, 1) := by decide +kernel
theorem d_La_law_378 : decode code 378 = .ok (.iload 4, 2) := by decide +kernel
theorem d_La_law_380 : decode code 380 = .ok (.iconst 3, 1) := by decide +kernel
theorem d_La_law_381 : decode code 381 = .ok (.iadd, 1) := by decide +kernel
theorem d_La_law_382 : decode code 382 = .ok (.iaload, 1) := by decide +kernel
theorem d_La_law_383 : decode code 383 = .ok (.invokevirtual 56, 3) := by decide +kernel
theorem d_La_law_386 : decode code 386 = .ok (.if_icmp .eq 422, 3) := by decide +kernel
theorem d_La_law_389 : decode code 389 = .ok (.iconst 0, 1) := by decide +kernel
theorem d_La_law_390 : decode code 390 = .ok (.ireturn, 1) := by decide +kernel
theorem d_La_law_391 : decode code 391 = .ok (.aload_n 1, 1) := by decide +kernel
theorem d_La_law_392 : decode code 392 = .ok (.aload_n 0, 1) := by decide +kernel
theorem d_La_law_393 : decode code 393 = .ok (.iload 4, 2) := by decide +kernel
theorem d_La_law_395 : decode code 395 = .ok (.iconst 1, 1) := by decide +kernel
theorem d_La_law_396 : decode code 396 = .ok (.iadd, 1) := by decide +kernel
theorem d_La_law_397 : decode code 397 = .ok (.iaload, 1) := by decide +kernel
theorem d_La_law_398 : decode code 398 = .ok (.invokevirtual 57, 3) := by decide +kernel
theorem d_La_law_401 : decode code 401 = .ok (.aload_n 2, 1) := by decide +kernel
theorem d_La_law_402 : decode code 402 = .ok (.aload_n 0, 1) := by decide +kernel
theorem d_La_law_403 : decode code 403 = .ok (.iload 4, 2) := by decide +kernel
theorem d_La_law_405 : decode code 405 = .ok (.iconst 1, 1) := by decide +kernel
theorem d_La_law_406 : decode code 406 = .ok (.iadd, 1) := by decide +kernel
theorem d_La_law_407 : decode code 407 = .ok (.iaload, 1) := by decide +kernel
theorem d_La_law_408 : decode code 408 = .ok (.invokevirtual 60, 3) := by decide +kernel
theorem d_La_law_411 : decode code 411 = .ok (.if_icmp .eq 397, 3) := by decide +kernel
theorem d_La_law_414 : decode code 414 = .ok (.iconst 0, 1) := by decide +kernel
theorem d_La_law_415 : decode code 415 = .ok (.ireturn, 1) := by decide +kernel
theorem d_La_law_416 : decode code 416 = .ok (.aload_n 1, 1) := by decide +kernel
theorem d_La_law_417 : decode code 417 = .ok (.aload_n 0, 1) := by decide +kernel
theorem d_La_law_418 : decode code 418 = .ok (.iload 4, 2) := by decide +kernel
theorem d_La_law_420 : decode code 420 = .ok (.iconst 1, 1) := by decide +kernel
theorem d_La_law_421 : decode code 421 = .ok (.iadd, 1) := by decide +kernel
theorem d_La_law_422 : decode code 422 = .ok (.iaload, 1) := by decide +kernel
theorem d_La_law_423 : decode code 423 = .ok (.invokevirtual 61, 3) := by decide +kernel
theorem d_La_law_426 : decode code 426 = .ok (.aload_n 2, 1) := by decide +kernel
theorem d_La_law_427 : decode code 427 = .ok (.aload_n 0, 1) := by decide +kernel
theorem d_La_law_428 : decode code 428 = .ok (.iload 4, 2) := by decide +kernel
theorem d_La_law_430 : decode code 430 = .ok (.iconst 1, 1) := by decide +kernel
theorem d_La_law_431 : decode code 431 = .ok (.iadd, 1) := by decide +kernel
theorem d_La_law_432 : decode code 432 = .ok (.iaload, 1) := by decide +kernel
theorem d_La_law_433 : decode code 433 = .ok (.invokevirtual 64, 3) := by decide +kernel
theorem d_La_law_436 : decode code 436 = .ok (.if_icmp .eq 372, 3) := by decide +kernel
theorem d_La_law_439 : decode code 439 = .ok (.iconst 0, 1) := by decide +kernel
theorem d_La_law_440 : decode code 440 = .ok (.ireturn, 1) := by decide +kernel
theorem d_La_law_441 : decode code 441 = .ok (.aload_n 1, 1) := by decide +kernel
theorem d_La_law_442 : decode code 442 = .ok (.aload_n 0, 1) := by decide +kernel
theorem d_La_law_443 : decode code 443 = .ok (.iload 4, 2) := by decide +kernel
end
section
theorem d_La_law_445 : decode code 445 = .ok (.iconst 1, 1) := by decide +kernel
theorem d_La_law_446 : decode code 446 = .ok (.iadd, 1) := by decide +kernel
theorem d_La_law_447 : decode code 447 = .ok (.iaload, 1) := by decide +kernel
theorem d_La_law_448 : decode code 448 = .ok (.aload_n 0, 1) := by decide +kernel
theorem d_La_law_449 : decode code 449 = .ok (.iload 4, 2) := by decide +kernel
theorem d_La_law_451 : decode code 451 = .ok (.iconst 2, 1) := by decide +kernel
theorem d_La_law_452 : decode code 452 = .ok (.iadd, 1) := by decide +kernel
theorem d_La_law_453 : decode code 453 = .ok (.iaload, 1) := by decide +kernel
theorem d_La_law_454 : decode code 454 = .ok (.aload_n 0, 1) := by decide +kernel
theorem d_La_law_455 : decode code 455 = .ok (.iload 4, 2) := by decide +kernel
theorem d_La_law_457 : decode code 457 = .ok (.iconst 3, 1) := by decide +kernel
theorem d_La_law_458 : decode code 458 = .ok (.iadd, 1) := by decide +kernel
theorem d_La_law_459 : decode code 459 = .ok (.iaload, 1) := by decide +kernel
theorem d_La_law_460 : decode code 460 = .ok (.i2l, 1) := by decide +kernel
theorem d_La_law_461 : decode code 461 = .ok (.bipush 32, 2) := by decide +kernel
theorem d_La_law_463 : decode code 463 = .ok (.lshl, 1) := by decide +kernel
theorem d_La_law_464 : decode code 464 = .ok (.aload_n 0, 1) := by decide +kernel
theorem d_La_law_465 : decode code 465 = .ok (.iload 4, 2) := by decide +kernel
theorem d_La_law_467 : decode code 467 = .ok (.iconst 4, 1) := by decide +kernel
theorem d_La_law_468 : decode code 468 = .ok (.iadd, 1) := by decide +kernel
theorem d_La_law_469 : decode code 469 = .ok (.iaload, 1) := by decide +kernel
theorem d_La_law_470 : decode code 470 = .ok (.i2l, 1) := by decide +kernel
theorem d_La_law_471 : decode code 471 = .ok (.ldc2_w 27, 3) := by decide +kernel
theorem d_La_law_474 : decode code 474 = .ok (.land, 1) := by decide +kernel
theorem d_La_law_475 : decode code 475 = .ok (.lor, 1) := by decide +kernel
theorem d_La_law_476 : decode code 476 = .ok (.invokevirtual 65, 3) := by decide +kernel
theorem d_La_law_479 : decode code 479 = .ok (.aload_n 2, 1) := by decide +kernel
theorem d_La_law_480 : decode code 480 = .ok (.aload_n 0, 1) := by decide +kernel
theorem d_La_law_481 : decode code 481 = .ok (.iload 4, 2) := by decide +kernel
theorem d_La_law_483 : decode code 483 = .ok (.iconst 1, 1) := by decide +kernel
theorem d_La_law_484 : decode code 484 = .ok (.iadd, 1) := by decide +kernel
theorem d_La_law_485 : decode code 485 = .ok (.iaload, 1) := by decide +kernel
theorem d_La_law_486 : decode code 486 = .ok (.aload_n 0, 1) := by decide +kernel
theorem d_La_law_487 : decode code 487 = .ok (.iload 4, 2) := by decide +kernel
theorem d_La_law_489 : decode code 489 = .ok (.iconst 2, 1) := by decide +kernel
theorem d_La_law_490 : decode code 490 = .ok (.iadd, 1) := by decide +kernel
theorem d_La_law_491 : decode code 491 = .ok (.iaload, 1) := by decide +kernel
theorem d_La_law_492 : decode code 492 = .ok (.aload_n 0, 1) := by decide +kernel
theorem d_La_law_493 : decode code 493 = .ok (.iload 4, 2) := by decide +kernel
theorem d_La_law_495 : decode code 495 = .ok (.iconst 3, 1) := by decide +kernel
theorem d_La_law_496 : decode code 496 = .ok (.iadd, 1) := by decide +kernel
theorem d_La_law_497 : decode code 497 = .ok (.iaload, 1) := by decide +kernel
theorem d_La_law_498 : decode code 498 = .ok (.i2l, 1) := by decide +kernel
theorem d_La_law_499 : decode code 499 = .ok (.bipush 32, 2) := by decide +kernel
theorem d_La_law_501 : decode code 501 = .ok (.lshl, 1) := by decide +kernel
theorem d_La_law_502 : decode code 502 = .ok (.aload_n 0, 1) := by decide +kernel
theorem d_La_law_503 : decode code 503 = .ok (.iload 4, 2) := by decide +kernel
theorem d_La_law_505 : decode code 505 = .ok (.iconst 4, 1) := by decide +kernel
theorem d_La_law_506 : decode code 506 = .ok (.iadd, 1) := by decide +kernel
theorem d_La_law_507 : decode code 507 = .ok (.iaload, 1) := by decide +kernel
theorem d_La_law_508 : decode code 508 = .ok (.i2l, 1) := by decide +kernel
theorem d_La_law_509 : decode code 509 = .ok (.ldc2_w 27, 3) := by decide +kernel
theorem d_La_law_512 : decode code 512 = .ok (.land, 1) := by decide +kernel
theorem d_La_law_513 : decode code 513 = .ok (.lor, 1) := by decide +kernel
theorem d_La_law_514 : decode code 514 = .ok (.invokevirtual 69, 3) := by decide +kernel
theorem d_La_law_517 : decode code 517 = .ok (.if_icmp .eq 291, 3) := by decide +kernel
theorem d_La_law_520 : decode code 520 = .ok (.iconst 0, 1) := by decide +kernel
theorem d_La_law_521 : decode code 521 = .ok (.ireturn, 1) := by decide +kernel
theorem d_La_law_522 : decode code 522 = .ok (.aload_n 1, 1) := by decide +kernel
theorem d_La_law_523 : decode code 523 = .ok (.aload_n 0, 1) := by decide +kernel
theorem d_La_law_524 : decode code 524 = .ok (.iload 4, 2) := by decide +kernel
theorem d_La_law_526 : decode code 526 = .ok (.iconst 1, 1) := by decide +kernel
theorem d_La_law_527 : decode code 527 = .ok (.iadd, 1) := by decide +kernel
theorem d_La_law_528 : decode code 528 = .ok (.iaload, 1) := by decide +kernel
theorem d_La_law_529 : decode code 529 = .ok (.aload_n 0, 1) := by decide +kernel
theorem d_La_law_530 : decode code 530 = .ok (.iload 4, 2) := by decide +kernel
theorem d_La_law_532 : decode code 532 = .ok (.iconst 2, 1) := by decide +kernel
theorem d_La_law_533 : decode code 533 = .ok (.iadd, 1) := by decide +kernel
theorem d_La_law_534 : decode code 534 = .ok (.iaload, 1) := by decide +kernel
theorem d_La_law_535 : decode code 535 = .ok (.i2l, 1) := by decide +kernel
theorem d_La_law_536 : decode code 536 = .ok (.bipush 32, 2) := by decide +kernel
theorem d_La_law_538 : decode code 538 = .ok (.lshl, 1) := by decide +kernel
theorem d_La_law_539 : decode code 539 = .ok (.aload_n 0, 1) := by decide +kernel
theorem d_La_law_540 : decode code 540 = .ok (.iload 4, 2) := by decide +kernel
theorem d_La_law_542 : decode code 542 = .ok (.iconst 3, 1) := by decide +kernel
theorem d_La_law_543 : decode code 543 = .ok (.iadd, 1) := by decide +kernel
theorem d_La_law_544 : decode code 544 = .ok (.iaload, 1) := by decide +kernel
theorem d_La_law_545 : decode code 545 = .ok (.i2l, 1) := by decide +kernel
theorem d_La_law_546 : decode code 546 = .ok (.ldc2_w 27, 3) := by decide +kernel
theorem d_La_law_549 : decode code 549 = .ok (.land, 1) := by decide +kernel
theorem d_La_law_550 : decode code 550 = .ok (.lor, 1) := by decide +kernel
theorem d_La_law_551 : decode code 551 = .ok (.invokevirtual 70, 3) := by decide +kernel
theorem d_La_law_554 : decode code 554 = .ok (.aload_n 2, 1) := by decide +kernel
theorem d_La_law_555 : decode code 555 = .ok (.aload_n 0, 1) := by decide +kernel
theorem d_La_law_556 : decode code 556 = .ok (.iload 4, 2) := by decide +kernel
theorem d_La_law_558 : decode code 558 = .ok (.iconst 1, 1) := by decide +kernel
theorem d_La_law_559 : decode code 559 = .ok (.iadd, 1) := by decide +kernel
theorem d_La_law_560 : decode code 560 = .ok (.iaload, 1) := by decide +kernel
theorem d_La_law_561 : decode code 561 = .ok (.aload_n 0, 1) := by decide +kernel
theorem d_La_law_562 : decode code 562 = .ok (.iload 4, 2) := by decide +kernel
theorem d_La_law_564 : decode code 564 = .ok (.iconst 2, 1) := by decide +kernel
theorem d_La_law_565 : decode code 565 = .ok (.iadd, 1) := by decide +kernel
theorem d_La_law_566 : decode code 566 = .ok (.iaload, 1) := by decide +kernel
theorem d_La_law_567 : decode code 567 = .ok (.i2l, 1) := by decide +kernel
theorem d_La_law_568 : decode code 568 = .ok (.bipush 32, 2) := by decide +kernel
theorem d_La_law_570 : decode code 570 = .ok (.lshl, 1) := by decide +kernel
theorem d_La_law_571 : decode code 571 = .ok (.aload_n 0, 1) := by decide +kernel
theorem d_La_law_572 : decode code 572 = .ok (.iload 4, 2) := by decide +kernel
theorem d_La_law_574 : decode code 574 = .ok (.iconst 3, 1) := by decide +kernel
theorem d_La_law_575 : decode code 575 = .ok (.iadd, 1) := by decide +kernel
theorem d_La_law_576 : decode code 576 = .ok (.iaload, 1) := by decide +kernel
theorem d_La_law_577 : decode code 577 = .ok (.i2l, 1) := by decide +kernel
theorem d_La_law_578 : decode code 578 = .ok (.ldc2_w 27, 3) := by decide +kernel
theorem d_La_law_581 : decode code 581 = .ok (.land, 1) := by decide +kernel
theorem d_La_law_582 : decode code 582 = .ok (.lor, 1) := by decide +kernel
theorem d_La_law_583 : decode code 583 = .ok (.invokevirtual 74, 3) := by decide +kernel
theorem d_La_law_586 : decode code 586 = .ok (.if_icmp .eq 222, 3) := by decide +kernel
theorem d_La_law_589 : decode code 589 = .ok (.iconst 0, 1) := by decide +kernel
theorem d_La_law_590 : decode code 590 = .ok (.ireturn, 1) := by decide +kernel
theorem d_La_law_591 : decode code 591 = .ok (.aload_n 1, 1) := by decide +kernel
theorem d_La_law_592 : decode code 592 = .ok (.aload_n 0, 1) := by decide +kernel
theorem d_La_law_593 : decode code 593 = .ok (.iload 4, 2) := by decide +kernel
theorem d_La_law_595 : decode code 595 = .ok (.iconst 1, 1) := by decide +kernel
theorem d_La_law_596 : decode code 596 = .ok (.iadd, 1) := by decide +kernel
theorem d_La_law_597 : decode code 597 = .ok (.iaload, 1) := by decide +kernel
theorem d_La_law_598 : decode code 598 = .ok (.invokevirtual 75, 3) := by decide +kernel
theorem d_La_law_601 : decode code 601 = .ok (.aload_n 2, 1) := by decide +kernel
theorem d_La_law_602 : decode code 602 = .ok (.aload_n 0, 1) := by decide +kernel
theorem d_La_law_603 : decode code 603 = .ok (.iload 4, 2) := by decide +kernel
theorem d_La_law_605 : decode code 605 = .ok (.iconst 1, 1) := by decide +kernel
theorem d_La_law_606 : decode code 606 = .ok (.iadd, 1) := by decide +kernel
theorem d_La_law_607 : decode code 607 = .ok (.iaload, 1) := by decide +kernel
theorem d_La_law_608 : decode code 608 = .ok (.invokevirtual 78, 3) := by decide +kernel
theorem d_La_law_611 : decode code 611 = .ok (.if_icmp .eq 197, 3) := by decide +kernel
theorem d_La_law_614 : decode code 614 = .ok (.iconst 0, 1) := by decide +kernel
theorem d_La_law_615 : decode code 615 = .ok (.ireturn, 1) := by decide +kernel
theorem d_La_law_616 : decode code 616 = .ok (.aload_n 1, 1) := by decide +kernel
theorem d_La_law_617 : decode code 617 = .ok (.aload_n 0, 1) := by decide +kernel
theorem d_La_law_618 : decode code 618 = .ok (.iload 4, 2) := by decide +kernel
theorem d_La_law_620 : decode code 620 = .ok (.iconst 1, 1) := by decide +kernel
theorem d_La_law_621 : decode code 621 = .ok (.iadd, 1) := by decide +kernel
theorem d_La_law_622 : decode code 622 = .ok (.iaload, 1) := by decide +kernel
end
section
theorem d_La_law_623 : decode code 623 = .ok (.i2l, 1) := by decide +kernel
theorem d_La_law_624 : decode code 624 = .ok (.bipush 32, 2) := by decide +kernel
theorem d_La_law_626 : decode code 626 = .ok (.lshl, 1) := by decide +kernel
theorem d_La_law_627 : decode code 627 = .ok (.aload_n 0, 1) := by decide +kernel
theorem d_La_law_628 : decode code 628 = .ok (.iload 4, 2) := by decide +kernel
theorem d_La_law_630 : decode code 630 = .ok (.iconst 2, 1) := by decide +kernel
theorem d_La_law_631 : decode code 631 = .ok (.iadd, 1) := by decide +kernel
theorem d_La_law_632 : decode code 632 = .ok (.iaload, 1) := by decide +kernel
theorem d_La_law_633 : decode code 633 = .ok (.i2l, 1) := by decide +kernel
theorem d_La_law_634 : decode code 634 = .ok (.ldc2_w 27, 3) := by decide +kernel
theorem d_La_law_637 : decode code 637 = .ok (.land, 1) := by decide +kernel
theorem d_La_law_638 : decode code 638 = .ok (.lor, 1) := by decide +kernel
theorem d_La_law_639 : decode code 639 = .ok (.invokevirtual 79, 3) := by decide +kernel
theorem d_La_law_642 : decode code 642 = .ok (.aload_n 2, 1) := by decide +kernel
theorem d_La_law_643 : decode code 643 = .ok (.aload_n 0, 1) := by decide +kernel
theorem d_La_law_644 : decode code 644 = .ok (.iload 4, 2) := by decide +kernel
theorem d_La_law_646 : decode code 646 = .ok (.iconst 1, 1) := by decide +kernel
theorem d_La_law_647 : decode code 647 = .ok (.iadd, 1) := by decide +kernel
theorem d_La_law_648 : decode code 648 = .ok (.iaload, 1) := by decide +kernel
theorem d_La_law_649 : decode code 649 = .ok (.i2l, 1) := by decide +kernel
theorem d_La_law_650 : decode code 650 = .ok (.bipush 32, 2) := by decide +kernel
theorem d_La_law_652 : decode code 652 = .ok (.lshl, 1) := by decide +kernel
theorem d_La_law_653 : decode code 653 = .ok (.aload_n 0, 1) := by decide +kernel
theorem d_La_law_654 : decode code 654 = .ok (.iload 4, 2) := by decide +kernel
theorem d_La_law_656 : decode code 656 = .ok (.iconst 2, 1) := by decide +kernel
theorem d_La_law_657 : decode code 657 = .ok (.iadd, 1) := by decide +kernel
theorem d_La_law_658 : decode code 658 = .ok (.iaload, 1) := by decide +kernel
theorem d_La_law_659 : decode code 659 = .ok (.i2l, 1) := by decide +kernel
theorem d_La_law_660 : decode code 660 = .ok (.ldc2_w 27, 3) := by decide +kernel
theorem d_La_law_663 : decode code 663 = .ok (.land, 1) := by decide +kernel
theorem d_La_law_664 : decode code 664 = .ok (.lor, 1) := by decide +kernel
theorem d_La_law_665 : decode code 665 = .ok (.invokevirtual 83, 3) := by decide +kernel
theorem d_La_law_668 : decode code 668 = .ok (.if_icmp .eq 140, 3) := by decide +kernel
theorem d_La_law_671 : decode code 671 = .ok (.iconst 0, 1) := by decide +kernel
theorem d_La_law_672 : decode code 672 = .ok (.ireturn, 1) := by decide +kernel
theorem d_La_law_673 : decode code 673 = .ok (.aload_n 1, 1) := by decide +kernel
theorem d_La_law_674 : decode code 674 = .ok (.aload_n 0, 1) := by decide +kernel
theorem d_La_law_675 : decode code 675 = .ok (.iload 4, 2) := by decide +kernel
theorem d_La_law_677 : decode code 677 = .ok (.iconst 1, 1) := by decide +kernel
theorem d_La_law_678 : decode code 678 = .ok (.iadd, 1) := by decide +kernel
theorem d_La_law_679 : decode code 679 = .ok (.iaload, 1) := by decide +kernel
theorem d_La_law_680 : decode code 680 = .ok (.aload_n 0, 1) := by decide +kernel
theorem d_La_law_681 : decode code 681 = .ok (.iload 4, 2) := by decide +kernel
theorem d_La_law_683 : decode code 683 = .ok (.iconst 2, 1) := by decide +kernel
theorem d_La_law_684 : decode code 684 = .ok (.iadd, 1) := by decide +kernel
theorem d_La_law_685 : decode code 685 = .ok (.iaload, 1) := by decide +kernel
theorem d_La_law_686 : decode code 686 = .ok (.ifCond .eq 7, 3) := by decide +kernel
theorem d_La_law_689 : decode code 689 = .ok (.iconst 1, 1) := by decide +kernel
theorem d_La_law_690 : decode code 690 = .ok (.goto 4, 3) := by decide +kernel
theorem d_La_law_693 : decode code 693 = .ok (.iconst 0, 1) := by decide +kernel
theorem d_La_law_694 : decode code 694 = .ok (.invokevirtual 84, 3) := by decide +kernel
theorem d_La_law_697 : decode code 697 = .ok (.aload_n 2, 1) := by decide +kernel
theorem d_La_law_698 : decode code 698 = .ok (.aload_n 0, 1) := by decide +kernel
theorem d_La_law_699 : decode code 699 = .ok (.iload 4, 2) := by decide +kernel
theorem d_La_law_701 : decode code 701 = .ok (.iconst 1, 1) := by decide +kernel
theorem d_La_law_702 : decode code 702 = .ok (.iadd, 1) := by decide +kernel
theorem d_La_law_703 : decode code 703 = .ok (.iaload, 1) := by decide +kernel
theorem d_La_law_704 : decode code 704 = .ok (.aload_n 0, 1) := by decide +kernel
theorem d_La_law_705 : decode code 705 = .ok (.iload 4, 2) := by decide +kernel
theorem d_La_law_707 : decode code 707 = .ok (.iconst 2, 1) := by decide +kernel
theorem d_La_law_708 : decode code 708 = .ok (.iadd, 1) := by decide +kernel
theorem d_La_law_709 : decode code 709 = .ok (.iaload, 1) := by decide +kernel
theorem d_La_law_710 : decode code 710 = .ok (.ifCond .eq 7, 3) := by decide +kernel
theorem d_La_law_713 : decode code 713 = .ok (.iconst 1, 1) := by decide +kernel
theorem d_La_law_714 : decode code 714 = .ok (.goto 4, 3) := by decide +kernel
theorem d_La_law_717 : decode code 717 = .ok (.iconst 0, 1) := by decide +kernel
theorem d_La_law_718 : decode code 718 = .ok (.invokevirtual 88, 3) := by decide +kernel
theorem d_La_law_721 : decode code 721 = .ok (.if_icmp .eq 87, 3) := by decide +kernel
theorem d_La_law_724 : decode code 724 = .ok (.iconst 0, 1) := by decide +kernel
theorem d_La_law_725 : decode code 725 = .ok (.ireturn, 1) := by decide +kernel
theorem d_La_law_726 : decode code 726 = .ok (.aload_n 1, 1) := by decide +kernel
theorem d_La_law_727 : decode code 727 = .ok (.aload_n 0, 1) := by decide +kernel
theorem d_La_law_728 : decode code 728 = .ok (.iload 4, 2) := by decide +kernel
theorem d_La_law_730 : decode code 730 = .ok (.iconst 1, 1) := by decide +kernel
theorem d_La_law_731 : decode code 731 = .ok (.iadd, 1) := by decide +kernel
theorem d_La_law_732 : decode code 732 = .ok (.iaload, 1) := by decide +kernel
theorem d_La_law_733 : decode code 733 = .ok (.i2l, 1) := by decide +kernel
theorem d_La_law_734 : decode code 734 = .ok (.bipush 32, 2) := by decide +kernel
theorem d_La_law_736 : decode code 736 = .ok (.lshl, 1) := by decide +kernel
theorem d_La_law_737 : decode code 737 = .ok (.aload_n 0, 1) := by decide +kernel
theorem d_La_law_738 : decode code 738 = .ok (.iload 4, 2) := by decide +kernel
theorem d_La_law_740 : decode code 740 = .ok (.iconst 2, 1) := by decide +kernel
theorem d_La_law_741 : decode code 741 = .ok (.iadd, 1) := by decide +kernel
theorem d_La_law_742 : decode code 742 = .ok (.iaload, 1) := by decide +kernel
theorem d_La_law_743 : decode code 743 = .ok (.i2l, 1) := by decide +kernel
theorem d_La_law_744 : decode code 744 = .ok (.ldc2_w 27, 3) := by decide +kernel
theorem d_La_law_747 : decode code 747 = .ok (.land, 1) := by decide +kernel
theorem d_La_law_748 : decode code 748 = .ok (.lor, 1) := by decide +kernel
theorem d_La_law_749 : decode code 749 = .ok (.invokevirtual 89, 3) := by decide +kernel
theorem d_La_law_752 : decode code 752 = .ok (.aload_n 2, 1) := by decide +kernel
theorem d_La_law_753 : decode code 753 = .ok (.aload_n 0, 1) := by decide +kernel
theorem d_La_law_754 : decode code 754 = .ok (.iload 4, 2) := by decide +kernel
theorem d_La_law_756 : decode code 756 = .ok (.iconst 1, 1) := by decide +kernel
theorem d_La_law_757 : decode code 757 = .ok (.iadd, 1) := by decide +kernel
theorem d_La_law_758 : decode code 758 = .ok (.iaload, 1) := by decide +kernel
theorem d_La_law_759 : decode code 759 = .ok (.i2l, 1) := by decide +kernel
theorem d_La_law_760 : decode code 760 = .ok (.bipush 32, 2) := by decide +kernel
theorem d_La_law_762 : decode code 762 = .ok (.lshl, 1) := by decide +kernel
theorem d_La_law_763 : decode code 763 = .ok (.aload_n 0, 1) := by decide +kernel
theorem d_La_law_764 : decode code 764 = .ok (.iload 4, 2) := by decide +kernel
theorem d_La_law_766 : decode code 766 = .ok (.iconst 2, 1) := by decide +kernel
theorem d_La_law_767 : decode code 767 = .ok (.iadd, 1) := by decide +kernel
theorem d_La_law_768 : decode code 768 = .ok (.iaload, 1) := by decide +kernel
theorem d_La_law_769 : decode code 769 = .ok (.i2l, 1) := by decide +kernel
theorem d_La_law_770 : decode code 770 = .ok (.ldc2_w 27, 3) := by decide +kernel
theorem d_La_law_773 : decode code 773 = .ok (.land, 1) := by decide +kernel
theorem d_La_law_774 : decode code 774 = .ok (.lor, 1) := by decide +kernel
theorem d_La_law_775 : decode code 775 = .ok (.invokevirtual 92, 3) := by decide +kernel
theorem d_La_law_778 : decode code 778 = .ok (.if_icmp .eq 30, 3) := by decide +kernel
theorem d_La_law_781 : decode code 781 = .ok (.iconst 0, 1) := by decide +kernel
theorem d_La_law_782 : decode code 782 = .ok (.ireturn, 1) := by decide +kernel
theorem d_La_law_783 : decode code 783 = .ok (.aload_n 1, 1) := by decide +kernel
theorem d_La_law_784 : decode code 784 = .ok (.aload_n 0, 1) := by decide +kernel
theorem d_La_law_785 : decode code 785 = .ok (.iload 4, 2) := by decide +kernel
theorem d_La_law_787 : decode code 787 = .ok (.iconst 1, 1) := by decide +kernel
theorem d_La_law_788 : decode code 788 = .ok (.iadd, 1) := by decide +kernel
theorem d_La_law_789 : decode code 789 = .ok (.iaload, 1) := by decide +kernel
theorem d_La_law_790 : decode code 790 = .ok (.invokevirtual 93, 3) := by decide +kernel
theorem d_La_law_793 : decode code 793 = .ok (.aload_n 2, 1) := by decide +kernel
theorem d_La_law_794 : decode code 794 = .ok (.aload_n 0, 1) := by decide +kernel
theorem d_La_law_795 : decode code 795 = .ok (.iload 4, 2) := by decide +kernel
theorem d_La_law_797 : decode code 797 = .ok (.iconst 1, 1) := by decide +kernel
theorem d_La_law_798 : decode code 798 = .ok (.iadd, 1) := by decide +kernel
theorem d_La_law_799 : decode code 799 = .ok (.iaload, 1) := by decide +kernel
theorem d_La_law_800 : decode code 800 = .ok (.invokevirtual 96, 3) := by decide +kernel
theorem d_La_law_803 : decode code 803 = .ok (.if_icmp .eq 5, 3) := by decide +kernel
theorem d_La_law_806 : decode code 806 = .ok (.iconst 0, 1) := by decide +kernel
theorem d_La_law_807 : decode code 807 = .ok (.ireturn, 1) := by decide +kernel
theorem d_La_law_808 : decode code 808 = .ok (.iinc 4 6, 3) := by decide +kernel
theorem d_La_law_811 : decode code 811 = .ok (.goto (-778), 3) := by decide +kernel
theorem d_La_law_814 : decode code 814 = .ok (.iconst 1, 1) := by decide +kernel
theorem d_La_law_815 : decode code 815 = .ok (.ireturn, 1) := by decide +kernel
end
section
theorem d_Mo_init_0 : decode b_Mo_init 0 = .ok (.aload_n 0, 1) := by decide +kernel
theorem d_Mo_init_1 : decode b_Mo_init 1 = .ok (.invokespecial 1, 3) := by decide +kernel
theorem d_Mo_init_4 : decode b_Mo_init 4 = .ok (.aload_n 0, 1) := by decide +kernel
theorem d_Mo_init_5 : decode b_Mo_init 5 = .ok (.sipush 1100, 3) := by decide +kernel
theorem d_Mo_init_8 : decode b_Mo_init 8 = .ok (.newarray .int, 2) := by decide +kernel
theorem d_Mo_init_10 : decode b_Mo_init 10 = .ok (.putfield 7, 3) := by decide +kernel
theorem d_Mo_init_13 : decode b_Mo_init 13 = .ok (.aload_n 0, 1) := by decide +kernel
theorem d_Mo_init_14 : decode b_Mo_init 14 = .ok (.sipush 1100, 3) := by decide +kernel
theorem d_Mo_init_17 : decode b_Mo_init 17 = .ok (.newarray .int, 2) := by decide +kernel
theorem d_Mo_init_19 : decode b_Mo_init 19 = .ok (.putfield 13, 3) := by decide +kernel
theorem d_Mo_init_22 : decode b_Mo_init 22 = .ok (.aload_n 0, 1) := by decide +kernel
theorem d_Mo_init_23 : decode b_Mo_init 23 = .ok (.sipush 1100, 3) := by decide +kernel
theorem d_Mo_init_26 : decode b_Mo_init 26 = .ok (.newarray .int, 2) := by decide +kernel
theorem d_Mo_init_28 : decode b_Mo_init 28 = .ok (.putfield 16, 3) := by decide +kernel
theorem d_Mo_init_31 : decode b_Mo_init 31 = .ok (.aload_n 0, 1) := by decide +kernel
theorem d_Mo_init_32 : decode b_Mo_init 32 = .ok (.sipush 1100, 3) := by decide +kernel
theorem d_Mo_init_35 : decode b_Mo_init 35 = .ok (.newarray .long, 2) := by decide +kernel
theorem d_Mo_init_37 : decode b_Mo_init 37 = .ok (.putfield 19, 3) := by decide +kernel
theorem d_Mo_init_40 : decode b_Mo_init 40 = .ok (.aload_n 0, 1) := by decide +kernel
theorem d_Mo_init_41 : decode b_Mo_init 41 = .ok (.bipush 32, 2) := by decide +kernel
theorem d_Mo_init_43 : decode b_Mo_init 43 = .ok (.newarray .int, 2) := by decide +kernel
theorem d_Mo_init_45 : decode b_Mo_init 45 = .ok (.putfield 23, 3) := by decide +kernel
theorem d_Mo_init_48 : decode b_Mo_init 48 = .ok (.aload_n 0, 1) := by decide +kernel
theorem d_Mo_init_49 : decode b_Mo_init 49 = .ok (.bipush 32, 2) := by decide +kernel
theorem d_Mo_init_51 : decode b_Mo_init 51 = .ok (.newarray .int, 2) := by decide +kernel
theorem d_Mo_init_53 : decode b_Mo_init 53 = .ok (.putfield 26, 3) := by decide +kernel
theorem d_Mo_init_56 : decode b_Mo_init 56 = .ok (.aload_n 0, 1) := by decide +kernel
theorem d_Mo_init_57 : decode b_Mo_init 57 = .ok (.bipush 32, 2) := by decide +kernel
theorem d_Mo_init_59 : decode b_Mo_init 59 = .ok (.newarray .int, 2) := by decide +kernel
theorem d_Mo_init_61 : decode b_Mo_init 61 = .ok (.putfield 29, 3) := by decide +kernel
theorem d_Mo_init_64 : decode b_Mo_init 64 = .ok (.aload_n 0, 1) := by decide +kernel
theorem d_Mo_init_65 : decode b_Mo_init 65 = .ok (.bipush 32, 2) := by decide +kernel
theorem d_Mo_init_67 : decode b_Mo_init 67 = .ok (.newarray .int, 2) := by decide +kernel
theorem d_Mo_init_69 : decode b_Mo_init 69 = .ok (.putfield 32, 3) := by decide +kernel
theorem d_Mo_init_72 : decode b_Mo_init 72 = .ok (.aload_n 0, 1) := by decide +kernel
theorem d_Mo_init_73 : decode b_Mo_init 73 = .ok (.bipush 32, 2) := by decide +kernel
theorem d_Mo_init_75 : decode b_Mo_init 75 = .ok (.newarray .int, 2) := by decide +kernel
theorem d_Mo_init_77 : decode b_Mo_init 77 = .ok (.putfield 35, 3) := by decide +kernel
theorem d_Mo_init_80 : decode b_Mo_init 80 = .ok (.aload_n 0, 1) := by decide +kernel
theorem d_Mo_init_81 : decode b_Mo_init 81 = .ok (.bipush 32, 2) := by decide +kernel
theorem d_Mo_init_83 : decode b_Mo_init 83 = .ok (.newarray .int, 2) := by decide +kernel
theorem d_Mo_init_85 : decode b_Mo_init 85 = .ok (.putfield 38, 3) := by decide +kernel
theorem d_Mo_init_88 : decode b_Mo_init 88 = .ok (.aload_n 0, 1) := by decide +kernel
theorem d_Mo_init_89 : decode b_Mo_init 89 = .ok (.bipush 32, 2) := by decide +kernel
theorem d_Mo_init_91 : decode b_Mo_init 91 = .ok (.newarray .boolean, 2) := by decide +kernel
theorem d_Mo_init_93 : decode b_Mo_init 93 = .ok (.putfield 41, 3) := by decide +kernel
theorem d_Mo_init_96 : decode b_Mo_init 96 = .ok (.aload_n 0, 1) := by decide +kernel
theorem d_Mo_init_97 : decode b_Mo_init 97 = .ok (.bipush 32, 2) := by decide +kernel
theorem d_Mo_init_99 : decode b_Mo_init 99 = .ok (.newarray .boolean, 2) := by decide +kernel
theorem d_Mo_init_101 : decode b_Mo_init 101 = .ok (.putfield 45, 3) := by decide +kernel
theorem d_Mo_init_104 : decode b_Mo_init 104 = .ok (.aload_n 0, 1) := by decide +kernel
theorem d_Mo_init_105 : decode b_Mo_init 105 = .ok (.bipush 32, 2) := by decide +kernel
theorem d_Mo_init_107 : decode b_Mo_init 107 = .ok (.newarray .long, 2) := by decide +kernel
theorem d_Mo_init_109 : decode b_Mo_init 109 = .ok (.putfield 48, 3) := by decide +kernel
theorem d_Mo_init_112 : decode b_Mo_init 112 = .ok (.aload_n 0, 1) := by decide +kernel
theorem d_Mo_init_113 : decode b_Mo_init 113 = .ok (.bipush 32, 2) := by decide +kernel
theorem d_Mo_init_115 : decode b_Mo_init 115 = .ok (.newarray .long, 2) := by decide +kernel
theorem d_Mo_init_117 : decode b_Mo_init 117 = .ok (.putfield 51, 3) := by decide +kernel
theorem d_Mo_init_120 : decode b_Mo_init 120 = .ok (.aload_n 0, 1) := by decide +kernel
theorem d_Mo_init_121 : decode b_Mo_init 121 = .ok (.sipush 256, 3) := by decide +kernel
theorem d_Mo_init_124 : decode b_Mo_init 124 = .ok (.newarray .int, 2) := by decide +kernel
theorem d_Mo_init_126 : decode b_Mo_init 126 = .ok (.putfield 54, 3) := by decide +kernel
theorem d_Mo_init_129 : decode b_Mo_init 129 = .ok (.aload_n 0, 1) := by decide +kernel
theorem d_Mo_init_130 : decode b_Mo_init 130 = .ok (.sipush 4000, 3) := by decide +kernel
theorem d_Mo_init_133 : decode b_Mo_init 133 = .ok (.newarray .int, 2) := by decide +kernel
theorem d_Mo_init_135 : decode b_Mo_init 135 = .ok (.putfield 57, 3) := by decide +kernel
theorem d_Mo_init_138 : decode b_Mo_init 138 = .ok (.aload_n 0, 1) := by decide +kernel
theorem d_Mo_init_139 : decode b_Mo_init 139 = .ok (.sipush 4000, 3) := by decide +kernel
theorem d_Mo_init_142 : decode b_Mo_init 142 = .ok (.newarray .boolean, 2) := by decide +kernel
theorem d_Mo_init_144 : decode b_Mo_init 144 = .ok (.putfield 60, 3) := by decide +kernel
theorem d_Mo_init_147 : decode b_Mo_init 147 = .ok (.aload_n 0, 1) := by decide +kernel
theorem d_Mo_init_148 : decode b_Mo_init 148 = .ok (.sipush 200, 3) := by decide +kernel
theorem d_Mo_init_151 : decode b_Mo_init 151 = .ok (.newarray .int, 2) := by decide +kernel
theorem d_Mo_init_153 : decode b_Mo_init 153 = .ok (.putfield 63, 3) := by decide +kernel
theorem d_Mo_init_156 : decode b_Mo_init 156 = .ok (.aload_n 0, 1) := by decide +kernel
theorem d_Mo_init_157 : decode b_Mo_init 157 = .ok (.sipush 200, 3) := by decide +kernel
theorem d_Mo_init_160 : decode b_Mo_init 160 = .ok (.newarray .int, 2) := by decide +kernel
theorem d_Mo_init_162 : decode b_Mo_init 162 = .ok (.putfield 66, 3) := by decide +kernel
theorem d_Mo_init_165 : decode b_Mo_init 165 = .ok (.aload_n 0, 1) := by decide +kernel
theorem d_Mo_init_166 : decode b_Mo_init 166 = .ok (.sipush 200, 3) := by decide +kernel
theorem d_Mo_init_169 : decode b_Mo_init 169 = .ok (.newarray .long, 2) := by decide +kernel
theorem d_Mo_init_171 : decode b_Mo_init 171 = .ok (.putfield 69, 3) := by decide +kernel
theorem d_Mo_init_174 : decode b_Mo_init 174 = .ok (.aload_n 0, 1) := by decide +kernel
theorem d_Mo_init_175 : decode b_Mo_init 175 = .ok (.iload_n 1, 1) := by decide +kernel
theorem d_Mo_init_176 : decode b_Mo_init 176 = .ok (.iconst 1, 1) := by decide +kernel
theorem d_Mo_init_177 : decode b_Mo_init 177 = .ok (.if_icmp .ge 7, 3) := by decide +kernel
theorem d_Mo_init_180 : decode b_Mo_init 180 = .ok (.iconst 1, 1) := by decide +kernel
theorem d_Mo_init_181 : decode b_Mo_init 181 = .ok (.goto 17, 3) := by decide +kernel
theorem d_Mo_init_184 : decode b_Mo_init 184 = .ok (.iload_n 1, 1) := by decide +kernel
theorem d_Mo_init_185 : decode b_Mo_init 185 = .ok (.sipush 4096, 3) := by decide +kernel
theorem d_Mo_init_188 : decode b_Mo_init 188 = .ok (.if_icmp .le 9, 3) := by decide +kernel
theorem d_Mo_init_191 : decode b_Mo_init 191 = .ok (.sipush 4096, 3) := by decide +kernel
theorem d_Mo_init_194 : decode b_Mo_init 194 = .ok (.goto 4, 3) := by decide +kernel
theorem d_Mo_init_197 : decode b_Mo_init 197 = .ok (.iload_n 1, 1) := by decide +kernel
theorem d_Mo_init_198 : decode b_Mo_init 198 = .ok (.putfield 72, 3) := by decide +kernel
theorem d_Mo_init_201 : decode b_Mo_init 201 = .ok (.iconst 0, 1) := by decide +kernel
theorem d_Mo_init_202 : decode b_Mo_init 202 = .ok (.istore_n 2, 1) := by decide +kernel
theorem d_Mo_init_203 : decode b_Mo_init 203 = .ok (.iload_n 2, 1) := by decide +kernel
theorem d_Mo_init_204 : decode b_Mo_init 204 = .ok (.bipush 32, 2) := by decide +kernel
theorem d_Mo_init_206 : decode b_Mo_init 206 = .ok (.if_icmp .ge 16, 3) := by decide +kernel
theorem d_Mo_init_209 : decode b_Mo_init 209 = .ok (.aload_n 0, 1) := by decide +kernel
theorem d_Mo_init_210 : decode b_Mo_init 210 = .ok (.getfield 23, 3) := by decide +kernel
theorem d_Mo_init_213 : decode b_Mo_init 213 = .ok (.iload_n 2, 1) := by decide +kernel
theorem d_Mo_init_214 : decode b_Mo_init 214 = .ok (.iconst (-1), 1) := by decide +kernel
theorem d_Mo_init_215 : decode b_Mo_init 215 = .ok (.iastore, 1) := by decide +kernel
theorem d_Mo_init_216 : decode b_Mo_init 216 = .ok (.iinc 2 1, 3) := by decide +kernel
theorem d_Mo_init_219 : decode b_Mo_init 219 = .ok (.goto (-16), 3) := by decide +kernel
theorem d_Mo_init_222 : decode b_Mo_init 222 = .ok (.return_, 1) := by decide +kernel
theorem d_Mo_thrown_0 : decode b_Mo_thrown 0 = .ok (.aload_n 0, 1) := by decide +kernel
theorem d_Mo_thrown_1 : decode b_Mo_thrown 1 = .ok (.getfield 76, 3) := by decide +kernel
theorem d_Mo_thrown_4 : decode b_Mo_thrown 4 = .ok (.ireturn, 1) := by decide +kernel
theorem d_Mo_put_0 : decode b_Mo_put 0 = .ok (.aload_n 0, 1) := by decide +kernel
theorem d_Mo_put_1 : decode b_Mo_put 1 = .ok (.aload_n 0, 1) := by decide +kernel
theorem d_Mo_put_2 : decode b_Mo_put 2 = .ok (.iload_n 1, 1) := by decide +kernel
theorem d_Mo_put_3 : decode b_Mo_put 3 = .ok (.iload_n 2, 1) := by decide +kernel
theorem d_Mo_put_4 : decode b_Mo_put 4 = .ok (.lload_n 3, 1) := by decide +kernel
theorem d_Mo_put_5 : decode b_Mo_put 5 = .ok (.iload 5, 2) := by decide +kernel
theorem d_Mo_put_7 : decode b_Mo_put 7 = .ok (.invokevirtual 116, 3) := by decide +kernel
theorem d_Mo_put_10 : decode b_Mo_put 10 = .ok (.invokevirtual 120, 3) := by decide +kernel
theorem d_Mo_put_13 : decode b_Mo_put 13 = .ok (.ireturn, 1) := by decide +kernel
theorem d_Mo_putting_0 : decode b_Mo_putting 0 = .ok (.iload_n 1, 1) := by decide +kernel
theorem d_Mo_putting_1 : decode b_Mo_putting 1 = .ok (.invokestatic 105, 3) := by decide +kernel
theorem d_Mo_putting_4 : decode b_Mo_putting 4 = .ok (.ifCond .eq 24, 3) := by decide +kernel
theorem d_Mo_putting_7 : decode b_Mo_putting 7 = .ok (.iload_n 2, 1) := by decide +kernel
theorem d_Mo_putting_8 : decode b_Mo_putting 8 = .ok (.ifCond .lt 20, 3) := by decide +kernel
theorem d_Mo_putting_11 : decode b_Mo_putting 11 = .ok (.iload_n 2, 1) := by decide +kernel
theorem d_Mo_putting_12 : decode b_Mo_putting 12 = .ok (.iconst 3, 1) := by decide +kernel
theorem d_Mo_putting_13 : decode b_Mo_putting 13 = .ok (.if_icmp .gt 15, 3) := by decide +kernel
theorem d_Mo_putting_16 : decode b_Mo_putting 16 = .ok (.iload 5, 2) := by decide +kernel
theorem d_Mo_putting_18 : decode b_Mo_putting 18 = .ok (.ifCond .lt 10, 3) := by decide +kernel
theorem d_Mo_putting_21 : decode b_Mo_putting 21 = .ok (.iload 5, 2) := by decide +kernel
theorem d_Mo_putting_23 : decode b_Mo_putting 23 = .ok (.bipush 9, 2) := by decide +kernel
theorem d_Mo_putting_25 : decode b_Mo_putting 25 = .ok (.if_icmp .le 6, 3) := by decide +kernel
theorem d_Mo_putting_28 : decode b_Mo_putting 28 = .ok (.bipush (-2), 2) := by decide +kernel
theorem d_Mo_putting_30 : decode b_Mo_putting 30 = .ok (.ireturn, 1) := by decide +kernel
theorem d_Mo_putting_31 : decode b_Mo_putting 31 = .ok (.aload_n 0, 1) := by decide +kernel
theorem d_Mo_putting_32 : decode b_Mo_putting 32 = .ok (.getfield 23, 3) := by decide +kernel
theorem d_Mo_putting_35 : decode b_Mo_putting 35 = .ok (.iload_n 1, 1) := by decide +kernel
theorem d_Mo_putting_36 : decode b_Mo_putting 36 = .ok (.iaload, 1) := by decide +kernel
theorem d_Mo_putting_37 : decode b_Mo_putting 37 = .ok (.iconst (-1), 1) := by decide +kernel
theorem d_Mo_putting_38 : decode b_Mo_putting 38 = .ok (.if_icmp .eq 13, 3) := by decide +kernel
theorem d_Mo_putting_41 : decode b_Mo_putting 41 = .ok (.aload_n 0, 1) := by decide +kernel
theorem d_Mo_putting_42 : decode b_Mo_putting 42 = .ok (.getfield 23, 3) := by decide +kernel
theorem d_Mo_putting_45 : decode b_Mo_putting 45 = .ok (.iload_n 1, 1) := by decide +kernel
theorem d_Mo_putting_46 : decode b_Mo_putting 46 = .ok (.iaload, 1) := by decide +kernel
theorem d_Mo_putting_47 : decode b_Mo_putting 47 = .ok (.iload_n 2, 1) := by decide +kernel
theorem d_Mo_putting_48 : decode b_Mo_putting 48 = .ok (.if_icmp .ne 17, 3) := by decide +kernel
theorem d_Mo_putting_51 : decode b_Mo_putting 51 = .ok (.aload_n 0, 1) := by decide +kernel
theorem d_Mo_putting_52 : decode b_Mo_putting 52 = .ok (.getfield 29, 3) := by decide +kernel
theorem d_Mo_putting_55 : decode b_Mo_putting 55 = .ok (.iload_n 1, 1) := by decide +kernel
theorem d_Mo_putting_56 : decode b_Mo_putting 56 = .ok (.iaload, 1) := by decide +kernel
theorem d_Mo_putting_57 : decode b_Mo_putting 57 = .ok (.ifCond .le 11, 3) := by decide +kernel
theorem d_Mo_putting_60 : decode b_Mo_putting 60 = .ok (.iload_n 2, 1) := by decide +kernel
theorem d_Mo_putting_61 : decode b_Mo_putting 61 = .ok (.iconst 2, 1) := by decide +kernel
theorem d_Mo_putting_62 : decode b_Mo_putting 62 = .ok (.if_icmp .ge 6, 3) := by decide +kernel
theorem d_Mo_putting_65 : decode b_Mo_putting 65 = .ok (.bipush (-3), 2) := by decide +kernel
theorem d_Mo_putting_67 : decode b_Mo_putting 67 = .ok (.ireturn, 1) := by decide +kernel
theorem d_Mo_putting_68 : decode b_Mo_putting 68 = .ok (.iload_n 2, 1) := by decide +kernel
theorem d_Mo_putting_69 : decode b_Mo_putting 69 = .ok (.iconst 2, 1) := by decide +kernel
theorem d_Mo_putting_70 : decode b_Mo_putting 70 = .ok (.irem, 1) := by decide +kernel
theorem d_Mo_putting_71 : decode b_Mo_putting 71 = .ok (.iconst 1, 1) := by decide +kernel
theorem d_Mo_putting_72 : decode b_Mo_putting 72 = .ok (.if_icmp .ne 7, 3) := by decide +kernel
theorem d_Mo_putting_75 : decode b_Mo_putting 75 = .ok (.iconst 1, 1) := by decide +kernel
theorem d_Mo_putting_76 : decode b_Mo_putting 76 = .ok (.goto 4, 3) := by decide +kernel
theorem d_Mo_putting_79 : decode b_Mo_putting 79 = .ok (.iconst 0, 1) := by decide +kernel
theorem d_Mo_putting_80 : decode b_Mo_putting 80 = .ok (.istore 6, 2) := by decide +kernel
theorem d_Mo_putting_82 : decode b_Mo_putting 82 = .ok (.iload 6, 2) := by decide +kernel
theorem d_Mo_putting_84 : decode b_Mo_putting 84 = .ok (.ifCond .eq 24, 3) := by decide +kernel
theorem d_Mo_putting_87 : decode b_Mo_putting 87 = .ok (.aload_n 0, 1) := by decide +kernel
theorem d_Mo_putting_88 : decode b_Mo_putting 88 = .ok (.iload_n 1, 1) := by decide +kernel
theorem d_Mo_putting_89 : decode b_Mo_putting 89 = .ok (.invokevirtual 109, 3) := by decide +kernel
theorem d_Mo_putting_92 : decode b_Mo_putting 92 = .ok (.ifCond .eq 16, 3) := by decide +kernel
theorem d_Mo_putting_95 : decode b_Mo_putting 95 = .ok (.aload_n 0, 1) := by decide +kernel
theorem d_Mo_putting_96 : decode b_Mo_putting 96 = .ok (.iload_n 1, 1) := by decide +kernel
theorem d_Mo_putting_97 : decode b_Mo_putting 97 = .ok (.invokevirtual 109, 3) := by decide +kernel
theorem d_Mo_putting_100 : decode b_Mo_putting 100 = .ok (.iload 5, 2) := by decide +kernel
theorem d_Mo_putting_102 : decode b_Mo_putting 102 = .ok (.if_icmp .eq 6, 3) := by decide +kernel
theorem d_Mo_putting_105 : decode b_Mo_putting 105 = .ok (.bipush (-5), 2) := by decide +kernel
theorem d_Mo_putting_107 : decode b_Mo_putting 107 = .ok (.ireturn, 1) := by decide +kernel
theorem d_Mo_putting_108 : decode b_Mo_putting 108 = .ok (.aload_n 0, 1) := by decide +kernel
theorem d_Mo_putting_109 : decode b_Mo_putting 109 = .ok (.getfield 79, 3) := by decide +kernel
theorem d_Mo_putting_112 : decode b_Mo_putting 112 = .ok (.aload_n 0, 1) := by decide +kernel
theorem d_Mo_putting_113 : decode b_Mo_putting 113 = .ok (.getfield 72, 3) := by decide +kernel
theorem d_Mo_putting_116 : decode b_Mo_putting 116 = .ok (.if_icmp .lt 5, 3) := by decide +kernel
theorem d_Mo_putting_119 : decode b_Mo_putting 119 = .ok (.iconst (-1), 1) := by decide +kernel
theorem d_Mo_putting_120 : decode b_Mo_putting 120 = .ok (.ireturn, 1) := by decide +kernel
theorem d_Mo_putting_121 : decode b_Mo_putting 121 = .ok (.aload_n 0, 1) := by decide +kernel
theorem d_Mo_putting_122 : decode b_Mo_putting 122 = .ok (.getfield 23, 3) := by decide +kernel
theorem d_Mo_putting_125 : decode b_Mo_putting 125 = .ok (.iload_n 1, 1) := by decide +kernel
theorem d_Mo_putting_126 : decode b_Mo_putting 126 = .ok (.iload_n 2, 1) := by decide +kernel
theorem d_Mo_putting_127 : decode b_Mo_putting 127 = .ok (.iastore, 1) := by decide +kernel
theorem d_Mo_putting_128 : decode b_Mo_putting 128 = .ok (.aload_n 0, 1) := by decide +kernel
theorem d_Mo_putting_129 : decode b_Mo_putting 129 = .ok (.getfield 26, 3) := by decide +kernel
theorem d_Mo_putting_132 : decode b_Mo_putting 132 = .ok (.iload_n 1, 1) := by decide +kernel
theorem d_Mo_putting_133 : decode b_Mo_putting 133 = .ok (.iload_n 2, 1) := by decide +kernel
theorem d_Mo_putting_134 : decode b_Mo_putting 134 = .ok (.iconst 1, 1) := by decide +kernel
theorem d_Mo_putting_135 : decode b_Mo_putting 135 = .ok (.if_icmp .le 14, 3) := by decide +kernel
theorem d_Mo_putting_138 : decode b_Mo_putting 138 = .ok (.aload_n 0, 1) := by decide +kernel
theorem d_Mo_putting_139 : decode b_Mo_putting 139 = .ok (.getfield 26, 3) := by decide +kernel
theorem d_Mo_putting_142 : decode b_Mo_putting 142 = .ok (.iload_n 1, 1) := by decide +kernel
theorem d_Mo_putting_143 : decode b_Mo_putting 143 = .ok (.iaload, 1) := by decide +kernel
theorem d_Mo_putting_144 : decode b_Mo_putting 144 = .ok (.iconst 1, 1) := by decide +kernel
theorem d_Mo_putting_145 : decode b_Mo_putting 145 = .ok (.iadd, 1) := by decide +kernel
theorem d_Mo_putting_146 : decode b_Mo_putting 146 = .ok (.goto 9, 3) := by decide +kernel
theorem d_Mo_putting_149 : decode b_Mo_putting 149 = .ok (.aload_n 0, 1) := by decide +kernel
theorem d_Mo_putting_150 : decode b_Mo_putting 150 = .ok (.getfield 26, 3) := by decide +kernel
theorem d_Mo_putting_153 : decode b_Mo_putting 153 = .ok (.iload_n 1, 1) := by decide +kernel
theorem d_Mo_putting_154 : decode b_Mo_putting 154 = .ok (.iaload, 1) := by decide +kernel
theorem d_Mo_putting_155 : decode b_Mo_putting 155 = .ok (.iastore, 1) := by decide +kernel
theorem d_Mo_putting_156 : decode b_Mo_putting 156 = .ok (.aload_n 0, 1) := by decide +kernel
theorem d_Mo_putting_157 : decode b_Mo_putting 157 = .ok (.getfield 7, 3) := by decide +kernel
theorem d_Mo_putting_160 : decode b_Mo_putting 160 = .ok (.aload_n 0, 1) := by decide +kernel
theorem d_Mo_putting_161 : decode b_Mo_putting 161 = .ok (.getfield 79, 3) := by decide +kernel
theorem d_Mo_putting_164 : decode b_Mo_putting 164 = .ok (.iload_n 1, 1) := by decide +kernel
theorem d_Mo_putting_165 : decode b_Mo_putting 165 = .ok (.iastore, 1) := by decide +kernel
theorem d_Mo_putting_166 : decode b_Mo_putting 166 = .ok (.aload_n 0, 1) := by decide +kernel
theorem d_Mo_putting_167 : decode b_Mo_putting 167 = .ok (.getfield 19, 3) := by decide +kernel
theorem d_Mo_putting_170 : decode b_Mo_putting 170 = .ok (.aload_n 0, 1) := by decide +kernel
theorem d_Mo_putting_171 : decode b_Mo_putting 171 = .ok (.getfield 79, 3) := by decide +kernel
theorem d_Mo_putting_174 : decode b_Mo_putting 174 = .ok (.lload_n 3, 1) := by decide +kernel
theorem d_Mo_putting_175 : decode b_Mo_putting 175 = .ok (.lastore, 1) := by decide +kernel
theorem d_Mo_putting_176 : decode b_Mo_putting 176 = .ok (.aload_n 0, 1) := by decide +kernel
theorem d_Mo_putting_177 : decode b_Mo_putting 177 = .ok (.getfield 16, 3) := by decide +kernel
theorem d_Mo_putting_180 : decode b_Mo_putting 180 = .ok (.aload_n 0, 1) := by decide +kernel
theorem d_Mo_putting_181 : decode b_Mo_putting 181 = .ok (.getfield 79, 3) := by decide +kernel
theorem d_Mo_putting_184 : decode b_Mo_putting 184 = .ok (.iload 6, 2) := by decide +kernel
theorem d_Mo_putting_186 : decode b_Mo_putting 186 = .ok (.ifCond .eq 8, 3) := by decide +kernel
theorem d_Mo_putting_189 : decode b_Mo_putting 189 = .ok (.iload 5, 2) := by decide +kernel
theorem d_Mo_putting_191 : decode b_Mo_putting 191 = .ok (.goto 4, 3) := by decide +kernel
theorem d_Mo_putting_194 : decode b_Mo_putting 194 = .ok (.iconst 0, 1) := by decide +kernel
theorem d_Mo_putting_195 : decode b_Mo_putting 195 = .ok (.iastore, 1) := by decide +kernel
theorem d_Mo_putting_196 : decode b_Mo_putting 196 = .ok (.aload_n 0, 1) := by decide +kernel
theorem d_Mo_putting_197 : decode b_Mo_putting 197 = .ok (.dup, 1) := by decide +kernel
theorem d_Mo_putting_198 : decode b_Mo_putting 198 = .ok (.getfield 79, 3) := by decide +kernel
theorem d_Mo_putting_201 : decode b_Mo_putting 201 = .ok (.iconst 1, 1) := by decide +kernel
theorem d_Mo_putting_202 : decode b_Mo_putting 202 = .ok (.iadd, 1) := by decide +kernel
theorem d_Mo_putting_203 : decode b_Mo_putting 203 = .ok (.putfield 79, 3) := by decide +kernel
theorem d_Mo_putting_206 : decode b_Mo_putting 206 = .ok (.aload_n 0, 1) := by decide +kernel
theorem d_Mo_putting_207 : decode b_Mo_putting 207 = .ok (.getfield 13, 3) := by decide +kernel
theorem d_Mo_putting_210 : decode b_Mo_putting 210 = .ok (.aload_n 0, 1) := by decide +kernel
theorem d_Mo_putting_211 : decode b_Mo_putting 211 = .ok (.getfield 79, 3) := by decide +kernel
theorem d_Mo_putting_214 : decode b_Mo_putting 214 = .ok (.iconst 1, 1) := by decide +kernel
theorem d_Mo_putting_215 : decode b_Mo_putting 215 = .ok (.isub, 1) := by decide +kernel
theorem d_Mo_putting_216 : decode b_Mo_putting 216 = .ok (.iload_n 2, 1) := by decide +kernel
theorem d_Mo_putting_217 : decode b_Mo_putting 217 = .ok (.iconst 1, 1) := by decide +kernel
theorem d_Mo_putting_218 : decode b_Mo_putting 218 = .ok (.if_icmp .le 12, 3) := by decide +kernel
theorem d_Mo_putting_221 : decode b_Mo_putting 221 = .ok (.aload_n 0, 1) := by decide +kernel
theorem d_Mo_putting_222 : decode b_Mo_putting 222 = .ok (.getfield 26, 3) := by decide +kernel
theorem d_Mo_putting_225 : decode b_Mo_putting 225 = .ok (.iload_n 1, 1) := by decide +kernel
theorem d_Mo_putting_226 : decode b_Mo_putting 226 = .ok (.iaload, 1) := by decide +kernel
theorem d_Mo_putting_227 : decode b_Mo_putting 227 = .ok (.goto 8, 3) := by decide +kernel
theorem d_Mo_putting_230 : decode b_Mo_putting 230 = .ok (.aload_n 0, 1) := by decide +kernel
theorem d_Mo_putting_231 : decode b_Mo_putting 231 = .ok (.iload_n 1, 1) := by decide +kernel
theorem d_Mo_putting_232 : decode b_Mo_putting 232 = .ok (.invokevirtual 82, 3) := by decide +kernel
theorem d_Mo_putting_235 : decode b_Mo_putting 235 = .ok (.iastore, 1) := by decide +kernel
theorem d_Mo_putting_236 : decode b_Mo_putting 236 = .ok (.aload_n 0, 1) := by decide +kernel
theorem d_Mo_putting_237 : decode b_Mo_putting 237 = .ok (.getfield 48, 3) := by decide +kernel
theorem d_Mo_putting_240 : decode b_Mo_putting 240 = .ok (.iload_n 1, 1) := by decide +kernel
theorem d_Mo_putting_241 : decode b_Mo_putting 241 = .ok (.aload_n 0, 1) := by decide +kernel
theorem d_Mo_putting_242 : decode b_Mo_putting 242 = .ok (.getfield 112, 3) := by decide +kernel
theorem d_Mo_putting_245 : decode b_Mo_putting 245 = .ok (.lastore, 1) := by decide +kernel
theorem d_Mo_putting_246 : decode b_Mo_putting 246 = .ok (.aload_n 0, 1) := by decide +kernel
theorem d_Mo_putting_247 : decode b_Mo_putting 247 = .ok (.getfield 13, 3) := by decide +kernel
theorem d_Mo_putting_250 : decode b_Mo_putting 250 = .ok (.aload_n 0, 1) := by decide +kernel
theorem d_Mo_putting_251 : decode b_Mo_putting 251 = .ok (.getfield 79, 3) := by decide +kernel
theorem d_Mo_putting_254 : decode b_Mo_putting 254 = .ok (.iconst 1, 1) := by decide +kernel
theorem d_Mo_putting_255 : decode b_Mo_putting 255 = .ok (.isub, 1) := by decide +kernel
theorem d_Mo_putting_256 : decode b_Mo_putting 256 = .ok (.iaload, 1) := by decide +kernel
theorem d_Mo_putting_257 : decode b_Mo_putting 257 = .ok (.ireturn, 1) := by decide +kernel
theorem d_Mo_isQueue_0 : decode b_Mo_isQueue 0 = .ok (.iload_n 0, 1) := by decide +kernel
theorem d_Mo_isQueue_1 : decode b_Mo_isQueue 1 = .ok (.ifCond .lt 13, 3) := by decide +kernel
theorem d_Mo_isQueue_4 : decode b_Mo_isQueue 4 = .ok (.iload_n 0, 1) := by decide +kernel
theorem d_Mo_isQueue_5 : decode b_Mo_isQueue 5 = .ok (.bipush 32, 2) := by decide +kernel
theorem d_Mo_isQueue_7 : decode b_Mo_isQueue 7 = .ok (.if_icmp .ge 7, 3) := by decide +kernel
theorem d_Mo_isQueue_10 : decode b_Mo_isQueue 10 = .ok (.iconst 1, 1) := by decide +kernel
theorem d_Mo_isQueue_11 : decode b_Mo_isQueue 11 = .ok (.goto 4, 3) := by decide +kernel
theorem d_Mo_isQueue_14 : decode b_Mo_isQueue 14 = .ok (.iconst 0, 1) := by decide +kernel
theorem d_Mo_isQueue_15 : decode b_Mo_isQueue 15 = .ok (.ireturn, 1) := by decide +kernel
theorem d_Mo_lockOf_0 : decode b_Mo_lockOf 0 = .ok (.iconst 0, 1) := by decide +kernel
theorem d_Mo_lockOf_1 : decode b_Mo_lockOf 1 = .ok (.istore_n 2, 1) := by decide +kernel
theorem d_Mo_lockOf_2 : decode b_Mo_lockOf 2 = .ok (.iconst 0, 1) := by decide +kernel
theorem d_Mo_lockOf_3 : decode b_Mo_lockOf 3 = .ok (.istore_n 3, 1) := by decide +kernel
theorem d_Mo_lockOf_4 : decode b_Mo_lockOf 4 = .ok (.iload_n 3, 1) := by decide +kernel
theorem d_Mo_lockOf_5 : decode b_Mo_lockOf 5 = .ok (.aload_n 0, 1) := by decide +kernel
theorem d_Mo_lockOf_6 : decode b_Mo_lockOf 6 = .ok (.getfield 79, 3) := by decide +kernel
theorem d_Mo_lockOf_9 : decode b_Mo_lockOf 9 = .ok (.if_icmp .ge 39, 3) := by decide +kernel
theorem d_Mo_lockOf_12 : decode b_Mo_lockOf 12 = .ok (.aload_n 0, 1) := by decide +kernel
theorem d_Mo_lockOf_13 : decode b_Mo_lockOf 13 = .ok (.getfield 7, 3) := by decide +kernel
theorem d_Mo_lockOf_16 : decode b_Mo_lockOf 16 = .ok (.iload_n 3, 1) := by decide +kernel
theorem d_Mo_lockOf_17 : decode b_Mo_lockOf 17 = .ok (.iaload, 1) := by decide +kernel
theorem d_Mo_lockOf_18 : decode b_Mo_lockOf 18 = .ok (.iload_n 1, 1) := by decide +kernel
theorem d_Mo_lockOf_19 : decode b_Mo_lockOf 19 = .ok (.if_icmp .ne 21, 3) := by decide +kernel
theorem d_Mo_lockOf_22 : decode b_Mo_lockOf 22 = .ok (.aload_n 0, 1) := by decide +kernel
theorem d_Mo_lockOf_23 : decode b_Mo_lockOf 23 = .ok (.getfield 16, 3) := by decide +kernel
theorem d_Mo_lockOf_26 : decode b_Mo_lockOf 26 = .ok (.iload_n 3, 1) := by decide +kernel
theorem d_Mo_lockOf_27 : decode b_Mo_lockOf 27 = .ok (.iaload, 1) := by decide +kernel
theorem d_Mo_lockOf_28 : decode b_Mo_lockOf 28 = .ok (.ifCond .le 12, 3) := by decide +kernel
theorem d_Mo_lockOf_31 : decode b_Mo_lockOf 31 = .ok (.aload_n 0, 1) := by decide +kernel
theorem d_Mo_lockOf_32 : decode b_Mo_lockOf 32 = .ok (.getfield 16, 3) := by decide +kernel
theorem d_Mo_lockOf_35 : decode b_Mo_lockOf 35 = .ok (.iload_n 3, 1) := by decide +kernel
theorem d_Mo_lockOf_36 : decode b_Mo_lockOf 36 = .ok (.iaload, 1) := by decide +kernel
theorem d_Mo_lockOf_37 : decode b_Mo_lockOf 37 = .ok (.goto 4, 3) := by decide +kernel
theorem d_Mo_lockOf_40 : decode b_Mo_lockOf 40 = .ok (.iload_n 2, 1) := by decide +kernel
theorem d_Mo_lockOf_41 : decode b_Mo_lockOf 41 = .ok (.istore_n 2, 1) := by decide +kernel
theorem d_Mo_lockOf_42 : decode b_Mo_lockOf 42 = .ok (.iinc 3 1, 3) := by decide +kernel
theorem d_Mo_lockOf_45 : decode b_Mo_lockOf 45 = .ok (.goto (-41), 3) := by decide +kernel
theorem d_Mo_lockOf_48 : decode b_Mo_lockOf 48 = .ok (.iload_n 2, 1) := by decide +kernel
theorem d_Mo_lockOf_49 : decode b_Mo_lockOf 49 = .ok (.ireturn, 1) := by decide +kernel
theorem d_Mo_many_0 : decode b_Mo_many 0 = .ok (.iconst 0, 1) := by decide +kernel
theorem d_Mo_many_1 : decode b_Mo_many 1 = .ok (.istore_n 2, 1) := by decide +kernel
theorem d_Mo_many_2 : decode b_Mo_many 2 = .ok (.iconst 0, 1) := by decide +kernel
theorem d_Mo_many_3 : decode b_Mo_many 3 = .ok (.istore_n 3, 1) := by decide +kernel
theorem d_Mo_many_4 : decode b_Mo_many 4 = .ok (.iload_n 3, 1) := by decide +kernel
theorem d_Mo_many_5 : decode b_Mo_many 5 = .ok (.aload_n 0, 1) := by decide +kernel
theorem d_Mo_many_6 : decode b_Mo_many 6 = .ok (.getfield 79, 3) := by decide +kernel
theorem d_Mo_many_9 : decode b_Mo_many 9 = .ok (.if_icmp .ge 27, 3) := by decide +kernel
theorem d_Mo_many_12 : decode b_Mo_many 12 = .ok (.iload_n 2, 1) := by decide +kernel
theorem d_Mo_many_13 : decode b_Mo_many 13 = .ok (.aload_n 0, 1) := by decide +kernel
theorem d_Mo_many_14 : decode b_Mo_many 14 = .ok (.getfield 7, 3) := by decide +kernel
theorem d_Mo_many_17 : decode b_Mo_many 17 = .ok (.iload_n 3, 1) := by decide +kernel
theorem d_Mo_many_18 : decode b_Mo_many 18 = .ok (.iaload, 1) := by decide +kernel
theorem d_Mo_many_19 : decode b_Mo_many 19 = .ok (.iload_n 1, 1) := by decide +kernel
theorem d_Mo_many_20 : decode b_Mo_many 20 = .ok (.if_icmp .ne 7, 3) := by decide +kernel
theorem d_Mo_many_23 : decode b_Mo_many 23 = .ok (.iconst 1, 1) := by decide +kernel
theorem d_Mo_many_24 : decode b_Mo_many 24 = .ok (.goto 4, 3) := by decide +kernel
theorem d_Mo_many_27 : decode b_Mo_many 27 = .ok (.iconst 0, 1) := by decide +kernel
theorem d_Mo_many_28 : decode b_Mo_many 28 = .ok (.iadd, 1) := by decide +kernel
theorem d_Mo_many_29 : decode b_Mo_many 29 = .ok (.istore_n 2, 1) := by decide +kernel
theorem d_Mo_many_30 : decode b_Mo_many 30 = .ok (.iinc 3 1, 3) := by decide +kernel
theorem d_Mo_many_33 : decode b_Mo_many 33 = .ok (.goto (-29), 3) := by decide +kernel
theorem d_Mo_many_36 : decode b_Mo_many 36 = .ok (.iload_n 2, 1) := by decide +kernel
theorem d_Mo_many_37 : decode b_Mo_many 37 = .ok (.ireturn, 1) := by decide +kernel
theorem d_Mo_answer_0 : decode b_Mo_answer 0 = .ok (.aload_n 0, 1) := by decide +kernel
theorem d_Mo_answer_1 : decode b_Mo_answer 1 = .ok (.iconst 0, 1) := by decide +kernel
theorem d_Mo_answer_2 : decode b_Mo_answer 2 = .ok (.putfield 76, 3) := by decide +kernel
theorem d_Mo_answer_5 : decode b_Mo_answer 5 = .ok (.aload_n 0, 1) := by decide +kernel
theorem d_Mo_answer_6 : decode b_Mo_answer 6 = .ok (.invokevirtual 102, 3) := by decide +kernel
theorem d_Mo_answer_9 : decode b_Mo_answer 9 = .ok (.iload_n 1, 1) := by decide +kernel
theorem d_Mo_answer_10 : decode b_Mo_answer 10 = .ok (.ireturn, 1) := by decide +kernel
theorem d_Mo_look_0 : decode b_Mo_look 0 = .ok (.iconst 0, 1) := by decide +kernel
theorem d_Mo_look_1 : decode b_Mo_look 1 = .ok (.istore_n 1, 1) := by decide +kernel
theorem d_Mo_look_2 : decode b_Mo_look 2 = .ok (.iload_n 1, 1) := by decide +kernel
theorem d_Mo_look_3 : decode b_Mo_look 3 = .ok (.bipush 32, 2) := by decide +kernel
theorem d_Mo_look_5 : decode b_Mo_look 5 = .ok (.if_icmp .ge 115, 3) := by decide +kernel
theorem d_Mo_look_8 : decode b_Mo_look 8 = .ok (.aload_n 0, 1) := by decide +kernel
theorem d_Mo_look_9 : decode b_Mo_look 9 = .ok (.getfield 29, 3) := by decide +kernel
theorem d_Mo_look_12 : decode b_Mo_look 12 = .ok (.iload_n 1, 1) := by decide +kernel
theorem d_Mo_look_13 : decode b_Mo_look 13 = .ok (.iaload, 1) := by decide +kernel
theorem d_Mo_look_14 : decode b_Mo_look 14 = .ok (.ifCond .ne 6, 3) := by decide +kernel
theorem d_Mo_look_17 : decode b_Mo_look 17 = .ok (.goto 97, 3) := by decide +kernel
theorem d_Mo_look_20 : decode b_Mo_look 20 = .ok (.aload_n 0, 1) := by decide +kernel
theorem d_Mo_look_21 : decode b_Mo_look 21 = .ok (.iload_n 1, 1) := by decide +kernel
theorem d_Mo_look_22 : decode b_Mo_look 22 = .ok (.invokevirtual 96, 3) := by decide +kernel
theorem d_Mo_look_25 : decode b_Mo_look 25 = .ok (.istore_n 2, 1) := by decide +kernel
theorem d_Mo_look_26 : decode b_Mo_look 26 = .ok (.aload_n 0, 1) := by decide +kernel
theorem d_Mo_look_27 : decode b_Mo_look 27 = .ok (.getfield 41, 3) := by decide +kernel
theorem d_Mo_look_30 : decode b_Mo_look 30 = .ok (.iload_n 1, 1) := by decide +kernel
theorem d_Mo_look_31 : decode b_Mo_look 31 = .ok (.aload_n 0, 1) := by decide +kernel
theorem d_Mo_look_32 : decode b_Mo_look 32 = .ok (.getfield 41, 3) := by decide +kernel
theorem d_Mo_look_35 : decode b_Mo_look 35 = .ok (.iload_n 1, 1) := by decide +kernel
theorem d_Mo_look_36 : decode b_Mo_look 36 = .ok (.baload, 1) := by decide +kernel
theorem d_Mo_look_37 : decode b_Mo_look 37 = .ok (.ifCond .ne 13, 3) := by decide +kernel
theorem d_Mo_look_40 : decode b_Mo_look 40 = .ok (.iload_n 2, 1) := by decide +kernel
theorem d_Mo_look_41 : decode b_Mo_look 41 = .ok (.aload_n 0, 1) := by decide +kernel
theorem d_Mo_look_42 : decode b_Mo_look 42 = .ok (.getfield 29, 3) := by decide +kernel
theorem d_Mo_look_45 : decode b_Mo_look 45 = .ok (.iload_n 1, 1) := by decide +kernel
theorem d_Mo_look_46 : decode b_Mo_look 46 = .ok (.iaload, 1) := by decide +kernel
theorem d_Mo_look_47 : decode b_Mo_look 47 = .ok (.if_icmp .ge 7, 3) := by decide +kernel
theorem d_Mo_look_50 : decode b_Mo_look 50 = .ok (.iconst 1, 1) := by decide +kernel
theorem d_Mo_look_51 : decode b_Mo_look 51 = .ok (.goto 4, 3) := by decide +kernel
theorem d_Mo_look_54 : decode b_Mo_look 54 = .ok (.iconst 0, 1) := by decide +kernel
theorem d_Mo_look_55 : decode b_Mo_look 55 = .ok (.bastore, 1) := by decide +kernel
theorem d_Mo_look_56 : decode b_Mo_look 56 = .ok (.aload_n 0, 1) := by decide +kernel
theorem d_Mo_look_57 : decode b_Mo_look 57 = .ok (.getfield 41, 3) := by decide +kernel
theorem d_Mo_look_60 : decode b_Mo_look 60 = .ok (.iload_n 1, 1) := by decide +kernel
theorem d_Mo_look_61 : decode b_Mo_look 61 = .ok (.baload, 1) := by decide +kernel
theorem d_Mo_look_62 : decode b_Mo_look 62 = .ok (.ifCond .eq 52, 3) := by decide +kernel
theorem d_Mo_look_65 : decode b_Mo_look 65 = .ok (.aload_n 0, 1) := by decide +kernel
theorem d_Mo_look_66 : decode b_Mo_look 66 = .ok (.getfield 35, 3) := by decide +kernel
theorem d_Mo_look_69 : decode b_Mo_look 69 = .ok (.iload_n 1, 1) := by decide +kernel
theorem d_Mo_look_70 : decode b_Mo_look 70 = .ok (.iaload, 1) := by decide +kernel
theorem d_Mo_look_71 : decode b_Mo_look 71 = .ok (.ifCond .ne 43, 3) := by decide +kernel
theorem d_Mo_look_74 : decode b_Mo_look 74 = .ok (.iload_n 2, 1) := by decide +kernel
theorem d_Mo_look_75 : decode b_Mo_look 75 = .ok (.aload_n 0, 1) := by decide +kernel
theorem d_Mo_look_76 : decode b_Mo_look 76 = .ok (.getfield 29, 3) := by decide +kernel
theorem d_Mo_look_79 : decode b_Mo_look 79 = .ok (.iload_n 1, 1) := by decide +kernel
theorem d_Mo_look_80 : decode b_Mo_look 80 = .ok (.iaload, 1) := by decide +kernel
theorem d_Mo_look_81 : decode b_Mo_look 81 = .ok (.if_icmp .lt 33, 3) := by decide +kernel
theorem d_Mo_look_84 : decode b_Mo_look 84 = .ok (.aload_n 0, 1) := by decide +kernel
theorem d_Mo_look_85 : decode b_Mo_look 85 = .ok (.getfield 35, 3) := by decide +kernel
theorem d_Mo_look_88 : decode b_Mo_look 88 = .ok (.iload_n 1, 1) := by decide +kernel
theorem d_Mo_look_89 : decode b_Mo_look 89 = .ok (.aload_n 0, 1) := by decide +kernel
theorem d_Mo_look_90 : decode b_Mo_look 90 = .ok (.aload_n 0, 1) := by decide +kernel
theorem d_Mo_look_91 : decode b_Mo_look 91 = .ok (.getfield 32, 3) := by decide +kernel
theorem d_Mo_look_94 : decode b_Mo_look 94 = .ok (.iload_n 1, 1) := by decide +kernel
theorem d_Mo_look_95 : decode b_Mo_look 95 = .ok (.iaload, 1) := by decide +kernel
theorem d_Mo_look_96 : decode b_Mo_look 96 = .ok (.invokevirtual 99, 3) := by decide +kernel
theorem d_Mo_look_99 : decode b_Mo_look 99 = .ok (.iastore, 1) := by decide +kernel
theorem d_Mo_look_100 : decode b_Mo_look 100 = .ok (.aload_n 0, 1) := by decide +kernel
theorem d_Mo_look_101 : decode b_Mo_look 101 = .ok (.getfield 45, 3) := by decide +kernel
theorem d_Mo_look_104 : decode b_Mo_look 104 = .ok (.iload_n 1, 1) := by decide +kernel
theorem d_Mo_look_105 : decode b_Mo_look 105 = .ok (.iconst 0, 1) := by decide +kernel
theorem d_Mo_look_106 : decode b_Mo_look 106 = .ok (.bastore, 1) := by decide +kernel
theorem d_Mo_look_107 : decode b_Mo_look 107 = .ok (.aload_n 0, 1) := by decide +kernel
theorem d_Mo_look_108 : decode b_Mo_look 108 = .ok (.getfield 41, 3) := by decide +kernel
theorem d_Mo_look_111 : decode b_Mo_look 111 = .ok (.iload_n 1, 1) := by decide +kernel
theorem d_Mo_look_112 : decode b_Mo_look 112 = .ok (.iconst 0, 1) := by decide +kernel
theorem d_Mo_look_113 : decode b_Mo_look 113 = .ok (.bastore, 1) := by decide +kernel
theorem d_Mo_look_114 : decode b_Mo_look 114 = .ok (.iinc 1 1, 3) := by decide +kernel
theorem d_Mo_look_117 : decode b_Mo_look 117 = .ok (.goto (-115), 3) := by decide +kernel
theorem d_Mo_look_120 : decode b_Mo_look 120 = .ok (.return_, 1) := by decide +kernel
theorem d_Mo_standing_0 : decode b_Mo_standing 0 = .ok (.iconst 0, 1) := by decide +kernel
theorem d_Mo_standing_1 : decode b_Mo_standing 1 = .ok (.istore_n 2, 1) := by decide +kernel
theorem d_Mo_standing_2 : decode b_Mo_standing 2 = .ok (.iconst 0, 1) := by decide +kernel
theorem d_Mo_standing_3 : decode b_Mo_standing 3 = .ok (.istore_n 3, 1) := by decide +kernel
theorem d_Mo_standing_4 : decode b_Mo_standing 4 = .ok (.iload_n 3, 1) := by decide +kernel
theorem d_Mo_standing_5 : decode b_Mo_standing 5 = .ok (.aload_n 0, 1) := by decide +kernel
theorem d_Mo_standing_6 : decode b_Mo_standing 6 = .ok (.getfield 79, 3) := by decide +kernel
theorem d_Mo_standing_9 : decode b_Mo_standing 9 = .ok (.if_icmp .ge 36, 3) := by decide +kernel
theorem d_Mo_standing_12 : decode b_Mo_standing 12 = .ok (.iload_n 2, 1) := by decide +kernel
theorem d_Mo_standing_13 : decode b_Mo_standing 13 = .ok (.aload_n 0, 1) := by decide +kernel
theorem d_Mo_standing_14 : decode b_Mo_standing 14 = .ok (.getfield 7, 3) := by decide +kernel
theorem d_Mo_standing_17 : decode b_Mo_standing 17 = .ok (.iload_n 3, 1) := by decide +kernel
theorem d_Mo_standing_18 : decode b_Mo_standing 18 = .ok (.iaload, 1) := by decide +kernel
theorem d_Mo_standing_19 : decode b_Mo_standing 19 = .ok (.iload_n 1, 1) := by decide +kernel
theorem d_Mo_standing_20 : decode b_Mo_standing 20 = .ok (.if_icmp .ne 16, 3) := by decide +kernel
theorem d_Mo_standing_23 : decode b_Mo_standing 23 = .ok (.aload_n 0, 1) := by decide +kernel
theorem d_Mo_standing_24 : decode b_Mo_standing 24 = .ok (.getfield 16, 3) := by decide +kernel
theorem d_Mo_standing_27 : decode b_Mo_standing 27 = .ok (.iload_n 3, 1) := by decide +kernel
theorem d_Mo_standing_28 : decode b_Mo_standing 28 = .ok (.iaload, 1) := by decide +kernel
theorem d_Mo_standing_29 : decode b_Mo_standing 29 = .ok (.ifCond .ne 7, 3) := by decide +kernel
theorem d_Mo_standing_32 : decode b_Mo_standing 32 = .ok (.iconst 1, 1) := by decide +kernel
theorem d_Mo_standing_33 : decode b_Mo_standing 33 = .ok (.goto 4, 3) := by decide +kernel
theorem d_Mo_standing_36 : decode b_Mo_standing 36 = .ok (.iconst 0, 1) := by decide +kernel
theorem d_Mo_standing_37 : decode b_Mo_standing 37 = .ok (.iadd, 1) := by decide +kernel
theorem d_Mo_standing_38 : decode b_Mo_standing 38 = .ok (.istore_n 2, 1) := by decide +kernel
theorem d_Mo_standing_39 : decode b_Mo_standing 39 = .ok (.iinc 3 1, 3) := by decide +kernel
theorem d_Mo_standing_42 : decode b_Mo_standing 42 = .ok (.goto (-38), 3) := by decide +kernel
theorem d_Mo_standing_45 : decode b_Mo_standing 45 = .ok (.iload_n 2, 1) := by decide +kernel
theorem d_Mo_standing_46 : decode b_Mo_standing 46 = .ok (.ireturn, 1) := by decide +kernel
theorem d_Mo_task_0 : decode b_Mo_task 0 = .ok (.aload_n 0, 1) := by decide +kernel
theorem d_Mo_task_1 : decode b_Mo_task 1 = .ok (.getfield 57, 3) := by decide +kernel
theorem d_Mo_task_4 : decode b_Mo_task 4 = .ok (.aload_n 0, 1) := by decide +kernel
theorem d_Mo_task_5 : decode b_Mo_task 5 = .ok (.getfield 90, 3) := by decide +kernel
theorem d_Mo_task_8 : decode b_Mo_task 8 = .ok (.iload_n 1, 1) := by decide +kernel
theorem d_Mo_task_9 : decode b_Mo_task 9 = .ok (.iastore, 1) := by decide +kernel
theorem d_Mo_task_10 : decode b_Mo_task 10 = .ok (.aload_n 0, 1) := by decide +kernel
theorem d_Mo_task_11 : decode b_Mo_task 11 = .ok (.getfield 60, 3) := by decide +kernel
theorem d_Mo_task_14 : decode b_Mo_task 14 = .ok (.aload_n 0, 1) := by decide +kernel
theorem d_Mo_task_15 : decode b_Mo_task 15 = .ok (.getfield 90, 3) := by decide +kernel
theorem d_Mo_task_18 : decode b_Mo_task 18 = .ok (.iconst 1, 1) := by decide +kernel
theorem d_Mo_task_19 : decode b_Mo_task 19 = .ok (.bastore, 1) := by decide +kernel
theorem d_Mo_task_20 : decode b_Mo_task 20 = .ok (.aload_n 0, 1) := by decide +kernel
theorem d_Mo_task_21 : decode b_Mo_task 21 = .ok (.dup, 1) := by decide +kernel
theorem d_Mo_task_22 : decode b_Mo_task 22 = .ok (.getfield 90, 3) := by decide +kernel
theorem d_Mo_task_25 : decode b_Mo_task 25 = .ok (.iconst 1, 1) := by decide +kernel
theorem d_Mo_task_26 : decode b_Mo_task 26 = .ok (.iadd, 1) := by decide +kernel
theorem d_Mo_task_27 : decode b_Mo_task 27 = .ok (.putfield 90, 3) := by decide +kernel
theorem d_Mo_task_30 : decode b_Mo_task 30 = .ok (.aload_n 0, 1) := by decide +kernel
theorem d_Mo_task_31 : decode b_Mo_task 31 = .ok (.dup, 1) := by decide +kernel
theorem d_Mo_task_32 : decode b_Mo_task 32 = .ok (.getfield 93, 3) := by decide +kernel
theorem d_Mo_task_35 : decode b_Mo_task 35 = .ok (.iconst 1, 1) := by decide +kernel
theorem d_Mo_task_36 : decode b_Mo_task 36 = .ok (.iadd, 1) := by decide +kernel
theorem d_Mo_task_37 : decode b_Mo_task 37 = .ok (.putfield 93, 3) := by decide +kernel
theorem d_Mo_task_40 : decode b_Mo_task 40 = .ok (.aload_n 0, 1) := by decide +kernel
theorem d_Mo_task_41 : decode b_Mo_task 41 = .ok (.getfield 90, 3) := by decide +kernel
theorem d_Mo_task_44 : decode b_Mo_task 44 = .ok (.ireturn, 1) := by decide +kernel
theorem d_Mo_get_0 : decode b_Mo_get 0 = .ok (.aload_n 0, 1) := by decide +kernel
theorem d_Mo_get_1 : decode b_Mo_get 1 = .ok (.iconst 1, 1) := by decide +kernel
theorem d_Mo_get_2 : decode b_Mo_get 2 = .ok (.putfield 76, 3) := by decide +kernel
theorem d_Mo_get_5 : decode b_Mo_get 5 = .ok (.iload_n 1, 1) := by decide +kernel
theorem d_Mo_get_6 : decode b_Mo_get 6 = .ok (.invokestatic 105, 3) := by decide +kernel
theorem d_Mo_get_9 : decode b_Mo_get 9 = .ok (.ifCond .ne 5, 3) := by decide +kernel
theorem d_Mo_get_12 : decode b_Mo_get 12 = .ok (.lconst 0, 1) := by decide +kernel
theorem d_Mo_get_13 : decode b_Mo_get 13 = .ok (.lreturn, 1) := by decide +kernel
theorem d_Mo_get_14 : decode b_Mo_get 14 = .ok (.aload_n 0, 1) := by decide +kernel
theorem d_Mo_get_15 : decode b_Mo_get 15 = .ok (.iload_n 1, 1) := by decide +kernel
theorem d_Mo_get_16 : decode b_Mo_get 16 = .ok (.invokevirtual 123, 3) := by decide +kernel
theorem d_Mo_get_19 : decode b_Mo_get 19 = .ok (.ifCond .ne 44, 3) := by decide +kernel
theorem d_Mo_get_22 : decode b_Mo_get 22 = .ok (.aload_n 0, 1) := by decide +kernel
theorem d_Mo_get_23 : decode b_Mo_get 23 = .ok (.aload_n 0, 1) := by decide +kernel
theorem d_Mo_get_24 : decode b_Mo_get 24 = .ok (.getfield 38, 3) := by decide +kernel
theorem d_Mo_get_27 : decode b_Mo_get 27 = .ok (.iload_n 1, 1) := by decide +kernel
theorem d_Mo_get_28 : decode b_Mo_get 28 = .ok (.iaload, 1) := by decide +kernel
theorem d_Mo_get_29 : decode b_Mo_get 29 = .ok (.iload_n 2, 1) := by decide +kernel
theorem d_Mo_get_30 : decode b_Mo_get 30 = .ok (.if_icmp .ne 11, 3) := by decide +kernel
theorem d_Mo_get_33 : decode b_Mo_get 33 = .ok (.iload_n 2, 1) := by decide +kernel
theorem d_Mo_get_34 : decode b_Mo_get 34 = .ok (.ifCond .le 7, 3) := by decide +kernel
theorem d_Mo_get_37 : decode b_Mo_get 37 = .ok (.iconst 0, 1) := by decide +kernel
theorem d_Mo_get_38 : decode b_Mo_get 38 = .ok (.goto 4, 3) := by decide +kernel
theorem d_Mo_get_41 : decode b_Mo_get 41 = .ok (.iconst 1, 1) := by decide +kernel
theorem d_Mo_get_42 : decode b_Mo_get 42 = .ok (.putfield 76, 3) := by decide +kernel
theorem d_Mo_get_45 : decode b_Mo_get 45 = .ok (.aload_n 0, 1) := by decide +kernel
theorem d_Mo_get_46 : decode b_Mo_get 46 = .ok (.getfield 76, 3) := by decide +kernel
theorem d_Mo_get_49 : decode b_Mo_get 49 = .ok (.ifCond .ne 12, 3) := by decide +kernel
theorem d_Mo_get_52 : decode b_Mo_get 52 = .ok (.aload_n 0, 1) := by decide +kernel
theorem d_Mo_get_53 : decode b_Mo_get 53 = .ok (.getfield 51, 3) := by decide +kernel
theorem d_Mo_get_56 : decode b_Mo_get 56 = .ok (.iload_n 1, 1) := by decide +kernel
theorem d_Mo_get_57 : decode b_Mo_get 57 = .ok (.laload, 1) := by decide +kernel
theorem d_Mo_get_58 : decode b_Mo_get 58 = .ok (.goto 4, 3) := by decide +kernel
theorem d_Mo_get_61 : decode b_Mo_get 61 = .ok (.lconst 0, 1) := by decide +kernel
theorem d_Mo_get_62 : decode b_Mo_get 62 = .ok (.lreturn, 1) := by decide +kernel
theorem d_Mo_get_63 : decode b_Mo_get 63 = .ok (.aload_n 0, 1) := by decide +kernel
theorem d_Mo_get_64 : decode b_Mo_get 64 = .ok (.iload_n 1, 1) := by decide +kernel
theorem d_Mo_get_65 : decode b_Mo_get 65 = .ok (.iload_n 2, 1) := by decide +kernel
theorem d_Mo_get_66 : decode b_Mo_get 66 = .ok (.invokevirtual 126, 3) := by decide +kernel
theorem d_Mo_get_69 : decode b_Mo_get 69 = .ok (.istore_n 3, 1) := by decide +kernel
theorem d_Mo_get_70 : decode b_Mo_get 70 = .ok (.iload_n 3, 1) := by decide +kernel
theorem d_Mo_get_71 : decode b_Mo_get 71 = .ok (.iconst (-1), 1) := by decide +kernel
theorem d_Mo_get_72 : decode b_Mo_get 72 = .ok (.if_icmp .ne 5, 3) := by decide +kernel
theorem d_Mo_get_75 : decode b_Mo_get 75 = .ok (.lconst 0, 1) := by decide +kernel
theorem d_Mo_get_76 : decode b_Mo_get 76 = .ok (.lreturn, 1) := by decide +kernel
theorem d_Mo_get_77 : decode b_Mo_get 77 = .ok (.aload_n 0, 1) := by decide +kernel
theorem d_Mo_get_78 : decode b_Mo_get 78 = .ok (.iconst 0, 1) := by decide +kernel
theorem d_Mo_get_79 : decode b_Mo_get 79 = .ok (.putfield 76, 3) := by decide +kernel
theorem d_Mo_get_82 : decode b_Mo_get 82 = .ok (.aload_n 0, 1) := by decide +kernel
theorem d_Mo_get_83 : decode b_Mo_get 83 = .ok (.getfield 48, 3) := by decide +kernel
theorem d_Mo_get_86 : decode b_Mo_get 86 = .ok (.iload_n 1, 1) := by decide +kernel
theorem d_Mo_get_87 : decode b_Mo_get 87 = .ok (.aload_n 0, 1) := by decide +kernel
theorem d_Mo_get_88 : decode b_Mo_get 88 = .ok (.getfield 112, 3) := by decide +kernel
theorem d_Mo_get_91 : decode b_Mo_get 91 = .ok (.lastore, 1) := by decide +kernel
theorem d_Mo_get_92 : decode b_Mo_get 92 = .ok (.aload_n 0, 1) := by decide +kernel
theorem d_Mo_get_93 : decode b_Mo_get 93 = .ok (.getfield 19, 3) := by decide +kernel
theorem d_Mo_get_96 : decode b_Mo_get 96 = .ok (.iload_n 3, 1) := by decide +kernel
theorem d_Mo_get_97 : decode b_Mo_get 97 = .ok (.laload, 1) := by decide +kernel
theorem d_Mo_get_98 : decode b_Mo_get 98 = .ok (.lreturn, 1) := by decide +kernel
theorem d_Mo_isTemporary_0 : decode b_Mo_isTemporary 0 = .ok (.aload_n 0, 1) := by decide +kernel
theorem d_Mo_isTemporary_1 : decode b_Mo_isTemporary 1 = .ok (.getfield 23, 3) := by decide +kernel
theorem d_Mo_isTemporary_4 : decode b_Mo_isTemporary 4 = .ok (.iload_n 1, 1) := by decide +kernel
theorem d_Mo_isTemporary_5 : decode b_Mo_isTemporary 5 = .ok (.iaload, 1) := by decide +kernel
theorem d_Mo_isTemporary_6 : decode b_Mo_isTemporary 6 = .ok (.ifCond .eq 13, 3) := by decide +kernel
theorem d_Mo_isTemporary_9 : decode b_Mo_isTemporary 9 = .ok (.aload_n 0, 1) := by decide +kernel
theorem d_Mo_isTemporary_10 : decode b_Mo_isTemporary 10 = .ok (.getfield 23, 3) := by decide +kernel
theorem d_Mo_isTemporary_13 : decode b_Mo_isTemporary 13 = .ok (.iload_n 1, 1) := by decide +kernel
theorem d_Mo_isTemporary_14 : decode b_Mo_isTemporary 14 = .ok (.iaload, 1) := by decide +kernel
theorem d_Mo_isTemporary_15 : decode b_Mo_isTemporary 15 = .ok (.iconst 1, 1) := by decide +kernel
theorem d_Mo_isTemporary_16 : decode b_Mo_isTemporary 16 = .ok (.if_icmp .ne 7, 3) := by decide +kernel
theorem d_Mo_isTemporary_19 : decode b_Mo_isTemporary 19 = .ok (.iconst 1, 1) := by decide +kernel
theorem d_Mo_isTemporary_20 : decode b_Mo_isTemporary 20 = .ok (.goto 4, 3) := by decide +kernel
theorem d_Mo_isTemporary_23 : decode b_Mo_isTemporary 23 = .ok (.iconst 0, 1) := by decide +kernel
theorem d_Mo_isTemporary_24 : decode b_Mo_isTemporary 24 = .ok (.ireturn, 1) := by decide +kernel
theorem d_Mo_placeOf_0 : decode b_Mo_placeOf 0 = .ok (.iconst 0, 1) := by decide +kernel
theorem d_Mo_placeOf_1 : decode b_Mo_placeOf 1 = .ok (.istore_n 3, 1) := by decide +kernel
theorem d_Mo_placeOf_2 : decode b_Mo_placeOf 2 = .ok (.iconst 0, 1) := by decide +kernel
theorem d_Mo_placeOf_3 : decode b_Mo_placeOf 3 = .ok (.istore 4, 2) := by decide +kernel
theorem d_Mo_placeOf_5 : decode b_Mo_placeOf 5 = .ok (.iload 4, 2) := by decide +kernel
theorem d_Mo_placeOf_7 : decode b_Mo_placeOf 7 = .ok (.aload_n 0, 1) := by decide +kernel
theorem d_Mo_placeOf_8 : decode b_Mo_placeOf 8 = .ok (.getfield 79, 3) := by decide +kernel
theorem d_Mo_placeOf_11 : decode b_Mo_placeOf 11 = .ok (.if_icmp .ge 47, 3) := by decide +kernel
theorem d_Mo_placeOf_14 : decode b_Mo_placeOf 14 = .ok (.iload_n 3, 1) := by decide +kernel
theorem d_Mo_placeOf_15 : decode b_Mo_placeOf 15 = .ok (.aload_n 0, 1) := by decide +kernel
theorem d_Mo_placeOf_16 : decode b_Mo_placeOf 16 = .ok (.getfield 7, 3) := by decide +kernel
theorem d_Mo_placeOf_19 : decode b_Mo_placeOf 19 = .ok (.iload 4, 2) := by decide +kernel
theorem d_Mo_placeOf_21 : decode b_Mo_placeOf 21 = .ok (.iaload, 1) := by decide +kernel
theorem d_Mo_placeOf_22 : decode b_Mo_placeOf 22 = .ok (.iload_n 1, 1) := by decide +kernel
theorem d_Mo_placeOf_23 : decode b_Mo_placeOf 23 = .ok (.if_icmp .ne 7, 3) := by decide +kernel
theorem d_Mo_placeOf_26 : decode b_Mo_placeOf 26 = .ok (.iconst 1, 1) := by decide +kernel
theorem d_Mo_placeOf_27 : decode b_Mo_placeOf 27 = .ok (.goto 4, 3) := by decide +kernel
theorem d_Mo_placeOf_30 : decode b_Mo_placeOf 30 = .ok (.iconst 0, 1) := by decide +kernel
theorem d_Mo_placeOf_31 : decode b_Mo_placeOf 31 = .ok (.iadd, 1) := by decide +kernel
theorem d_Mo_placeOf_32 : decode b_Mo_placeOf 32 = .ok (.istore_n 3, 1) := by decide +kernel
theorem d_Mo_placeOf_33 : decode b_Mo_placeOf 33 = .ok (.aload_n 0, 1) := by decide +kernel
theorem d_Mo_placeOf_34 : decode b_Mo_placeOf 34 = .ok (.getfield 7, 3) := by decide +kernel
theorem d_Mo_placeOf_37 : decode b_Mo_placeOf 37 = .ok (.iload 4, 2) := by decide +kernel
theorem d_Mo_placeOf_39 : decode b_Mo_placeOf 39 = .ok (.iaload, 1) := by decide +kernel
theorem d_Mo_placeOf_40 : decode b_Mo_placeOf 40 = .ok (.iload_n 1, 1) := by decide +kernel
theorem d_Mo_placeOf_41 : decode b_Mo_placeOf 41 = .ok (.if_icmp .ne 11, 3) := by decide +kernel
theorem d_Mo_placeOf_44 : decode b_Mo_placeOf 44 = .ok (.iload_n 3, 1) := by decide +kernel
theorem d_Mo_placeOf_45 : decode b_Mo_placeOf 45 = .ok (.iload_n 2, 1) := by decide +kernel
theorem d_Mo_placeOf_46 : decode b_Mo_placeOf 46 = .ok (.if_icmp .ne 6, 3) := by decide +kernel
theorem d_Mo_placeOf_49 : decode b_Mo_placeOf 49 = .ok (.iload 4, 2) := by decide +kernel
theorem d_Mo_placeOf_51 : decode b_Mo_placeOf 51 = .ok (.ireturn, 1) := by decide +kernel
theorem d_Mo_placeOf_52 : decode b_Mo_placeOf 52 = .ok (.iinc 4 1, 3) := by decide +kernel
theorem d_Mo_placeOf_55 : decode b_Mo_placeOf 55 = .ok (.goto (-50), 3) := by decide +kernel
theorem d_Mo_placeOf_58 : decode b_Mo_placeOf 58 = .ok (.iconst (-1), 1) := by decide +kernel
theorem d_Mo_placeOf_59 : decode b_Mo_placeOf 59 = .ok (.ireturn, 1) := by decide +kernel
theorem d_Mo_next_0 : decode b_Mo_next 0 = .ok (.aload_n 0, 1) := by decide +kernel
theorem d_Mo_next_1 : decode b_Mo_next 1 = .ok (.aload_n 0, 1) := by decide +kernel
theorem d_Mo_next_2 : decode b_Mo_next 2 = .ok (.iload_n 1, 1) := by decide +kernel
theorem d_Mo_next_3 : decode b_Mo_next 3 = .ok (.iload_n 2, 1) := by decide +kernel
theorem d_Mo_next_4 : decode b_Mo_next 4 = .ok (.invokevirtual 133, 3) := by decide +kernel
theorem d_Mo_next_7 : decode b_Mo_next 7 = .ok (.invokevirtual 120, 3) := by decide +kernel
theorem d_Mo_next_10 : decode b_Mo_next 10 = .ok (.ireturn, 1) := by decide +kernel
theorem d_Mo_nexting_0 : decode b_Mo_nexting 0 = .ok (.iload_n 1, 1) := by decide +kernel
theorem d_Mo_nexting_1 : decode b_Mo_nexting 1 = .ok (.invokestatic 105, 3) := by decide +kernel
theorem d_Mo_nexting_4 : decode b_Mo_nexting 4 = .ok (.ifCond .eq 13, 3) := by decide +kernel
theorem d_Mo_nexting_7 : decode b_Mo_nexting 7 = .ok (.iload_n 2, 1) := by decide +kernel
theorem d_Mo_nexting_8 : decode b_Mo_nexting 8 = .ok (.ifCond .lt 9, 3) := by decide +kernel
theorem d_Mo_nexting_11 : decode b_Mo_nexting 11 = .ok (.iload_n 2, 1) := by decide +kernel
theorem d_Mo_nexting_12 : decode b_Mo_nexting 12 = .ok (.bipush 8, 2) := by decide +kernel
theorem d_Mo_nexting_14 : decode b_Mo_nexting 14 = .ok (.if_icmp .lt 6, 3) := by decide +kernel
theorem d_Mo_nexting_17 : decode b_Mo_nexting 17 = .ok (.bipush (-2), 2) := by decide +kernel
theorem d_Mo_nexting_19 : decode b_Mo_nexting 19 = .ok (.ireturn, 1) := by decide +kernel
theorem d_Mo_nexting_20 : decode b_Mo_nexting 20 = .ok (.aload_n 0, 1) := by decide +kernel
theorem d_Mo_nexting_21 : decode b_Mo_nexting 21 = .ok (.iload_n 1, 1) := by decide +kernel
theorem d_Mo_nexting_22 : decode b_Mo_nexting 22 = .ok (.invokevirtual 130, 3) := by decide +kernel
theorem d_Mo_nexting_25 : decode b_Mo_nexting 25 = .ok (.ifCond .eq 6, 3) := by decide +kernel
theorem d_Mo_nexting_28 : decode b_Mo_nexting 28 = .ok (.bipush (-3), 2) := by decide +kernel
theorem d_Mo_nexting_30 : decode b_Mo_nexting 30 = .ok (.ireturn, 1) := by decide +kernel
theorem d_Mo_nexting_31 : decode b_Mo_nexting 31 = .ok (.aload_n 0, 1) := by decide +kernel
theorem d_Mo_nexting_32 : decode b_Mo_nexting 32 = .ok (.getfield 54, 3) := by decide +kernel
theorem d_Mo_nexting_35 : decode b_Mo_nexting 35 = .ok (.bipush 8, 2) := by decide +kernel
theorem d_Mo_nexting_37 : decode b_Mo_nexting 37 = .ok (.iload_n 1, 1) := by decide +kernel
theorem d_Mo_nexting_38 : decode b_Mo_nexting 38 = .ok (.imul, 1) := by decide +kernel
theorem d_Mo_nexting_39 : decode b_Mo_nexting 39 = .ok (.iload_n 2, 1) := by decide +kernel
theorem d_Mo_nexting_40 : decode b_Mo_nexting 40 = .ok (.iadd, 1) := by decide +kernel
theorem d_Mo_nexting_41 : decode b_Mo_nexting 41 = .ok (.iaload, 1) := by decide +kernel
theorem d_Mo_nexting_42 : decode b_Mo_nexting 42 = .ok (.iconst 1, 1) := by decide +kernel
theorem d_Mo_nexting_43 : decode b_Mo_nexting 43 = .ok (.iadd, 1) := by decide +kernel
theorem d_Mo_nexting_44 : decode b_Mo_nexting 44 = .ok (.istore_n 3, 1) := by decide +kernel
theorem d_Mo_nexting_45 : decode b_Mo_nexting 45 = .ok (.iload_n 3, 1) := by decide +kernel
theorem d_Mo_nexting_46 : decode b_Mo_nexting 46 = .ok (.aload_n 0, 1) := by decide +kernel
theorem d_Mo_nexting_47 : decode b_Mo_nexting 47 = .ok (.iload_n 1, 1) := by decide +kernel
theorem d_Mo_nexting_48 : decode b_Mo_nexting 48 = .ok (.invokevirtual 82, 3) := by decide +kernel
theorem d_Mo_nexting_51 : decode b_Mo_nexting 51 = .ok (.if_icmp .le 6, 3) := by decide +kernel
theorem d_Mo_nexting_54 : decode b_Mo_nexting 54 = .ok (.bipush (-4), 2) := by decide +kernel
theorem d_Mo_nexting_56 : decode b_Mo_nexting 56 = .ok (.ireturn, 1) := by decide +kernel
theorem d_Mo_nexting_57 : decode b_Mo_nexting 57 = .ok (.aload_n 0, 1) := by decide +kernel
theorem d_Mo_nexting_58 : decode b_Mo_nexting 58 = .ok (.getfield 54, 3) := by decide +kernel
theorem d_Mo_nexting_61 : decode b_Mo_nexting 61 = .ok (.bipush 8, 2) := by decide +kernel
theorem d_Mo_nexting_63 : decode b_Mo_nexting 63 = .ok (.iload_n 1, 1) := by decide +kernel
theorem d_Mo_nexting_64 : decode b_Mo_nexting 64 = .ok (.imul, 1) := by decide +kernel
theorem d_Mo_nexting_65 : decode b_Mo_nexting 65 = .ok (.iload_n 2, 1) := by decide +kernel
theorem d_Mo_nexting_66 : decode b_Mo_nexting 66 = .ok (.iadd, 1) := by decide +kernel
theorem d_Mo_nexting_67 : decode b_Mo_nexting 67 = .ok (.iload_n 3, 1) := by decide +kernel
theorem d_Mo_nexting_68 : decode b_Mo_nexting 68 = .ok (.iastore, 1) := by decide +kernel
theorem d_Mo_nexting_69 : decode b_Mo_nexting 69 = .ok (.aload_n 0, 1) := by decide +kernel
theorem d_Mo_nexting_70 : decode b_Mo_nexting 70 = .ok (.getfield 48, 3) := by decide +kernel
theorem d_Mo_nexting_73 : decode b_Mo_nexting 73 = .ok (.iload_n 1, 1) := by decide +kernel
theorem d_Mo_nexting_74 : decode b_Mo_nexting 74 = .ok (.aload_n 0, 1) := by decide +kernel
theorem d_Mo_nexting_75 : decode b_Mo_nexting 75 = .ok (.getfield 112, 3) := by decide +kernel
theorem d_Mo_nexting_78 : decode b_Mo_nexting 78 = .ok (.lastore, 1) := by decide +kernel
theorem d_Mo_nexting_79 : decode b_Mo_nexting 79 = .ok (.iload_n 3, 1) := by decide +kernel
theorem d_Mo_nexting_80 : decode b_Mo_nexting 80 = .ok (.ireturn, 1) := by decide +kernel
theorem d_Mo_isTransient_0 : decode b_Mo_isTransient 0 = .ok (.aload_n 0, 1) := by decide +kernel
theorem d_Mo_isTransient_1 : decode b_Mo_isTransient 1 = .ok (.getfield 23, 3) := by decide +kernel
theorem d_Mo_isTransient_4 : decode b_Mo_isTransient 4 = .ok (.iload_n 1, 1) := by decide +kernel
theorem d_Mo_isTransient_5 : decode b_Mo_isTransient 5 = .ok (.iaload, 1) := by decide +kernel
theorem d_Mo_isTransient_6 : decode b_Mo_isTransient 6 = .ok (.iconst 1, 1) := by decide +kernel
theorem d_Mo_isTransient_7 : decode b_Mo_isTransient 7 = .ok (.if_icmp .le 7, 3) := by decide +kernel
theorem d_Mo_isTransient_10 : decode b_Mo_isTransient 10 = .ok (.iconst 1, 1) := by decide +kernel
theorem d_Mo_isTransient_11 : decode b_Mo_isTransient 11 = .ok (.goto 4, 3) := by decide +kernel
theorem d_Mo_isTransient_14 : decode b_Mo_isTransient 14 = .ok (.iconst 0, 1) := by decide +kernel
theorem d_Mo_isTransient_15 : decode b_Mo_isTransient 15 = .ok (.ireturn, 1) := by decide +kernel
theorem d_Mo_take_0 : decode b_Mo_take 0 = .ok (.aload_n 0, 1) := by decide +kernel
theorem d_Mo_take_1 : decode b_Mo_take 1 = .ok (.aload_n 0, 1) := by decide +kernel
theorem d_Mo_take_2 : decode b_Mo_take 2 = .ok (.iload_n 1, 1) := by decide +kernel
theorem d_Mo_take_3 : decode b_Mo_take 3 = .ok (.invokevirtual 139, 3) := by decide +kernel
theorem d_Mo_take_6 : decode b_Mo_take 6 = .ok (.invokevirtual 120, 3) := by decide +kernel
theorem d_Mo_take_9 : decode b_Mo_take 9 = .ok (.ireturn, 1) := by decide +kernel
theorem d_Mo_taking_0 : decode b_Mo_taking 0 = .ok (.iload_n 1, 1) := by decide +kernel
theorem d_Mo_taking_1 : decode b_Mo_taking 1 = .ok (.invokestatic 105, 3) := by decide +kernel
theorem d_Mo_taking_4 : decode b_Mo_taking 4 = .ok (.ifCond .ne 6, 3) := by decide +kernel
theorem d_Mo_taking_7 : decode b_Mo_taking 7 = .ok (.bipush (-2), 2) := by decide +kernel
theorem d_Mo_taking_9 : decode b_Mo_taking 9 = .ok (.ireturn, 1) := by decide +kernel
theorem d_Mo_taking_10 : decode b_Mo_taking 10 = .ok (.aload_n 0, 1) := by decide +kernel
theorem d_Mo_taking_11 : decode b_Mo_taking 11 = .ok (.iload_n 1, 1) := by decide +kernel
theorem d_Mo_taking_12 : decode b_Mo_taking 12 = .ok (.invokevirtual 123, 3) := by decide +kernel
theorem d_Mo_taking_15 : decode b_Mo_taking 15 = .ok (.ifCond .eq 6, 3) := by decide +kernel
theorem d_Mo_taking_18 : decode b_Mo_taking 18 = .ok (.bipush (-3), 2) := by decide +kernel
theorem d_Mo_taking_20 : decode b_Mo_taking 20 = .ok (.ireturn, 1) := by decide +kernel
theorem d_Mo_taking_21 : decode b_Mo_taking 21 = .ok (.aload_n 0, 1) := by decide +kernel
theorem d_Mo_taking_22 : decode b_Mo_taking 22 = .ok (.iload_n 1, 1) := by decide +kernel
theorem d_Mo_taking_23 : decode b_Mo_taking 23 = .ok (.iconst 1, 1) := by decide +kernel
theorem d_Mo_taking_24 : decode b_Mo_taking 24 = .ok (.invokevirtual 126, 3) := by decide +kernel
theorem d_Mo_taking_27 : decode b_Mo_taking 27 = .ok (.istore_n 2, 1) := by decide +kernel
theorem d_Mo_taking_28 : decode b_Mo_taking 28 = .ok (.iload_n 2, 1) := by decide +kernel
theorem d_Mo_taking_29 : decode b_Mo_taking 29 = .ok (.iconst (-1), 1) := by decide +kernel
theorem d_Mo_taking_30 : decode b_Mo_taking 30 = .ok (.if_icmp .ne 6, 3) := by decide +kernel
theorem d_Mo_taking_33 : decode b_Mo_taking 33 = .ok (.bipush (-4), 2) := by decide +kernel
theorem d_Mo_taking_35 : decode b_Mo_taking 35 = .ok (.ireturn, 1) := by decide +kernel
theorem d_Mo_taking_36 : decode b_Mo_taking 36 = .ok (.aload_n 0, 1) := by decide +kernel
theorem d_Mo_taking_37 : decode b_Mo_taking 37 = .ok (.getfield 16, 3) := by decide +kernel
theorem d_Mo_taking_40 : decode b_Mo_taking 40 = .ok (.iload_n 2, 1) := by decide +kernel
theorem d_Mo_taking_41 : decode b_Mo_taking 41 = .ok (.iaload, 1) := by decide +kernel
theorem d_Mo_taking_42 : decode b_Mo_taking 42 = .ok (.ifCond .le 6, 3) := by decide +kernel
theorem d_Mo_taking_45 : decode b_Mo_taking 45 = .ok (.bipush (-5), 2) := by decide +kernel
theorem d_Mo_taking_47 : decode b_Mo_taking 47 = .ok (.ireturn, 1) := by decide +kernel
theorem d_Mo_taking_48 : decode b_Mo_taking 48 = .ok (.aload_n 0, 1) := by decide +kernel
theorem d_Mo_taking_49 : decode b_Mo_taking 49 = .ok (.getfield 38, 3) := by decide +kernel
theorem d_Mo_taking_52 : decode b_Mo_taking 52 = .ok (.iload_n 1, 1) := by decide +kernel
theorem d_Mo_taking_53 : decode b_Mo_taking 53 = .ok (.aload_n 0, 1) := by decide +kernel
theorem d_Mo_taking_54 : decode b_Mo_taking 54 = .ok (.getfield 13, 3) := by decide +kernel
theorem d_Mo_taking_57 : decode b_Mo_taking 57 = .ok (.iload_n 2, 1) := by decide +kernel
theorem d_Mo_taking_58 : decode b_Mo_taking 58 = .ok (.iaload, 1) := by decide +kernel
theorem d_Mo_taking_59 : decode b_Mo_taking 59 = .ok (.iastore, 1) := by decide +kernel
theorem d_Mo_taking_60 : decode b_Mo_taking 60 = .ok (.aload_n 0, 1) := by decide +kernel
theorem d_Mo_taking_61 : decode b_Mo_taking 61 = .ok (.getfield 51, 3) := by decide +kernel
theorem d_Mo_taking_64 : decode b_Mo_taking 64 = .ok (.iload_n 1, 1) := by decide +kernel
theorem d_Mo_taking_65 : decode b_Mo_taking 65 = .ok (.aload_n 0, 1) := by decide +kernel
theorem d_Mo_taking_66 : decode b_Mo_taking 66 = .ok (.getfield 19, 3) := by decide +kernel
theorem d_Mo_taking_69 : decode b_Mo_taking 69 = .ok (.iload_n 2, 1) := by decide +kernel
theorem d_Mo_taking_70 : decode b_Mo_taking 70 = .ok (.laload, 1) := by decide +kernel
theorem d_Mo_taking_71 : decode b_Mo_taking 71 = .ok (.lastore, 1) := by decide +kernel
theorem d_Mo_taking_72 : decode b_Mo_taking 72 = .ok (.aload_n 0, 1) := by decide +kernel
theorem d_Mo_taking_73 : decode b_Mo_taking 73 = .ok (.getfield 45, 3) := by decide +kernel
theorem d_Mo_taking_76 : decode b_Mo_taking 76 = .ok (.iload_n 1, 1) := by decide +kernel
theorem d_Mo_taking_77 : decode b_Mo_taking 77 = .ok (.iconst 1, 1) := by decide +kernel
theorem d_Mo_taking_78 : decode b_Mo_taking 78 = .ok (.bastore, 1) := by decide +kernel
theorem d_Mo_taking_79 : decode b_Mo_taking 79 = .ok (.aload_n 0, 1) := by decide +kernel
theorem d_Mo_taking_80 : decode b_Mo_taking 80 = .ok (.iload_n 2, 1) := by decide +kernel
theorem d_Mo_taking_81 : decode b_Mo_taking 81 = .ok (.invokevirtual 136, 3) := by decide +kernel
theorem d_Mo_taking_84 : decode b_Mo_taking 84 = .ok (.aload_n 0, 1) := by decide +kernel
theorem d_Mo_taking_85 : decode b_Mo_taking 85 = .ok (.getfield 38, 3) := by decide +kernel
theorem d_Mo_taking_88 : decode b_Mo_taking 88 = .ok (.iload_n 1, 1) := by decide +kernel
theorem d_Mo_taking_89 : decode b_Mo_taking 89 = .ok (.iaload, 1) := by decide +kernel
theorem d_Mo_taking_90 : decode b_Mo_taking 90 = .ok (.ireturn, 1) := by decide +kernel
theorem d_Mo_remove_0 : decode b_Mo_remove 0 = .ok (.aload_n 0, 1) := by decide +kernel
theorem d_Mo_remove_1 : decode b_Mo_remove 1 = .ok (.getfield 7, 3) := by decide +kernel
theorem d_Mo_remove_4 : decode b_Mo_remove 4 = .ok (.iload_n 1, 1) := by decide +kernel
theorem d_Mo_remove_5 : decode b_Mo_remove 5 = .ok (.iaload, 1) := by decide +kernel
theorem d_Mo_remove_6 : decode b_Mo_remove 6 = .ok (.istore_n 2, 1) := by decide +kernel
theorem d_Mo_remove_7 : decode b_Mo_remove 7 = .ok (.aload_n 0, 1) := by decide +kernel
theorem d_Mo_remove_8 : decode b_Mo_remove 8 = .ok (.dup, 1) := by decide +kernel
theorem d_Mo_remove_9 : decode b_Mo_remove 9 = .ok (.getfield 79, 3) := by decide +kernel
theorem d_Mo_remove_12 : decode b_Mo_remove 12 = .ok (.iconst 1, 1) := by decide +kernel
theorem d_Mo_remove_13 : decode b_Mo_remove 13 = .ok (.isub, 1) := by decide +kernel
theorem d_Mo_remove_14 : decode b_Mo_remove 14 = .ok (.putfield 79, 3) := by decide +kernel
theorem d_Mo_remove_17 : decode b_Mo_remove 17 = .ok (.iload_n 1, 1) := by decide +kernel
theorem d_Mo_remove_18 : decode b_Mo_remove 18 = .ok (.istore_n 3, 1) := by decide +kernel
theorem d_Mo_remove_19 : decode b_Mo_remove 19 = .ok (.iload_n 3, 1) := by decide +kernel
theorem d_Mo_remove_20 : decode b_Mo_remove 20 = .ok (.aload_n 0, 1) := by decide +kernel
theorem d_Mo_remove_21 : decode b_Mo_remove 21 = .ok (.getfield 79, 3) := by decide +kernel
theorem d_Mo_remove_24 : decode b_Mo_remove 24 = .ok (.if_icmp .ge 65, 3) := by decide +kernel
theorem d_Mo_remove_27 : decode b_Mo_remove 27 = .ok (.aload_n 0, 1) := by decide +kernel
theorem d_Mo_remove_28 : decode b_Mo_remove 28 = .ok (.getfield 7, 3) := by decide +kernel
theorem d_Mo_remove_31 : decode b_Mo_remove 31 = .ok (.iload_n 3, 1) := by decide +kernel
theorem d_Mo_remove_32 : decode b_Mo_remove 32 = .ok (.aload_n 0, 1) := by decide +kernel
theorem d_Mo_remove_33 : decode b_Mo_remove 33 = .ok (.getfield 7, 3) := by decide +kernel
theorem d_Mo_remove_36 : decode b_Mo_remove 36 = .ok (.iload_n 3, 1) := by decide +kernel
theorem d_Mo_remove_37 : decode b_Mo_remove 37 = .ok (.iconst 1, 1) := by decide +kernel
theorem d_Mo_remove_38 : decode b_Mo_remove 38 = .ok (.iadd, 1) := by decide +kernel
theorem d_Mo_remove_39 : decode b_Mo_remove 39 = .ok (.iaload, 1) := by decide +kernel
theorem d_Mo_remove_40 : decode b_Mo_remove 40 = .ok (.iastore, 1) := by decide +kernel
theorem d_Mo_remove_41 : decode b_Mo_remove 41 = .ok (.aload_n 0, 1) := by decide +kernel
theorem d_Mo_remove_42 : decode b_Mo_remove 42 = .ok (.getfield 13, 3) := by decide +kernel
theorem d_Mo_remove_45 : decode b_Mo_remove 45 = .ok (.iload_n 3, 1) := by decide +kernel
theorem d_Mo_remove_46 : decode b_Mo_remove 46 = .ok (.aload_n 0, 1) := by decide +kernel
theorem d_Mo_remove_47 : decode b_Mo_remove 47 = .ok (.getfield 13, 3) := by decide +kernel
theorem d_Mo_remove_50 : decode b_Mo_remove 50 = .ok (.iload_n 3, 1) := by decide +kernel
theorem d_Mo_remove_51 : decode b_Mo_remove 51 = .ok (.iconst 1, 1) := by decide +kernel
theorem d_Mo_remove_52 : decode b_Mo_remove 52 = .ok (.iadd, 1) := by decide +kernel
theorem d_Mo_remove_53 : decode b_Mo_remove 53 = .ok (.iaload, 1) := by decide +kernel
theorem d_Mo_remove_54 : decode b_Mo_remove 54 = .ok (.iastore, 1) := by decide +kernel
theorem d_Mo_remove_55 : decode b_Mo_remove 55 = .ok (.aload_n 0, 1) := by decide +kernel
theorem d_Mo_remove_56 : decode b_Mo_remove 56 = .ok (.getfield 16, 3) := by decide +kernel
theorem d_Mo_remove_59 : decode b_Mo_remove 59 = .ok (.iload_n 3, 1) := by decide +kernel
theorem d_Mo_remove_60 : decode b_Mo_remove 60 = .ok (.aload_n 0, 1) := by decide +kernel
theorem d_Mo_remove_61 : decode b_Mo_remove 61 = .ok (.getfield 16, 3) := by decide +kernel
theorem d_Mo_remove_64 : decode b_Mo_remove 64 = .ok (.iload_n 3, 1) := by decide +kernel
theorem d_Mo_remove_65 : decode b_Mo_remove 65 = .ok (.iconst 1, 1) := by decide +kernel
theorem d_Mo_remove_66 : decode b_Mo_remove 66 = .ok (.iadd, 1) := by decide +kernel
theorem d_Mo_remove_67 : decode b_Mo_remove 67 = .ok (.iaload, 1) := by decide +kernel
theorem d_Mo_remove_68 : decode b_Mo_remove 68 = .ok (.iastore, 1) := by decide +kernel
theorem d_Mo_remove_69 : decode b_Mo_remove 69 = .ok (.aload_n 0, 1) := by decide +kernel
theorem d_Mo_remove_70 : decode b_Mo_remove 70 = .ok (.getfield 19, 3) := by decide +kernel
theorem d_Mo_remove_73 : decode b_Mo_remove 73 = .ok (.iload_n 3, 1) := by decide +kernel
theorem d_Mo_remove_74 : decode b_Mo_remove 74 = .ok (.aload_n 0, 1) := by decide +kernel
theorem d_Mo_remove_75 : decode b_Mo_remove 75 = .ok (.getfield 19, 3) := by decide +kernel
theorem d_Mo_remove_78 : decode b_Mo_remove 78 = .ok (.iload_n 3, 1) := by decide +kernel
theorem d_Mo_remove_79 : decode b_Mo_remove 79 = .ok (.iconst 1, 1) := by decide +kernel
theorem d_Mo_remove_80 : decode b_Mo_remove 80 = .ok (.iadd, 1) := by decide +kernel
theorem d_Mo_remove_81 : decode b_Mo_remove 81 = .ok (.laload, 1) := by decide +kernel
theorem d_Mo_remove_82 : decode b_Mo_remove 82 = .ok (.lastore, 1) := by decide +kernel
theorem d_Mo_remove_83 : decode b_Mo_remove 83 = .ok (.iinc 3 1, 3) := by decide +kernel
theorem d_Mo_remove_86 : decode b_Mo_remove 86 = .ok (.goto (-67), 3) := by decide +kernel
theorem d_Mo_remove_89 : decode b_Mo_remove 89 = .ok (.aload_n 0, 1) := by decide +kernel
theorem d_Mo_remove_90 : decode b_Mo_remove 90 = .ok (.iload_n 2, 1) := by decide +kernel
theorem d_Mo_remove_91 : decode b_Mo_remove 91 = .ok (.invokevirtual 82, 3) := by decide +kernel
theorem d_Mo_remove_94 : decode b_Mo_remove 94 = .ok (.ifCond .ne 8, 3) := by decide +kernel
theorem d_Mo_remove_97 : decode b_Mo_remove 97 = .ok (.aload_n 0, 1) := by decide +kernel
theorem d_Mo_remove_98 : decode b_Mo_remove 98 = .ok (.iload_n 2, 1) := by decide +kernel
theorem d_Mo_remove_99 : decode b_Mo_remove 99 = .ok (.invokevirtual 86, 3) := by decide +kernel
theorem d_Mo_remove_102 : decode b_Mo_remove 102 = .ok (.return_, 1) := by decide +kernel
theorem d_Mo_emptied_0 : decode b_Mo_emptied 0 = .ok (.aload_n 0, 1) := by decide +kernel
theorem d_Mo_emptied_1 : decode b_Mo_emptied 1 = .ok (.getfield 23, 3) := by decide +kernel
theorem d_Mo_emptied_4 : decode b_Mo_emptied 4 = .ok (.iload_n 1, 1) := by decide +kernel
theorem d_Mo_emptied_5 : decode b_Mo_emptied 5 = .ok (.iconst (-1), 1) := by decide +kernel
theorem d_Mo_emptied_6 : decode b_Mo_emptied 6 = .ok (.iastore, 1) := by decide +kernel
theorem d_Mo_emptied_7 : decode b_Mo_emptied 7 = .ok (.iconst 0, 1) := by decide +kernel
theorem d_Mo_emptied_8 : decode b_Mo_emptied 8 = .ok (.istore_n 2, 1) := by decide +kernel
theorem d_Mo_emptied_9 : decode b_Mo_emptied 9 = .ok (.iload_n 2, 1) := by decide +kernel
theorem d_Mo_emptied_10 : decode b_Mo_emptied 10 = .ok (.bipush 8, 2) := by decide +kernel
theorem d_Mo_emptied_12 : decode b_Mo_emptied 12 = .ok (.if_icmp .ge 21, 3) := by decide +kernel
theorem d_Mo_emptied_15 : decode b_Mo_emptied 15 = .ok (.aload_n 0, 1) := by decide +kernel
theorem d_Mo_emptied_16 : decode b_Mo_emptied 16 = .ok (.getfield 54, 3) := by decide +kernel
theorem d_Mo_emptied_19 : decode b_Mo_emptied 19 = .ok (.bipush 8, 2) := by decide +kernel
theorem d_Mo_emptied_21 : decode b_Mo_emptied 21 = .ok (.iload_n 1, 1) := by decide +kernel
theorem d_Mo_emptied_22 : decode b_Mo_emptied 22 = .ok (.imul, 1) := by decide +kernel
theorem d_Mo_emptied_23 : decode b_Mo_emptied 23 = .ok (.iload_n 2, 1) := by decide +kernel
theorem d_Mo_emptied_24 : decode b_Mo_emptied 24 = .ok (.iadd, 1) := by decide +kernel
theorem d_Mo_emptied_25 : decode b_Mo_emptied 25 = .ok (.iconst 0, 1) := by decide +kernel
theorem d_Mo_emptied_26 : decode b_Mo_emptied 26 = .ok (.iastore, 1) := by decide +kernel
theorem d_Mo_emptied_27 : decode b_Mo_emptied 27 = .ok (.iinc 2 1, 3) := by decide +kernel
theorem d_Mo_emptied_30 : decode b_Mo_emptied 30 = .ok (.goto (-21), 3) := by decide +kernel
theorem d_Mo_emptied_33 : decode b_Mo_emptied 33 = .ok (.return_, 1) := by decide +kernel
theorem d_Mo_trigger_0 : decode b_Mo_trigger 0 = .ok (.aload_n 0, 1) := by decide +kernel
theorem d_Mo_trigger_1 : decode b_Mo_trigger 1 = .ok (.aload_n 0, 1) := by decide +kernel
theorem d_Mo_trigger_2 : decode b_Mo_trigger 2 = .ok (.iload_n 1, 1) := by decide +kernel
theorem d_Mo_trigger_3 : decode b_Mo_trigger 3 = .ok (.iload_n 2, 1) := by decide +kernel
theorem d_Mo_trigger_4 : decode b_Mo_trigger 4 = .ok (.iload_n 3, 1) := by decide +kernel
theorem d_Mo_trigger_5 : decode b_Mo_trigger 5 = .ok (.invokevirtual 142, 3) := by decide +kernel
theorem d_Mo_trigger_8 : decode b_Mo_trigger 8 = .ok (.invokevirtual 120, 3) := by decide +kernel
theorem d_Mo_trigger_11 : decode b_Mo_trigger 11 = .ok (.ireturn, 1) := by decide +kernel
theorem d_Mo_triggers_0 : decode b_Mo_triggers 0 = .ok (.iload_n 1, 1) := by decide +kernel
theorem d_Mo_triggers_1 : decode b_Mo_triggers 1 = .ok (.invokestatic 105, 3) := by decide +kernel
theorem d_Mo_triggers_4 : decode b_Mo_triggers 4 = .ok (.ifCond .eq 14, 3) := by decide +kernel
theorem d_Mo_triggers_7 : decode b_Mo_triggers 7 = .ok (.iload_n 2, 1) := by decide +kernel
theorem d_Mo_triggers_8 : decode b_Mo_triggers 8 = .ok (.ifCond .lt 10, 3) := by decide +kernel
theorem d_Mo_triggers_11 : decode b_Mo_triggers 11 = .ok (.iload_n 2, 1) := by decide +kernel
theorem d_Mo_triggers_12 : decode b_Mo_triggers 12 = .ok (.sipush 4096, 3) := by decide +kernel
theorem d_Mo_triggers_15 : decode b_Mo_triggers 15 = .ok (.if_icmp .le 6, 3) := by decide +kernel
theorem d_Mo_triggers_18 : decode b_Mo_triggers 18 = .ok (.bipush (-2), 2) := by decide +kernel
theorem d_Mo_triggers_20 : decode b_Mo_triggers 20 = .ok (.ireturn, 1) := by decide +kernel
theorem d_Mo_triggers_21 : decode b_Mo_triggers 21 = .ok (.aload_n 0, 1) := by decide +kernel
theorem d_Mo_triggers_22 : decode b_Mo_triggers 22 = .ok (.iload_n 1, 1) := by decide +kernel
theorem d_Mo_triggers_23 : decode b_Mo_triggers 23 = .ok (.invokevirtual 123, 3) := by decide +kernel
theorem d_Mo_triggers_26 : decode b_Mo_triggers 26 = .ok (.ifCond .eq 6, 3) := by decide +kernel
theorem d_Mo_triggers_29 : decode b_Mo_triggers 29 = .ok (.bipush (-3), 2) := by decide +kernel
theorem d_Mo_triggers_31 : decode b_Mo_triggers 31 = .ok (.ireturn, 1) := by decide +kernel
theorem d_Mo_triggers_32 : decode b_Mo_triggers 32 = .ok (.aload_n 0, 1) := by decide +kernel
theorem d_Mo_triggers_33 : decode b_Mo_triggers 33 = .ok (.getfield 29, 3) := by decide +kernel
theorem d_Mo_triggers_36 : decode b_Mo_triggers 36 = .ok (.iload_n 1, 1) := by decide +kernel
theorem d_Mo_triggers_37 : decode b_Mo_triggers 37 = .ok (.iload_n 2, 1) := by decide +kernel
theorem d_Mo_triggers_38 : decode b_Mo_triggers 38 = .ok (.iastore, 1) := by decide +kernel
theorem d_Mo_triggers_39 : decode b_Mo_triggers 39 = .ok (.aload_n 0, 1) := by decide +kernel
theorem d_Mo_triggers_40 : decode b_Mo_triggers 40 = .ok (.getfield 32, 3) := by decide +kernel
theorem d_Mo_triggers_43 : decode b_Mo_triggers 43 = .ok (.iload_n 1, 1) := by decide +kernel
theorem d_Mo_triggers_44 : decode b_Mo_triggers 44 = .ok (.iload_n 3, 1) := by decide +kernel
theorem d_Mo_triggers_45 : decode b_Mo_triggers 45 = .ok (.iastore, 1) := by decide +kernel
theorem d_Mo_triggers_46 : decode b_Mo_triggers 46 = .ok (.aload_n 0, 1) := by decide +kernel
theorem d_Mo_triggers_47 : decode b_Mo_triggers 47 = .ok (.getfield 41, 3) := by decide +kernel
theorem d_Mo_triggers_50 : decode b_Mo_triggers 50 = .ok (.iload_n 1, 1) := by decide +kernel
theorem d_Mo_triggers_51 : decode b_Mo_triggers 51 = .ok (.iconst 1, 1) := by decide +kernel
theorem d_Mo_triggers_52 : decode b_Mo_triggers 52 = .ok (.bastore, 1) := by decide +kernel
theorem d_Mo_triggers_53 : decode b_Mo_triggers 53 = .ok (.aload_n 0, 1) := by decide +kernel
theorem d_Mo_triggers_54 : decode b_Mo_triggers 54 = .ok (.getfield 35, 3) := by decide +kernel
theorem d_Mo_triggers_57 : decode b_Mo_triggers 57 = .ok (.iload_n 1, 1) := by decide +kernel
theorem d_Mo_triggers_58 : decode b_Mo_triggers 58 = .ok (.iconst 0, 1) := by decide +kernel
theorem d_Mo_triggers_59 : decode b_Mo_triggers 59 = .ok (.iastore, 1) := by decide +kernel
theorem d_Mo_triggers_60 : decode b_Mo_triggers 60 = .ok (.aload_n 0, 1) := by decide +kernel
theorem d_Mo_triggers_61 : decode b_Mo_triggers 61 = .ok (.getfield 45, 3) := by decide +kernel
theorem d_Mo_triggers_64 : decode b_Mo_triggers 64 = .ok (.iload_n 1, 1) := by decide +kernel
theorem d_Mo_triggers_65 : decode b_Mo_triggers 65 = .ok (.iconst 0, 1) := by decide +kernel
theorem d_Mo_triggers_66 : decode b_Mo_triggers 66 = .ok (.bastore, 1) := by decide +kernel
theorem d_Mo_triggers_67 : decode b_Mo_triggers 67 = .ok (.iconst 1, 1) := by decide +kernel
theorem d_Mo_triggers_68 : decode b_Mo_triggers 68 = .ok (.ireturn, 1) := by decide +kernel
theorem d_Mo_started_0 : decode b_Mo_started 0 = .ok (.aload_n 0, 1) := by decide +kernel
theorem d_Mo_started_1 : decode b_Mo_started 1 = .ok (.iconst 0, 1) := by decide +kernel
theorem d_Mo_started_2 : decode b_Mo_started 2 = .ok (.putfield 76, 3) := by decide +kernel
theorem d_Mo_started_5 : decode b_Mo_started 5 = .ok (.iload_n 1, 1) := by decide +kernel
theorem d_Mo_started_6 : decode b_Mo_started 6 = .ok (.ifCond .le 22, 3) := by decide +kernel
theorem d_Mo_started_9 : decode b_Mo_started 9 = .ok (.iload_n 1, 1) := by decide +kernel
theorem d_Mo_started_10 : decode b_Mo_started 10 = .ok (.aload_n 0, 1) := by decide +kernel
theorem d_Mo_started_11 : decode b_Mo_started 11 = .ok (.getfield 90, 3) := by decide +kernel
theorem d_Mo_started_14 : decode b_Mo_started 14 = .ok (.if_icmp .gt 14, 3) := by decide +kernel
theorem d_Mo_started_17 : decode b_Mo_started 17 = .ok (.aload_n 0, 1) := by decide +kernel
theorem d_Mo_started_18 : decode b_Mo_started 18 = .ok (.getfield 57, 3) := by decide +kernel
theorem d_Mo_started_21 : decode b_Mo_started 21 = .ok (.iload_n 1, 1) := by decide +kernel
theorem d_Mo_started_22 : decode b_Mo_started 22 = .ok (.iconst 1, 1) := by decide +kernel
theorem d_Mo_started_23 : decode b_Mo_started 23 = .ok (.isub, 1) := by decide +kernel
theorem d_Mo_started_24 : decode b_Mo_started 24 = .ok (.iaload, 1) := by decide +kernel
theorem d_Mo_started_25 : decode b_Mo_started 25 = .ok (.goto 4, 3) := by decide +kernel
theorem d_Mo_started_28 : decode b_Mo_started 28 = .ok (.iconst 0, 1) := by decide +kernel
theorem d_Mo_started_29 : decode b_Mo_started 29 = .ok (.ireturn, 1) := by decide +kernel
theorem d_Mo_end_0 : decode b_Mo_end 0 = .ok (.aload_n 0, 1) := by decide +kernel
theorem d_Mo_end_1 : decode b_Mo_end 1 = .ok (.aload_n 0, 1) := by decide +kernel
theorem d_Mo_end_2 : decode b_Mo_end 2 = .ok (.iload_n 1, 1) := by decide +kernel
theorem d_Mo_end_3 : decode b_Mo_end 3 = .ok (.invokevirtual 146, 3) := by decide +kernel
theorem d_Mo_end_6 : decode b_Mo_end 6 = .ok (.invokevirtual 120, 3) := by decide +kernel
theorem d_Mo_end_9 : decode b_Mo_end 9 = .ok (.ireturn, 1) := by decide +kernel
theorem d_Mo_ending_0 : decode b_Mo_ending 0 = .ok (.iload_n 1, 1) := by decide +kernel
theorem d_Mo_ending_1 : decode b_Mo_ending 1 = .ok (.iconst 1, 1) := by decide +kernel
theorem d_Mo_ending_2 : decode b_Mo_ending 2 = .ok (.if_icmp .lt 22, 3) := by decide +kernel
theorem d_Mo_ending_5 : decode b_Mo_ending 5 = .ok (.iload_n 1, 1) := by decide +kernel
theorem d_Mo_ending_6 : decode b_Mo_ending 6 = .ok (.aload_n 0, 1) := by decide +kernel
theorem d_Mo_ending_7 : decode b_Mo_ending 7 = .ok (.getfield 90, 3) := by decide +kernel
theorem d_Mo_ending_10 : decode b_Mo_ending 10 = .ok (.if_icmp .gt 14, 3) := by decide +kernel
theorem d_Mo_ending_13 : decode b_Mo_ending 13 = .ok (.aload_n 0, 1) := by decide +kernel
theorem d_Mo_ending_14 : decode b_Mo_ending 14 = .ok (.getfield 60, 3) := by decide +kernel
theorem d_Mo_ending_17 : decode b_Mo_ending 17 = .ok (.iload_n 1, 1) := by decide +kernel
theorem d_Mo_ending_18 : decode b_Mo_ending 18 = .ok (.iconst 1, 1) := by decide +kernel
theorem d_Mo_ending_19 : decode b_Mo_ending 19 = .ok (.isub, 1) := by decide +kernel
theorem d_Mo_ending_20 : decode b_Mo_ending 20 = .ok (.baload, 1) := by decide +kernel
theorem d_Mo_ending_21 : decode b_Mo_ending 21 = .ok (.ifCond .ne 6, 3) := by decide +kernel
theorem d_Mo_ending_24 : decode b_Mo_ending 24 = .ok (.bipush (-4), 2) := by decide +kernel
theorem d_Mo_ending_26 : decode b_Mo_ending 26 = .ok (.ireturn, 1) := by decide +kernel
theorem d_Mo_ending_27 : decode b_Mo_ending 27 = .ok (.aload_n 0, 1) := by decide +kernel
theorem d_Mo_ending_28 : decode b_Mo_ending 28 = .ok (.getfield 60, 3) := by decide +kernel
theorem d_Mo_ending_31 : decode b_Mo_ending 31 = .ok (.iload_n 1, 1) := by decide +kernel
theorem d_Mo_ending_32 : decode b_Mo_ending 32 = .ok (.iconst 1, 1) := by decide +kernel
theorem d_Mo_ending_33 : decode b_Mo_ending 33 = .ok (.isub, 1) := by decide +kernel
theorem d_Mo_ending_34 : decode b_Mo_ending 34 = .ok (.iconst 0, 1) := by decide +kernel
theorem d_Mo_ending_35 : decode b_Mo_ending 35 = .ok (.bastore, 1) := by decide +kernel
theorem d_Mo_ending_36 : decode b_Mo_ending 36 = .ok (.aload_n 0, 1) := by decide +kernel
theorem d_Mo_ending_37 : decode b_Mo_ending 37 = .ok (.dup, 1) := by decide +kernel
theorem d_Mo_ending_38 : decode b_Mo_ending 38 = .ok (.getfield 93, 3) := by decide +kernel
theorem d_Mo_ending_41 : decode b_Mo_ending 41 = .ok (.iconst 1, 1) := by decide +kernel
theorem d_Mo_ending_42 : decode b_Mo_ending 42 = .ok (.isub, 1) := by decide +kernel
theorem d_Mo_ending_43 : decode b_Mo_ending 43 = .ok (.putfield 93, 3) := by decide +kernel
theorem d_Mo_ending_46 : decode b_Mo_ending 46 = .ok (.iconst 0, 1) := by decide +kernel
theorem d_Mo_ending_47 : decode b_Mo_ending 47 = .ok (.istore_n 2, 1) := by decide +kernel
theorem d_Mo_ending_48 : decode b_Mo_ending 48 = .ok (.iload_n 2, 1) := by decide +kernel
theorem d_Mo_ending_49 : decode b_Mo_ending 49 = .ok (.bipush 32, 2) := by decide +kernel
theorem d_Mo_ending_51 : decode b_Mo_ending 51 = .ok (.if_icmp .ge 92, 3) := by decide +kernel
theorem d_Mo_ending_54 : decode b_Mo_ending 54 = .ok (.aload_n 0, 1) := by decide +kernel
theorem d_Mo_ending_55 : decode b_Mo_ending 55 = .ok (.getfield 29, 3) := by decide +kernel
theorem d_Mo_ending_58 : decode b_Mo_ending 58 = .ok (.iload_n 2, 1) := by decide +kernel
theorem d_Mo_ending_59 : decode b_Mo_ending 59 = .ok (.iaload, 1) := by decide +kernel
theorem d_Mo_ending_60 : decode b_Mo_ending 60 = .ok (.ifCond .eq 77, 3) := by decide +kernel
theorem d_Mo_ending_63 : decode b_Mo_ending 63 = .ok (.aload_n 0, 1) := by decide +kernel
theorem d_Mo_ending_64 : decode b_Mo_ending 64 = .ok (.getfield 35, 3) := by decide +kernel
theorem d_Mo_ending_67 : decode b_Mo_ending 67 = .ok (.iload_n 2, 1) := by decide +kernel
theorem d_Mo_ending_68 : decode b_Mo_ending 68 = .ok (.iaload, 1) := by decide +kernel
theorem d_Mo_ending_69 : decode b_Mo_ending 69 = .ok (.iload_n 1, 1) := by decide +kernel
theorem d_Mo_ending_70 : decode b_Mo_ending 70 = .ok (.if_icmp .eq 6, 3) := by decide +kernel
theorem d_Mo_ending_73 : decode b_Mo_ending 73 = .ok (.goto 64, 3) := by decide +kernel
theorem d_Mo_ending_76 : decode b_Mo_ending 76 = .ok (.aload_n 0, 1) := by decide +kernel
theorem d_Mo_ending_77 : decode b_Mo_ending 77 = .ok (.getfield 45, 3) := by decide +kernel
theorem d_Mo_ending_80 : decode b_Mo_ending 80 = .ok (.iload_n 2, 1) := by decide +kernel
theorem d_Mo_ending_81 : decode b_Mo_ending 81 = .ok (.baload, 1) := by decide +kernel
theorem d_Mo_ending_82 : decode b_Mo_ending 82 = .ok (.ifCond .ne 15, 3) := by decide +kernel
theorem d_Mo_ending_85 : decode b_Mo_ending 85 = .ok (.aload_n 0, 1) := by decide +kernel
theorem d_Mo_ending_86 : decode b_Mo_ending 86 = .ok (.iload_n 2, 1) := by decide +kernel
theorem d_Mo_ending_87 : decode b_Mo_ending 87 = .ok (.invokevirtual 96, 3) := by decide +kernel
theorem d_Mo_ending_90 : decode b_Mo_ending 90 = .ok (.ifCond .le 7, 3) := by decide +kernel
theorem d_Mo_ending_93 : decode b_Mo_ending 93 = .ok (.iconst 1, 1) := by decide +kernel
theorem d_Mo_ending_94 : decode b_Mo_ending 94 = .ok (.goto 4, 3) := by decide +kernel
theorem d_Mo_ending_97 : decode b_Mo_ending 97 = .ok (.iconst 0, 1) := by decide +kernel
theorem d_Mo_ending_98 : decode b_Mo_ending 98 = .ok (.istore_n 3, 1) := by decide +kernel
theorem d_Mo_ending_99 : decode b_Mo_ending 99 = .ok (.aload_n 0, 1) := by decide +kernel
theorem d_Mo_ending_100 : decode b_Mo_ending 100 = .ok (.getfield 35, 3) := by decide +kernel
theorem d_Mo_ending_103 : decode b_Mo_ending 103 = .ok (.iload_n 2, 1) := by decide +kernel
theorem d_Mo_ending_104 : decode b_Mo_ending 104 = .ok (.iload_n 3, 1) := by decide +kernel
theorem d_Mo_ending_105 : decode b_Mo_ending 105 = .ok (.ifCond .eq 16, 3) := by decide +kernel
theorem d_Mo_ending_108 : decode b_Mo_ending 108 = .ok (.aload_n 0, 1) := by decide +kernel
theorem d_Mo_ending_109 : decode b_Mo_ending 109 = .ok (.aload_n 0, 1) := by decide +kernel
theorem d_Mo_ending_110 : decode b_Mo_ending 110 = .ok (.getfield 32, 3) := by decide +kernel
theorem d_Mo_ending_113 : decode b_Mo_ending 113 = .ok (.iload_n 2, 1) := by decide +kernel
theorem d_Mo_ending_114 : decode b_Mo_ending 114 = .ok (.iaload, 1) := by decide +kernel
theorem d_Mo_ending_115 : decode b_Mo_ending 115 = .ok (.invokevirtual 99, 3) := by decide +kernel
theorem d_Mo_ending_118 : decode b_Mo_ending 118 = .ok (.goto 4, 3) := by decide +kernel
theorem d_Mo_ending_121 : decode b_Mo_ending 121 = .ok (.iconst 0, 1) := by decide +kernel
theorem d_Mo_ending_122 : decode b_Mo_ending 122 = .ok (.iastore, 1) := by decide +kernel
theorem d_Mo_ending_123 : decode b_Mo_ending 123 = .ok (.aload_n 0, 1) := by decide +kernel
theorem d_Mo_ending_124 : decode b_Mo_ending 124 = .ok (.getfield 45, 3) := by decide +kernel
theorem d_Mo_ending_127 : decode b_Mo_ending 127 = .ok (.iload_n 2, 1) := by decide +kernel
theorem d_Mo_ending_128 : decode b_Mo_ending 128 = .ok (.iconst 0, 1) := by decide +kernel
theorem d_Mo_ending_129 : decode b_Mo_ending 129 = .ok (.bastore, 1) := by decide +kernel
theorem d_Mo_ending_130 : decode b_Mo_ending 130 = .ok (.aload_n 0, 1) := by decide +kernel
theorem d_Mo_ending_131 : decode b_Mo_ending 131 = .ok (.getfield 35, 3) := by decide +kernel
theorem d_Mo_ending_134 : decode b_Mo_ending 134 = .ok (.iload_n 2, 1) := by decide +kernel
theorem d_Mo_ending_135 : decode b_Mo_ending 135 = .ok (.iaload, 1) := by decide +kernel
theorem d_Mo_ending_136 : decode b_Mo_ending 136 = .ok (.ireturn, 1) := by decide +kernel
theorem d_Mo_ending_137 : decode b_Mo_ending 137 = .ok (.iinc 2 1, 3) := by decide +kernel
theorem d_Mo_ending_140 : decode b_Mo_ending 140 = .ok (.goto (-92), 3) := by decide +kernel
theorem d_Mo_ending_143 : decode b_Mo_ending 143 = .ok (.iconst 0, 1) := by decide +kernel
theorem d_Mo_ending_144 : decode b_Mo_ending 144 = .ok (.ireturn, 1) := by decide +kernel
theorem d_Mo_rewrite_0 : decode b_Mo_rewrite 0 = .ok (.aload_n 0, 1) := by decide +kernel
theorem d_Mo_rewrite_1 : decode b_Mo_rewrite 1 = .ok (.aload_n 0, 1) := by decide +kernel
theorem d_Mo_rewrite_2 : decode b_Mo_rewrite 2 = .ok (.iload_n 1, 1) := by decide +kernel
theorem d_Mo_rewrite_3 : decode b_Mo_rewrite 3 = .ok (.iload_n 2, 1) := by decide +kernel
theorem d_Mo_rewrite_4 : decode b_Mo_rewrite 4 = .ok (.lload_n 3, 1) := by decide +kernel
theorem d_Mo_rewrite_5 : decode b_Mo_rewrite 5 = .ok (.invokevirtual 149, 3) := by decide +kernel
theorem d_Mo_rewrite_8 : decode b_Mo_rewrite 8 = .ok (.invokevirtual 120, 3) := by decide +kernel
theorem d_Mo_rewrite_11 : decode b_Mo_rewrite 11 = .ok (.ireturn, 1) := by decide +kernel
theorem d_Mo_rewriting_0 : decode b_Mo_rewriting 0 = .ok (.iload_n 1, 1) := by decide +kernel
theorem d_Mo_rewriting_1 : decode b_Mo_rewriting 1 = .ok (.invokestatic 105, 3) := by decide +kernel
theorem d_Mo_rewriting_4 : decode b_Mo_rewriting 4 = .ok (.ifCond .ne 6, 3) := by decide +kernel
theorem d_Mo_rewriting_7 : decode b_Mo_rewriting 7 = .ok (.bipush (-2), 2) := by decide +kernel
theorem d_Mo_rewriting_9 : decode b_Mo_rewriting 9 = .ok (.ireturn, 1) := by decide +kernel
theorem d_Mo_rewriting_10 : decode b_Mo_rewriting 10 = .ok (.aload_n 0, 1) := by decide +kernel
theorem d_Mo_rewriting_11 : decode b_Mo_rewriting 11 = .ok (.iload_n 1, 1) := by decide +kernel
theorem d_Mo_rewriting_12 : decode b_Mo_rewriting 12 = .ok (.invokevirtual 130, 3) := by decide +kernel
theorem d_Mo_rewriting_15 : decode b_Mo_rewriting 15 = .ok (.ifCond .eq 6, 3) := by decide +kernel
theorem d_Mo_rewriting_18 : decode b_Mo_rewriting 18 = .ok (.bipush (-3), 2) := by decide +kernel
theorem d_Mo_rewriting_20 : decode b_Mo_rewriting 20 = .ok (.ireturn, 1) := by decide +kernel
theorem d_Mo_rewriting_21 : decode b_Mo_rewriting 21 = .ok (.aload_n 0, 1) := by decide +kernel
theorem d_Mo_rewriting_22 : decode b_Mo_rewriting 22 = .ok (.iload_n 1, 1) := by decide +kernel
theorem d_Mo_rewriting_23 : decode b_Mo_rewriting 23 = .ok (.iload_n 2, 1) := by decide +kernel
theorem d_Mo_rewriting_24 : decode b_Mo_rewriting 24 = .ok (.invokevirtual 126, 3) := by decide +kernel
theorem d_Mo_rewriting_27 : decode b_Mo_rewriting 27 = .ok (.istore 5, 2) := by decide +kernel
theorem d_Mo_rewriting_29 : decode b_Mo_rewriting 29 = .ok (.iload 5, 2) := by decide +kernel
theorem d_Mo_rewriting_31 : decode b_Mo_rewriting 31 = .ok (.iconst (-1), 1) := by decide +kernel
theorem d_Mo_rewriting_32 : decode b_Mo_rewriting 32 = .ok (.if_icmp .ne 6, 3) := by decide +kernel
theorem d_Mo_rewriting_35 : decode b_Mo_rewriting 35 = .ok (.bipush (-4), 2) := by decide +kernel
theorem d_Mo_rewriting_37 : decode b_Mo_rewriting 37 = .ok (.ireturn, 1) := by decide +kernel
theorem d_Mo_rewriting_38 : decode b_Mo_rewriting 38 = .ok (.aload_n 0, 1) := by decide +kernel
theorem d_Mo_rewriting_39 : decode b_Mo_rewriting 39 = .ok (.getfield 19, 3) := by decide +kernel
theorem d_Mo_rewriting_42 : decode b_Mo_rewriting 42 = .ok (.iload 5, 2) := by decide +kernel
theorem d_Mo_rewriting_44 : decode b_Mo_rewriting 44 = .ok (.lload_n 3, 1) := by decide +kernel
theorem d_Mo_rewriting_45 : decode b_Mo_rewriting 45 = .ok (.lastore, 1) := by decide +kernel
theorem d_Mo_rewriting_46 : decode b_Mo_rewriting 46 = .ok (.aload_n 0, 1) := by decide +kernel
theorem d_Mo_rewriting_47 : decode b_Mo_rewriting 47 = .ok (.getfield 48, 3) := by decide +kernel
theorem d_Mo_rewriting_50 : decode b_Mo_rewriting 50 = .ok (.iload_n 1, 1) := by decide +kernel
theorem d_Mo_rewriting_51 : decode b_Mo_rewriting 51 = .ok (.aload_n 0, 1) := by decide +kernel
theorem d_Mo_rewriting_52 : decode b_Mo_rewriting 52 = .ok (.getfield 112, 3) := by decide +kernel
theorem d_Mo_rewriting_55 : decode b_Mo_rewriting 55 = .ok (.lastore, 1) := by decide +kernel
theorem d_Mo_rewriting_56 : decode b_Mo_rewriting 56 = .ok (.iconst 1, 1) := by decide +kernel
theorem d_Mo_rewriting_57 : decode b_Mo_rewriting 57 = .ok (.ireturn, 1) := by decide +kernel
theorem d_Mo_delay_0 : decode b_Mo_delay 0 = .ok (.aload_n 0, 1) := by decide +kernel
theorem d_Mo_delay_1 : decode b_Mo_delay 1 = .ok (.getfield 153, 3) := by decide +kernel
theorem d_Mo_delay_4 : decode b_Mo_delay 4 = .ok (.sipush 200, 3) := by decide +kernel
theorem d_Mo_delay_7 : decode b_Mo_delay 7 = .ok (.if_icmp .ne 9, 3) := by decide +kernel
theorem d_Mo_delay_10 : decode b_Mo_delay 10 = .ok (.aload_n 0, 1) := by decide +kernel
theorem d_Mo_delay_11 : decode b_Mo_delay 11 = .ok (.iconst (-1), 1) := by decide +kernel
theorem d_Mo_delay_12 : decode b_Mo_delay 12 = .ok (.invokevirtual 120, 3) := by decide +kernel
theorem d_Mo_delay_15 : decode b_Mo_delay 15 = .ok (.ireturn, 1) := by decide +kernel
theorem d_Mo_delay_16 : decode b_Mo_delay 16 = .ok (.aload_n 0, 1) := by decide +kernel
theorem d_Mo_delay_17 : decode b_Mo_delay 17 = .ok (.dup, 1) := by decide +kernel
theorem d_Mo_delay_18 : decode b_Mo_delay 18 = .ok (.getfield 156, 3) := by decide +kernel
theorem d_Mo_delay_21 : decode b_Mo_delay 21 = .ok (.iconst 1, 1) := by decide +kernel
theorem d_Mo_delay_22 : decode b_Mo_delay 22 = .ok (.iadd, 1) := by decide +kernel
theorem d_Mo_delay_23 : decode b_Mo_delay 23 = .ok (.putfield 156, 3) := by decide +kernel
theorem d_Mo_delay_26 : decode b_Mo_delay 26 = .ok (.lload_n 2, 1) := by decide +kernel
theorem d_Mo_delay_27 : decode b_Mo_delay 27 = .ok (.aload_n 0, 1) := by decide +kernel
theorem d_Mo_delay_28 : decode b_Mo_delay 28 = .ok (.getfield 112, 3) := by decide +kernel
theorem d_Mo_delay_31 : decode b_Mo_delay 31 = .ok (.lcmp, 1) := by decide +kernel
theorem d_Mo_delay_32 : decode b_Mo_delay 32 = .ok (.ifCond .gt 18, 3) := by decide +kernel
theorem d_Mo_delay_35 : decode b_Mo_delay 35 = .ok (.aload_n 0, 1) := by decide +kernel
theorem d_Mo_delay_36 : decode b_Mo_delay 36 = .ok (.iload_n 1, 1) := by decide +kernel
theorem d_Mo_delay_37 : decode b_Mo_delay 37 = .ok (.invokevirtual 99, 3) := by decide +kernel
theorem d_Mo_delay_40 : decode b_Mo_delay 40 = .ok (.pop, 1) := by decide +kernel
theorem d_Mo_delay_41 : decode b_Mo_delay 41 = .ok (.aload_n 0, 1) := by decide +kernel
theorem d_Mo_delay_42 : decode b_Mo_delay 42 = .ok (.aload_n 0, 1) := by decide +kernel
theorem d_Mo_delay_43 : decode b_Mo_delay 43 = .ok (.getfield 156, 3) := by decide +kernel
theorem d_Mo_delay_46 : decode b_Mo_delay 46 = .ok (.invokevirtual 120, 3) := by decide +kernel
theorem d_Mo_delay_49 : decode b_Mo_delay 49 = .ok (.ireturn, 1) := by decide +kernel
theorem d_Mo_delay_50 : decode b_Mo_delay 50 = .ok (.aload_n 0, 1) := by decide +kernel
theorem d_Mo_delay_51 : decode b_Mo_delay 51 = .ok (.getfield 63, 3) := by decide +kernel
theorem d_Mo_delay_54 : decode b_Mo_delay 54 = .ok (.aload_n 0, 1) := by decide +kernel
theorem d_Mo_delay_55 : decode b_Mo_delay 55 = .ok (.getfield 153, 3) := by decide +kernel
theorem d_Mo_delay_58 : decode b_Mo_delay 58 = .ok (.aload_n 0, 1) := by decide +kernel
theorem d_Mo_delay_59 : decode b_Mo_delay 59 = .ok (.getfield 156, 3) := by decide +kernel
theorem d_Mo_delay_62 : decode b_Mo_delay 62 = .ok (.iastore, 1) := by decide +kernel
theorem d_Mo_delay_63 : decode b_Mo_delay 63 = .ok (.aload_n 0, 1) := by decide +kernel
theorem d_Mo_delay_64 : decode b_Mo_delay 64 = .ok (.getfield 66, 3) := by decide +kernel
theorem d_Mo_delay_67 : decode b_Mo_delay 67 = .ok (.aload_n 0, 1) := by decide +kernel
theorem d_Mo_delay_68 : decode b_Mo_delay 68 = .ok (.getfield 153, 3) := by decide +kernel
theorem d_Mo_delay_71 : decode b_Mo_delay 71 = .ok (.iload_n 1, 1) := by decide +kernel
theorem d_Mo_delay_72 : decode b_Mo_delay 72 = .ok (.iastore, 1) := by decide +kernel
theorem d_Mo_delay_73 : decode b_Mo_delay 73 = .ok (.aload_n 0, 1) := by decide +kernel
theorem d_Mo_delay_74 : decode b_Mo_delay 74 = .ok (.getfield 69, 3) := by decide +kernel
theorem d_Mo_delay_77 : decode b_Mo_delay 77 = .ok (.aload_n 0, 1) := by decide +kernel
theorem d_Mo_delay_78 : decode b_Mo_delay 78 = .ok (.getfield 153, 3) := by decide +kernel
theorem d_Mo_delay_81 : decode b_Mo_delay 81 = .ok (.lload_n 2, 1) := by decide +kernel
theorem d_Mo_delay_82 : decode b_Mo_delay 82 = .ok (.lastore, 1) := by decide +kernel
theorem d_Mo_delay_83 : decode b_Mo_delay 83 = .ok (.aload_n 0, 1) := by decide +kernel
theorem d_Mo_delay_84 : decode b_Mo_delay 84 = .ok (.dup, 1) := by decide +kernel
theorem d_Mo_delay_85 : decode b_Mo_delay 85 = .ok (.getfield 153, 3) := by decide +kernel
theorem d_Mo_delay_88 : decode b_Mo_delay 88 = .ok (.iconst 1, 1) := by decide +kernel
theorem d_Mo_delay_89 : decode b_Mo_delay 89 = .ok (.iadd, 1) := by decide +kernel
theorem d_Mo_delay_90 : decode b_Mo_delay 90 = .ok (.putfield 153, 3) := by decide +kernel
theorem d_Mo_delay_93 : decode b_Mo_delay 93 = .ok (.aload_n 0, 1) := by decide +kernel
theorem d_Mo_delay_94 : decode b_Mo_delay 94 = .ok (.aload_n 0, 1) := by decide +kernel
theorem d_Mo_delay_95 : decode b_Mo_delay 95 = .ok (.getfield 156, 3) := by decide +kernel
theorem d_Mo_delay_98 : decode b_Mo_delay 98 = .ok (.invokevirtual 120, 3) := by decide +kernel
theorem d_Mo_delay_101 : decode b_Mo_delay 101 = .ok (.ireturn, 1) := by decide +kernel
theorem d_Mo_cancel_0 : decode b_Mo_cancel 0 = .ok (.iconst (-1), 1) := by decide +kernel
theorem d_Mo_cancel_1 : decode b_Mo_cancel 1 = .ok (.istore_n 2, 1) := by decide +kernel
theorem d_Mo_cancel_2 : decode b_Mo_cancel 2 = .ok (.iconst 0, 1) := by decide +kernel
theorem d_Mo_cancel_3 : decode b_Mo_cancel 3 = .ok (.istore_n 3, 1) := by decide +kernel
theorem d_Mo_cancel_4 : decode b_Mo_cancel 4 = .ok (.iload_n 3, 1) := by decide +kernel
theorem d_Mo_cancel_5 : decode b_Mo_cancel 5 = .ok (.aload_n 0, 1) := by decide +kernel
theorem d_Mo_cancel_6 : decode b_Mo_cancel 6 = .ok (.getfield 153, 3) := by decide +kernel
theorem d_Mo_cancel_9 : decode b_Mo_cancel 9 = .ok (.if_icmp .ge 25, 3) := by decide +kernel
theorem d_Mo_cancel_12 : decode b_Mo_cancel 12 = .ok (.aload_n 0, 1) := by decide +kernel
theorem d_Mo_cancel_13 : decode b_Mo_cancel 13 = .ok (.getfield 63, 3) := by decide +kernel
theorem d_Mo_cancel_16 : decode b_Mo_cancel 16 = .ok (.iload_n 3, 1) := by decide +kernel
theorem d_Mo_cancel_17 : decode b_Mo_cancel 17 = .ok (.iaload, 1) := by decide +kernel
theorem d_Mo_cancel_18 : decode b_Mo_cancel 18 = .ok (.iload_n 1, 1) := by decide +kernel
theorem d_Mo_cancel_19 : decode b_Mo_cancel 19 = .ok (.if_icmp .ne 7, 3) := by decide +kernel
theorem d_Mo_cancel_22 : decode b_Mo_cancel 22 = .ok (.iload_n 3, 1) := by decide +kernel
theorem d_Mo_cancel_23 : decode b_Mo_cancel 23 = .ok (.goto 4, 3) := by decide +kernel
theorem d_Mo_cancel_26 : decode b_Mo_cancel 26 = .ok (.iload_n 2, 1) := by decide +kernel
theorem d_Mo_cancel_27 : decode b_Mo_cancel 27 = .ok (.istore_n 2, 1) := by decide +kernel
theorem d_Mo_cancel_28 : decode b_Mo_cancel 28 = .ok (.iinc 3 1, 3) := by decide +kernel
theorem d_Mo_cancel_31 : decode b_Mo_cancel 31 = .ok (.goto (-27), 3) := by decide +kernel
theorem d_Mo_cancel_34 : decode b_Mo_cancel 34 = .ok (.iload_n 2, 1) := by decide +kernel
theorem d_Mo_cancel_35 : decode b_Mo_cancel 35 = .ok (.iconst (-1), 1) := by decide +kernel
theorem d_Mo_cancel_36 : decode b_Mo_cancel 36 = .ok (.if_icmp .ne 9, 3) := by decide +kernel
theorem d_Mo_cancel_39 : decode b_Mo_cancel 39 = .ok (.aload_n 0, 1) := by decide +kernel
theorem d_Mo_cancel_40 : decode b_Mo_cancel 40 = .ok (.iconst 0, 1) := by decide +kernel
theorem d_Mo_cancel_41 : decode b_Mo_cancel 41 = .ok (.invokevirtual 120, 3) := by decide +kernel
theorem d_Mo_cancel_44 : decode b_Mo_cancel 44 = .ok (.ireturn, 1) := by decide +kernel
theorem d_Mo_cancel_45 : decode b_Mo_cancel 45 = .ok (.aload_n 0, 1) := by decide +kernel
theorem d_Mo_cancel_46 : decode b_Mo_cancel 46 = .ok (.iload_n 2, 1) := by decide +kernel
theorem d_Mo_cancel_47 : decode b_Mo_cancel 47 = .ok (.invokevirtual 159, 3) := by decide +kernel
theorem d_Mo_cancel_50 : decode b_Mo_cancel 50 = .ok (.aload_n 0, 1) := by decide +kernel
theorem d_Mo_cancel_51 : decode b_Mo_cancel 51 = .ok (.iconst 1, 1) := by decide +kernel
theorem d_Mo_cancel_52 : decode b_Mo_cancel 52 = .ok (.invokevirtual 120, 3) := by decide +kernel
theorem d_Mo_cancel_55 : decode b_Mo_cancel 55 = .ok (.ireturn, 1) := by decide +kernel
theorem d_Mo_drop_0 : decode b_Mo_drop 0 = .ok (.aload_n 0, 1) := by decide +kernel
theorem d_Mo_drop_1 : decode b_Mo_drop 1 = .ok (.dup, 1) := by decide +kernel
theorem d_Mo_drop_2 : decode b_Mo_drop 2 = .ok (.getfield 153, 3) := by decide +kernel
theorem d_Mo_drop_5 : decode b_Mo_drop 5 = .ok (.iconst 1, 1) := by decide +kernel
theorem d_Mo_drop_6 : decode b_Mo_drop 6 = .ok (.isub, 1) := by decide +kernel
theorem d_Mo_drop_7 : decode b_Mo_drop 7 = .ok (.putfield 153, 3) := by decide +kernel
theorem d_Mo_drop_10 : decode b_Mo_drop 10 = .ok (.iload_n 1, 1) := by decide +kernel
theorem d_Mo_drop_11 : decode b_Mo_drop 11 = .ok (.istore_n 2, 1) := by decide +kernel
theorem d_Mo_drop_12 : decode b_Mo_drop 12 = .ok (.iload_n 2, 1) := by decide +kernel
theorem d_Mo_drop_13 : decode b_Mo_drop 13 = .ok (.aload_n 0, 1) := by decide +kernel
theorem d_Mo_drop_14 : decode b_Mo_drop 14 = .ok (.getfield 153, 3) := by decide +kernel
theorem d_Mo_drop_17 : decode b_Mo_drop 17 = .ok (.if_icmp .ge 51, 3) := by decide +kernel
theorem d_Mo_drop_20 : decode b_Mo_drop 20 = .ok (.aload_n 0, 1) := by decide +kernel
theorem d_Mo_drop_21 : decode b_Mo_drop 21 = .ok (.getfield 63, 3) := by decide +kernel
theorem d_Mo_drop_24 : decode b_Mo_drop 24 = .ok (.iload_n 2, 1) := by decide +kernel
theorem d_Mo_drop_25 : decode b_Mo_drop 25 = .ok (.aload_n 0, 1) := by decide +kernel
theorem d_Mo_drop_26 : decode b_Mo_drop 26 = .ok (.getfield 63, 3) := by decide +kernel
theorem d_Mo_drop_29 : decode b_Mo_drop 29 = .ok (.iload_n 2, 1) := by decide +kernel
theorem d_Mo_drop_30 : decode b_Mo_drop 30 = .ok (.iconst 1, 1) := by decide +kernel
theorem d_Mo_drop_31 : decode b_Mo_drop 31 = .ok (.iadd, 1) := by decide +kernel
theorem d_Mo_drop_32 : decode b_Mo_drop 32 = .ok (.iaload, 1) := by decide +kernel
theorem d_Mo_drop_33 : decode b_Mo_drop 33 = .ok (.iastore, 1) := by decide +kernel
theorem d_Mo_drop_34 : decode b_Mo_drop 34 = .ok (.aload_n 0, 1) := by decide +kernel
theorem d_Mo_drop_35 : decode b_Mo_drop 35 = .ok (.getfield 66, 3) := by decide +kernel
theorem d_Mo_drop_38 : decode b_Mo_drop 38 = .ok (.iload_n 2, 1) := by decide +kernel
theorem d_Mo_drop_39 : decode b_Mo_drop 39 = .ok (.aload_n 0, 1) := by decide +kernel
theorem d_Mo_drop_40 : decode b_Mo_drop 40 = .ok (.getfield 66, 3) := by decide +kernel
theorem d_Mo_drop_43 : decode b_Mo_drop 43 = .ok (.iload_n 2, 1) := by decide +kernel
theorem d_Mo_drop_44 : decode b_Mo_drop 44 = .ok (.iconst 1, 1) := by decide +kernel
theorem d_Mo_drop_45 : decode b_Mo_drop 45 = .ok (.iadd, 1) := by decide +kernel
theorem d_Mo_drop_46 : decode b_Mo_drop 46 = .ok (.iaload, 1) := by decide +kernel
theorem d_Mo_drop_47 : decode b_Mo_drop 47 = .ok (.iastore, 1) := by decide +kernel
theorem d_Mo_drop_48 : decode b_Mo_drop 48 = .ok (.aload_n 0, 1) := by decide +kernel
theorem d_Mo_drop_49 : decode b_Mo_drop 49 = .ok (.getfield 69, 3) := by decide +kernel
theorem d_Mo_drop_52 : decode b_Mo_drop 52 = .ok (.iload_n 2, 1) := by decide +kernel
theorem d_Mo_drop_53 : decode b_Mo_drop 53 = .ok (.aload_n 0, 1) := by decide +kernel
theorem d_Mo_drop_54 : decode b_Mo_drop 54 = .ok (.getfield 69, 3) := by decide +kernel
theorem d_Mo_drop_57 : decode b_Mo_drop 57 = .ok (.iload_n 2, 1) := by decide +kernel
theorem d_Mo_drop_58 : decode b_Mo_drop 58 = .ok (.iconst 1, 1) := by decide +kernel
theorem d_Mo_drop_59 : decode b_Mo_drop 59 = .ok (.iadd, 1) := by decide +kernel
theorem d_Mo_drop_60 : decode b_Mo_drop 60 = .ok (.laload, 1) := by decide +kernel
theorem d_Mo_drop_61 : decode b_Mo_drop 61 = .ok (.lastore, 1) := by decide +kernel
theorem d_Mo_drop_62 : decode b_Mo_drop 62 = .ok (.iinc 2 1, 3) := by decide +kernel
theorem d_Mo_drop_65 : decode b_Mo_drop 65 = .ok (.goto (-53), 3) := by decide +kernel
theorem d_Mo_drop_68 : decode b_Mo_drop 68 = .ok (.return_, 1) := by decide +kernel
theorem d_Mo_tick_0 : decode b_Mo_tick 0 = .ok (.lload_n 1, 1) := by decide +kernel
theorem d_Mo_tick_1 : decode b_Mo_tick 1 = .ok (.aload_n 0, 1) := by decide +kernel
theorem d_Mo_tick_2 : decode b_Mo_tick 2 = .ok (.getfield 112, 3) := by decide +kernel
theorem d_Mo_tick_5 : decode b_Mo_tick 5 = .ok (.lcmp, 1) := by decide +kernel
theorem d_Mo_tick_6 : decode b_Mo_tick 6 = .ok (.ifCond .ge 9, 3) := by decide +kernel
theorem d_Mo_tick_9 : decode b_Mo_tick 9 = .ok (.aload_n 0, 1) := by decide +kernel
theorem d_Mo_tick_10 : decode b_Mo_tick 10 = .ok (.iconst (-1), 1) := by decide +kernel
theorem d_Mo_tick_11 : decode b_Mo_tick 11 = .ok (.invokevirtual 120, 3) := by decide +kernel
theorem d_Mo_tick_14 : decode b_Mo_tick 14 = .ok (.ireturn, 1) := by decide +kernel
theorem d_Mo_tick_15 : decode b_Mo_tick 15 = .ok (.aload_n 0, 1) := by decide +kernel
theorem d_Mo_tick_16 : decode b_Mo_tick 16 = .ok (.lload_n 1, 1) := by decide +kernel
theorem d_Mo_tick_17 : decode b_Mo_tick 17 = .ok (.putfield 112, 3) := by decide +kernel
theorem d_Mo_tick_20 : decode b_Mo_tick 20 = .ok (.iconst 0, 1) := by decide +kernel
theorem d_Mo_tick_21 : decode b_Mo_tick 21 = .ok (.istore_n 3, 1) := by decide +kernel
theorem d_Mo_tick_22 : decode b_Mo_tick 22 = .ok (.iconst 1, 1) := by decide +kernel
theorem d_Mo_tick_23 : decode b_Mo_tick 23 = .ok (.istore 4, 2) := by decide +kernel
theorem d_Mo_tick_25 : decode b_Mo_tick 25 = .ok (.iload 4, 2) := by decide +kernel
theorem d_Mo_tick_27 : decode b_Mo_tick 27 = .ok (.ifCond .eq 117, 3) := by decide +kernel
theorem d_Mo_tick_30 : decode b_Mo_tick 30 = .ok (.iconst (-1), 1) := by decide +kernel
theorem d_Mo_tick_31 : decode b_Mo_tick 31 = .ok (.istore 5, 2) := by decide +kernel
theorem d_Mo_tick_33 : decode b_Mo_tick 33 = .ok (.iconst 0, 1) := by decide +kernel
theorem d_Mo_tick_34 : decode b_Mo_tick 34 = .ok (.istore 6, 2) := by decide +kernel
theorem d_Mo_tick_36 : decode b_Mo_tick 36 = .ok (.iload 6, 2) := by decide +kernel
theorem d_Mo_tick_38 : decode b_Mo_tick 38 = .ok (.aload_n 0, 1) := by decide +kernel
theorem d_Mo_tick_39 : decode b_Mo_tick 39 = .ok (.getfield 153, 3) := by decide +kernel
theorem d_Mo_tick_42 : decode b_Mo_tick 42 = .ok (.if_icmp .ge 57, 3) := by decide +kernel
theorem d_Mo_tick_45 : decode b_Mo_tick 45 = .ok (.aload_n 0, 1) := by decide +kernel
theorem d_Mo_tick_46 : decode b_Mo_tick 46 = .ok (.getfield 69, 3) := by decide +kernel
theorem d_Mo_tick_49 : decode b_Mo_tick 49 = .ok (.iload 6, 2) := by decide +kernel
theorem d_Mo_tick_51 : decode b_Mo_tick 51 = .ok (.laload, 1) := by decide +kernel
theorem d_Mo_tick_52 : decode b_Mo_tick 52 = .ok (.aload_n 0, 1) := by decide +kernel
theorem d_Mo_tick_53 : decode b_Mo_tick 53 = .ok (.getfield 112, 3) := by decide +kernel
theorem d_Mo_tick_56 : decode b_Mo_tick 56 = .ok (.lcmp, 1) := by decide +kernel
theorem d_Mo_tick_57 : decode b_Mo_tick 57 = .ok (.ifCond .gt 32, 3) := by decide +kernel
theorem d_Mo_tick_60 : decode b_Mo_tick 60 = .ok (.iload 5, 2) := by decide +kernel
theorem d_Mo_tick_62 : decode b_Mo_tick 62 = .ok (.iconst (-1), 1) := by decide +kernel
theorem d_Mo_tick_63 : decode b_Mo_tick 63 = .ok (.if_icmp .eq 21, 3) := by decide +kernel
theorem d_Mo_tick_66 : decode b_Mo_tick 66 = .ok (.aload_n 0, 1) := by decide +kernel
theorem d_Mo_tick_67 : decode b_Mo_tick 67 = .ok (.getfield 69, 3) := by decide +kernel
theorem d_Mo_tick_70 : decode b_Mo_tick 70 = .ok (.iload 6, 2) := by decide +kernel
theorem d_Mo_tick_72 : decode b_Mo_tick 72 = .ok (.laload, 1) := by decide +kernel
theorem d_Mo_tick_73 : decode b_Mo_tick 73 = .ok (.aload_n 0, 1) := by decide +kernel
theorem d_Mo_tick_74 : decode b_Mo_tick 74 = .ok (.getfield 69, 3) := by decide +kernel
theorem d_Mo_tick_77 : decode b_Mo_tick 77 = .ok (.iload 5, 2) := by decide +kernel
theorem d_Mo_tick_79 : decode b_Mo_tick 79 = .ok (.laload, 1) := by decide +kernel
theorem d_Mo_tick_80 : decode b_Mo_tick 80 = .ok (.lcmp, 1) := by decide +kernel
theorem d_Mo_tick_81 : decode b_Mo_tick 81 = .ok (.ifCond .ge 8, 3) := by decide +kernel
theorem d_Mo_tick_84 : decode b_Mo_tick 84 = .ok (.iload 6, 2) := by decide +kernel
theorem d_Mo_tick_86 : decode b_Mo_tick 86 = .ok (.goto 5, 3) := by decide +kernel
theorem d_Mo_tick_89 : decode b_Mo_tick 89 = .ok (.iload 5, 2) := by decide +kernel
theorem d_Mo_tick_91 : decode b_Mo_tick 91 = .ok (.istore 5, 2) := by decide +kernel
theorem d_Mo_tick_93 : decode b_Mo_tick 93 = .ok (.iinc 6 1, 3) := by decide +kernel
theorem d_Mo_tick_96 : decode b_Mo_tick 96 = .ok (.goto (-60), 3) := by decide +kernel
theorem d_Mo_tick_99 : decode b_Mo_tick 99 = .ok (.iload 5, 2) := by decide +kernel
theorem d_Mo_tick_101 : decode b_Mo_tick 101 = .ok (.iconst (-1), 1) := by decide +kernel
theorem d_Mo_tick_102 : decode b_Mo_tick 102 = .ok (.if_icmp .eq 7, 3) := by decide +kernel
theorem d_Mo_tick_105 : decode b_Mo_tick 105 = .ok (.iconst 1, 1) := by decide +kernel
theorem d_Mo_tick_106 : decode b_Mo_tick 106 = .ok (.goto 4, 3) := by decide +kernel
theorem d_Mo_tick_109 : decode b_Mo_tick 109 = .ok (.iconst 0, 1) := by decide +kernel
theorem d_Mo_tick_110 : decode b_Mo_tick 110 = .ok (.istore 4, 2) := by decide +kernel
theorem d_Mo_tick_112 : decode b_Mo_tick 112 = .ok (.iload 4, 2) := by decide +kernel
theorem d_Mo_tick_114 : decode b_Mo_tick 114 = .ok (.ifCond .ne 6, 3) := by decide +kernel
theorem d_Mo_tick_117 : decode b_Mo_tick 117 = .ok (.goto (-92), 3) := by decide +kernel
theorem d_Mo_tick_120 : decode b_Mo_tick 120 = .ok (.aload_n 0, 1) := by decide +kernel
theorem d_Mo_tick_121 : decode b_Mo_tick 121 = .ok (.aload_n 0, 1) := by decide +kernel
theorem d_Mo_tick_122 : decode b_Mo_tick 122 = .ok (.getfield 66, 3) := by decide +kernel
theorem d_Mo_tick_125 : decode b_Mo_tick 125 = .ok (.iload 5, 2) := by decide +kernel
theorem d_Mo_tick_127 : decode b_Mo_tick 127 = .ok (.iaload, 1) := by decide +kernel
theorem d_Mo_tick_128 : decode b_Mo_tick 128 = .ok (.invokevirtual 99, 3) := by decide +kernel
theorem d_Mo_tick_131 : decode b_Mo_tick 131 = .ok (.pop, 1) := by decide +kernel
theorem d_Mo_tick_132 : decode b_Mo_tick 132 = .ok (.aload_n 0, 1) := by decide +kernel
theorem d_Mo_tick_133 : decode b_Mo_tick 133 = .ok (.iload 5, 2) := by decide +kernel
theorem d_Mo_tick_135 : decode b_Mo_tick 135 = .ok (.invokevirtual 159, 3) := by decide +kernel
theorem d_Mo_tick_138 : decode b_Mo_tick 138 = .ok (.iinc 3 1, 3) := by decide +kernel
theorem d_Mo_tick_141 : decode b_Mo_tick 141 = .ok (.goto (-116), 3) := by decide +kernel
theorem d_Mo_tick_144 : decode b_Mo_tick 144 = .ok (.aload_n 0, 1) := by decide +kernel
theorem d_Mo_tick_145 : decode b_Mo_tick 145 = .ok (.iload_n 3, 1) := by decide +kernel
theorem d_Mo_tick_146 : decode b_Mo_tick 146 = .ok (.invokevirtual 120, 3) := by decide +kernel
theorem d_Mo_tick_149 : decode b_Mo_tick 149 = .ok (.ireturn, 1) := by decide +kernel
theorem d_Mo_unit_0 : decode b_Mo_unit 0 = .ok (.aload_n 0, 1) := by decide +kernel
theorem d_Mo_unit_1 : decode b_Mo_unit 1 = .ok (.aload_n 0, 1) := by decide +kernel
theorem d_Mo_unit_2 : decode b_Mo_unit 2 = .ok (.iload_n 1, 1) := by decide +kernel
theorem d_Mo_unit_3 : decode b_Mo_unit 3 = .ok (.iload_n 2, 1) := by decide +kernel
theorem d_Mo_unit_4 : decode b_Mo_unit 4 = .ok (.invokevirtual 162, 3) := by decide +kernel
theorem d_Mo_unit_7 : decode b_Mo_unit 7 = .ok (.invokevirtual 120, 3) := by decide +kernel
theorem d_Mo_unit_10 : decode b_Mo_unit 10 = .ok (.ireturn, 1) := by decide +kernel
theorem d_Mo_unitEnds_0 : decode b_Mo_unitEnds 0 = .ok (.iload_n 1, 1) := by decide +kernel
theorem d_Mo_unitEnds_1 : decode b_Mo_unitEnds 1 = .ok (.iconst 1, 1) := by decide +kernel
theorem d_Mo_unitEnds_2 : decode b_Mo_unitEnds 2 = .ok (.if_icmp .lt 9, 3) := by decide +kernel
theorem d_Mo_unitEnds_5 : decode b_Mo_unitEnds 5 = .ok (.iload_n 1, 1) := by decide +kernel
theorem d_Mo_unitEnds_6 : decode b_Mo_unitEnds 6 = .ok (.bipush 9, 2) := by decide +kernel
theorem d_Mo_unitEnds_8 : decode b_Mo_unitEnds 8 = .ok (.if_icmp .le 6, 3) := by decide +kernel
theorem d_Mo_unitEnds_11 : decode b_Mo_unitEnds 11 = .ok (.bipush (-2), 2) := by decide +kernel
theorem d_Mo_unitEnds_13 : decode b_Mo_unitEnds 13 = .ok (.ireturn, 1) := by decide +kernel
theorem d_Mo_unitEnds_14 : decode b_Mo_unitEnds 14 = .ok (.iconst 0, 1) := by decide +kernel
theorem d_Mo_unitEnds_15 : decode b_Mo_unitEnds 15 = .ok (.istore_n 3, 1) := by decide +kernel
theorem d_Mo_unitEnds_16 : decode b_Mo_unitEnds 16 = .ok (.aload_n 0, 1) := by decide +kernel
theorem d_Mo_unitEnds_17 : decode b_Mo_unitEnds 17 = .ok (.getfield 79, 3) := by decide +kernel
theorem d_Mo_unitEnds_20 : decode b_Mo_unitEnds 20 = .ok (.iconst 1, 1) := by decide +kernel
theorem d_Mo_unitEnds_21 : decode b_Mo_unitEnds 21 = .ok (.isub, 1) := by decide +kernel
theorem d_Mo_unitEnds_22 : decode b_Mo_unitEnds 22 = .ok (.istore 4, 2) := by decide +kernel
theorem d_Mo_unitEnds_24 : decode b_Mo_unitEnds 24 = .ok (.iload 4, 2) := by decide +kernel
theorem d_Mo_unitEnds_26 : decode b_Mo_unitEnds 26 = .ok (.ifCond .lt 93, 3) := by decide +kernel
theorem d_Mo_unitEnds_29 : decode b_Mo_unitEnds 29 = .ok (.aload_n 0, 1) := by decide +kernel
theorem d_Mo_unitEnds_30 : decode b_Mo_unitEnds 30 = .ok (.getfield 16, 3) := by decide +kernel
theorem d_Mo_unitEnds_33 : decode b_Mo_unitEnds 33 = .ok (.iload 4, 2) := by decide +kernel
theorem d_Mo_unitEnds_35 : decode b_Mo_unitEnds 35 = .ok (.iaload, 1) := by decide +kernel
theorem d_Mo_unitEnds_36 : decode b_Mo_unitEnds 36 = .ok (.iload_n 1, 1) := by decide +kernel
theorem d_Mo_unitEnds_37 : decode b_Mo_unitEnds 37 = .ok (.if_icmp .eq 6, 3) := by decide +kernel
theorem d_Mo_unitEnds_40 : decode b_Mo_unitEnds 40 = .ok (.goto 73, 3) := by decide +kernel
theorem d_Mo_unitEnds_43 : decode b_Mo_unitEnds 43 = .ok (.iinc 3 1, 3) := by decide +kernel
theorem d_Mo_unitEnds_46 : decode b_Mo_unitEnds 46 = .ok (.aload_n 0, 1) := by decide +kernel
theorem d_Mo_unitEnds_47 : decode b_Mo_unitEnds 47 = .ok (.getfield 7, 3) := by decide +kernel
theorem d_Mo_unitEnds_50 : decode b_Mo_unitEnds 50 = .ok (.iload 4, 2) := by decide +kernel
theorem d_Mo_unitEnds_52 : decode b_Mo_unitEnds 52 = .ok (.iaload, 1) := by decide +kernel
theorem d_Mo_unitEnds_53 : decode b_Mo_unitEnds 53 = .ok (.istore 5, 2) := by decide +kernel
theorem d_Mo_unitEnds_55 : decode b_Mo_unitEnds 55 = .ok (.aload_n 0, 1) := by decide +kernel
theorem d_Mo_unitEnds_56 : decode b_Mo_unitEnds 56 = .ok (.getfield 16, 3) := by decide +kernel
theorem d_Mo_unitEnds_59 : decode b_Mo_unitEnds 59 = .ok (.iload 4, 2) := by decide +kernel
theorem d_Mo_unitEnds_61 : decode b_Mo_unitEnds 61 = .ok (.iconst 0, 1) := by decide +kernel
theorem d_Mo_unitEnds_62 : decode b_Mo_unitEnds 62 = .ok (.iastore, 1) := by decide +kernel
theorem d_Mo_unitEnds_63 : decode b_Mo_unitEnds 63 = .ok (.iload_n 2, 1) := by decide +kernel
theorem d_Mo_unitEnds_64 : decode b_Mo_unitEnds 64 = .ok (.ifCond .eq 6, 3) := by decide +kernel
theorem d_Mo_unitEnds_67 : decode b_Mo_unitEnds 67 = .ok (.goto 46, 3) := by decide +kernel
theorem d_Mo_unitEnds_70 : decode b_Mo_unitEnds 70 = .ok (.aload_n 0, 1) := by decide +kernel
theorem d_Mo_unitEnds_71 : decode b_Mo_unitEnds 71 = .ok (.getfield 26, 3) := by decide +kernel
theorem d_Mo_unitEnds_74 : decode b_Mo_unitEnds 74 = .ok (.iload 5, 2) := by decide +kernel
theorem d_Mo_unitEnds_76 : decode b_Mo_unitEnds 76 = .ok (.aload_n 0, 1) := by decide +kernel
theorem d_Mo_unitEnds_77 : decode b_Mo_unitEnds 77 = .ok (.getfield 23, 3) := by decide +kernel
theorem d_Mo_unitEnds_80 : decode b_Mo_unitEnds 80 = .ok (.iload 5, 2) := by decide +kernel
theorem d_Mo_unitEnds_82 : decode b_Mo_unitEnds 82 = .ok (.iaload, 1) := by decide +kernel
theorem d_Mo_unitEnds_83 : decode b_Mo_unitEnds 83 = .ok (.iconst 1, 1) := by decide +kernel
theorem d_Mo_unitEnds_84 : decode b_Mo_unitEnds 84 = .ok (.if_icmp .le 15, 3) := by decide +kernel
theorem d_Mo_unitEnds_87 : decode b_Mo_unitEnds 87 = .ok (.aload_n 0, 1) := by decide +kernel
theorem d_Mo_unitEnds_88 : decode b_Mo_unitEnds 88 = .ok (.getfield 26, 3) := by decide +kernel
theorem d_Mo_unitEnds_91 : decode b_Mo_unitEnds 91 = .ok (.iload 5, 2) := by decide +kernel
theorem d_Mo_unitEnds_93 : decode b_Mo_unitEnds 93 = .ok (.iaload, 1) := by decide +kernel
theorem d_Mo_unitEnds_94 : decode b_Mo_unitEnds 94 = .ok (.iconst 1, 1) := by decide +kernel
theorem d_Mo_unitEnds_95 : decode b_Mo_unitEnds 95 = .ok (.isub, 1) := by decide +kernel
theorem d_Mo_unitEnds_96 : decode b_Mo_unitEnds 96 = .ok (.goto 10, 3) := by decide +kernel
theorem d_Mo_unitEnds_99 : decode b_Mo_unitEnds 99 = .ok (.aload_n 0, 1) := by decide +kernel
theorem d_Mo_unitEnds_100 : decode b_Mo_unitEnds 100 = .ok (.getfield 26, 3) := by decide +kernel
theorem d_Mo_unitEnds_103 : decode b_Mo_unitEnds 103 = .ok (.iload 5, 2) := by decide +kernel
theorem d_Mo_unitEnds_105 : decode b_Mo_unitEnds 105 = .ok (.iaload, 1) := by decide +kernel
theorem d_Mo_unitEnds_106 : decode b_Mo_unitEnds 106 = .ok (.iastore, 1) := by decide +kernel
theorem d_Mo_unitEnds_107 : decode b_Mo_unitEnds 107 = .ok (.aload_n 0, 1) := by decide +kernel
theorem d_Mo_unitEnds_108 : decode b_Mo_unitEnds 108 = .ok (.iload 4, 2) := by decide +kernel
theorem d_Mo_unitEnds_110 : decode b_Mo_unitEnds 110 = .ok (.invokevirtual 136, 3) := by decide +kernel
theorem d_Mo_unitEnds_113 : decode b_Mo_unitEnds 113 = .ok (.iinc 4 (-1), 3) := by decide +kernel
theorem d_Mo_unitEnds_116 : decode b_Mo_unitEnds 116 = .ok (.goto (-92), 3) := by decide +kernel
theorem d_Mo_unitEnds_119 : decode b_Mo_unitEnds 119 = .ok (.iload_n 3, 1) := by decide +kernel
theorem d_Mo_unitEnds_120 : decode b_Mo_unitEnds 120 = .ok (.ireturn, 1) := by decide +kernel
theorem d_Mo_age_0 : decode b_Mo_age 0 = .ok (.iconst 0, 1) := by decide +kernel
theorem d_Mo_age_1 : decode b_Mo_age 1 = .ok (.istore_n 3, 1) := by decide +kernel
theorem d_Mo_age_2 : decode b_Mo_age 2 = .ok (.iconst 0, 1) := by decide +kernel
theorem d_Mo_age_3 : decode b_Mo_age 3 = .ok (.istore 4, 2) := by decide +kernel
theorem d_Mo_age_5 : decode b_Mo_age 5 = .ok (.iload 4, 2) := by decide +kernel
theorem d_Mo_age_7 : decode b_Mo_age 7 = .ok (.bipush 32, 2) := by decide +kernel
theorem d_Mo_age_9 : decode b_Mo_age 9 = .ok (.if_icmp .ge 68, 3) := by decide +kernel
theorem d_Mo_age_12 : decode b_Mo_age 12 = .ok (.aload_n 0, 1) := by decide +kernel
theorem d_Mo_age_13 : decode b_Mo_age 13 = .ok (.iload 4, 2) := by decide +kernel
theorem d_Mo_age_15 : decode b_Mo_age 15 = .ok (.invokevirtual 123, 3) := by decide +kernel
theorem d_Mo_age_18 : decode b_Mo_age 18 = .ok (.ifCond .eq 53, 3) := by decide +kernel
theorem d_Mo_age_21 : decode b_Mo_age 21 = .ok (.aload_n 0, 1) := by decide +kernel
theorem d_Mo_age_22 : decode b_Mo_age 22 = .ok (.getfield 48, 3) := by decide +kernel
theorem d_Mo_age_25 : decode b_Mo_age 25 = .ok (.iload 4, 2) := by decide +kernel
theorem d_Mo_age_27 : decode b_Mo_age 27 = .ok (.laload, 1) := by decide +kernel
theorem d_Mo_age_28 : decode b_Mo_age 28 = .ok (.lload_n 1, 1) := by decide +kernel
theorem d_Mo_age_29 : decode b_Mo_age 29 = .ok (.lcmp, 1) := by decide +kernel
theorem d_Mo_age_30 : decode b_Mo_age 30 = .ok (.ifCond .ge 41, 3) := by decide +kernel
theorem d_Mo_age_33 : decode b_Mo_age 33 = .ok (.aload_n 0, 1) := by decide +kernel
theorem d_Mo_age_34 : decode b_Mo_age 34 = .ok (.iload 4, 2) := by decide +kernel
theorem d_Mo_age_36 : decode b_Mo_age 36 = .ok (.invokevirtual 109, 3) := by decide +kernel
theorem d_Mo_age_39 : decode b_Mo_age 39 = .ok (.ifCond .eq 6, 3) := by decide +kernel
theorem d_Mo_age_42 : decode b_Mo_age 42 = .ok (.goto 29, 3) := by decide +kernel
theorem d_Mo_age_45 : decode b_Mo_age 45 = .ok (.aload_n 0, 1) := by decide +kernel
theorem d_Mo_age_46 : decode b_Mo_age 46 = .ok (.iload 4, 2) := by decide +kernel
theorem d_Mo_age_48 : decode b_Mo_age 48 = .ok (.invokevirtual 82, 3) := by decide +kernel
theorem d_Mo_age_51 : decode b_Mo_age 51 = .ok (.ifCond .le 17, 3) := by decide +kernel
theorem d_Mo_age_54 : decode b_Mo_age 54 = .ok (.aload_n 0, 1) := by decide +kernel
theorem d_Mo_age_55 : decode b_Mo_age 55 = .ok (.aload_n 0, 1) := by decide +kernel
theorem d_Mo_age_56 : decode b_Mo_age 56 = .ok (.iload 4, 2) := by decide +kernel
theorem d_Mo_age_58 : decode b_Mo_age 58 = .ok (.iconst 1, 1) := by decide +kernel
theorem d_Mo_age_59 : decode b_Mo_age 59 = .ok (.invokevirtual 126, 3) := by decide +kernel
theorem d_Mo_age_62 : decode b_Mo_age 62 = .ok (.invokevirtual 136, 3) := by decide +kernel
theorem d_Mo_age_65 : decode b_Mo_age 65 = .ok (.goto (-20), 3) := by decide +kernel
theorem d_Mo_age_68 : decode b_Mo_age 68 = .ok (.iinc 3 1, 3) := by decide +kernel
theorem d_Mo_age_71 : decode b_Mo_age 71 = .ok (.iinc 4 1, 3) := by decide +kernel
theorem d_Mo_age_74 : decode b_Mo_age 74 = .ok (.goto (-69), 3) := by decide +kernel
theorem d_Mo_age_77 : decode b_Mo_age 77 = .ok (.aload_n 0, 1) := by decide +kernel
theorem d_Mo_age_78 : decode b_Mo_age 78 = .ok (.iload_n 3, 1) := by decide +kernel
theorem d_Mo_age_79 : decode b_Mo_age 79 = .ok (.invokevirtual 120, 3) := by decide +kernel
theorem d_Mo_age_82 : decode b_Mo_age 82 = .ok (.ireturn, 1) := by decide +kernel
theorem d_Mo_count_0 : decode b_Mo_count 0 = .ok (.aload_n 0, 1) := by decide +kernel
theorem d_Mo_count_1 : decode b_Mo_count 1 = .ok (.iconst 0, 1) := by decide +kernel
theorem d_Mo_count_2 : decode b_Mo_count 2 = .ok (.putfield 76, 3) := by decide +kernel
theorem d_Mo_count_5 : decode b_Mo_count 5 = .ok (.iload_n 1, 1) := by decide +kernel
theorem d_Mo_count_6 : decode b_Mo_count 6 = .ok (.ifCond .lt 15, 3) := by decide +kernel
theorem d_Mo_count_9 : decode b_Mo_count 9 = .ok (.iload_n 1, 1) := by decide +kernel
theorem d_Mo_count_10 : decode b_Mo_count 10 = .ok (.bipush 32, 2) := by decide +kernel
theorem d_Mo_count_12 : decode b_Mo_count 12 = .ok (.if_icmp .ge 9, 3) := by decide +kernel
theorem d_Mo_count_15 : decode b_Mo_count 15 = .ok (.aload_n 0, 1) := by decide +kernel
theorem d_Mo_count_16 : decode b_Mo_count 16 = .ok (.iload_n 1, 1) := by decide +kernel
theorem d_Mo_count_17 : decode b_Mo_count 17 = .ok (.invokevirtual 82, 3) := by decide +kernel
theorem d_Mo_count_20 : decode b_Mo_count 20 = .ok (.ireturn, 1) := by decide +kernel
theorem d_Mo_count_21 : decode b_Mo_count 21 = .ok (.iload_n 1, 1) := by decide +kernel
theorem d_Mo_count_22 : decode b_Mo_count 22 = .ok (.bipush 32, 2) := by decide +kernel
theorem d_Mo_count_24 : decode b_Mo_count 24 = .ok (.if_icmp .lt 19, 3) := by decide +kernel
theorem d_Mo_count_27 : decode b_Mo_count 27 = .ok (.iload_n 1, 1) := by decide +kernel
theorem d_Mo_count_28 : decode b_Mo_count 28 = .ok (.bipush 64, 2) := by decide +kernel
theorem d_Mo_count_30 : decode b_Mo_count 30 = .ok (.if_icmp .ge 13, 3) := by decide +kernel
theorem d_Mo_count_33 : decode b_Mo_count 33 = .ok (.aload_n 0, 1) := by decide +kernel
theorem d_Mo_count_34 : decode b_Mo_count 34 = .ok (.getfield 23, 3) := by decide +kernel
theorem d_Mo_count_37 : decode b_Mo_count 37 = .ok (.iload_n 1, 1) := by decide +kernel
theorem d_Mo_count_38 : decode b_Mo_count 38 = .ok (.bipush 32, 2) := by decide +kernel
theorem d_Mo_count_40 : decode b_Mo_count 40 = .ok (.isub, 1) := by decide +kernel
theorem d_Mo_count_41 : decode b_Mo_count 41 = .ok (.iaload, 1) := by decide +kernel
theorem d_Mo_count_42 : decode b_Mo_count 42 = .ok (.ireturn, 1) := by decide +kernel
theorem d_Mo_count_43 : decode b_Mo_count 43 = .ok (.iload_n 1, 1) := by decide +kernel
theorem d_Mo_count_44 : decode b_Mo_count 44 = .ok (.tableswitch 52 64 67 #[32, 37, 42, 47], 32) := by decide +kernel
theorem d_Mo_count_76 : decode b_Mo_count 76 = .ok (.aload_n 0, 1) := by decide +kernel
theorem d_Mo_count_77 : decode b_Mo_count 77 = .ok (.getfield 79, 3) := by decide +kernel
theorem d_Mo_count_80 : decode b_Mo_count 80 = .ok (.ireturn, 1) := by decide +kernel
theorem d_Mo_count_81 : decode b_Mo_count 81 = .ok (.aload_n 0, 1) := by decide +kernel
theorem d_Mo_count_82 : decode b_Mo_count 82 = .ok (.getfield 90, 3) := by decide +kernel
theorem d_Mo_count_85 : decode b_Mo_count 85 = .ok (.ireturn, 1) := by decide +kernel
theorem d_Mo_count_86 : decode b_Mo_count 86 = .ok (.aload_n 0, 1) := by decide +kernel
theorem d_Mo_count_87 : decode b_Mo_count 87 = .ok (.getfield 93, 3) := by decide +kernel
theorem d_Mo_count_90 : decode b_Mo_count 90 = .ok (.ireturn, 1) := by decide +kernel
theorem d_Mo_count_91 : decode b_Mo_count 91 = .ok (.aload_n 0, 1) := by decide +kernel
theorem d_Mo_count_92 : decode b_Mo_count 92 = .ok (.getfield 153, 3) := by decide +kernel
theorem d_Mo_count_95 : decode b_Mo_count 95 = .ok (.ireturn, 1) := by decide +kernel
theorem d_Mo_count_96 : decode b_Mo_count 96 = .ok (.bipush (-2), 2) := by decide +kernel
theorem d_Mo_count_98 : decode b_Mo_count 98 = .ok (.ireturn, 1) := by decide +kernel
end
section
/-! A WORLD AS A MAP FROM ADDRESSES TO CELLS, AND A JUDGEMENT THAT FORGETS THE HEAP, THE LOCALS' ARRAY AND THE PLACES WRITTEN. -/
/-- a cell: an array by its type's place and contents, or an object by its class's place and fields -/
abbrev ZE : Type := (Nat × List Value) ⊕ (Nat × List Value)
abbrev ZM : Type := Nat → Option ZE
def zset (M : ZM) (a : Nat) (e : ZE) : ZM := fun q => if q = a then some e else M q
theorem zset_self (M : ZM) (a : Nat) (e : ZE) : zset M a e a = some e := by simp [zset]
theorem zset_zset (M : ZM) (a : Nat) (e e' : ZE) : zset (zset M a e) a e' = zset M a e' := by
  funext q
  unfold zset
  split <;> rfl
theorem zset_ne {M : ZM} {a q : Nat} {e : ZE} (h : q ≠ a) : zset M a e q = M q := by simp [zset, h]
/-- the class numbers and slots; the array classes; what may be written; the shared empty array; the Class object of Object arrays -/
abbrev ZG : Type := va_G × (Nat → ClassId) × (Nat → Prop) × Nat × Nat × (Nat × Nat × (Nat → Int32))
def zarr (cA : ClassId) (vs : List Value) : Cell := { cls := cA, slots := vs.toArray, vm := .none }
def zat (cl : List vw_C) (g : ZG) (q : Nat) (e : ZE) (H : Heap) : Prop := match e with
  | .inl a => ∃ ce : Cell, H[q]? = some ce ∧ (ce = zarr (g.2.1 a.1) a.2 ∨ (a.2 = [] ∧ ce.cls = g.2.1 a.1 ∧ ce.slots = #[] ∧ (∀ k, ce.vm ≠ .statics k) ∧ ce.vm ≠ .unknown))
  | .inr o => ∃ r : vw_C, cl[o.1]? = some r ∧ o.2.length = r.2.2 ∧ t_OB q (g.1.1 o.1) r.2.2 (g.1.2 o.1) H (vp_V o.2)
/-- words that outlast a step but are not told by the tables alone -/
def zOv : List String := ["java/lang/Object", "MonitorQueues$Queue"]
def zCa : List (String × String) := [("MonitorQueues$Item", "java/lang/Object"), ("MonitorQueues$Task", "java/lang/Object"), ("MonitorQueues$Delay", "java/lang/Object"), ("MonitorQueues$Queue", "java/lang/Object"), ("MonitorQueues$Trigger", "java/lang/Object")]
def zN (g : ZG) (U : State) : Prop := (∀ C ∈ zOv, va_AO C U) ∧ (∀ c ∈ zCa, va_Nw (.castable c.1 c.2) U) ∧ va_Dc U ∧ va_Mi "[Ljava/lang/Object;" g.2.2.2.2.1 U
theorem zNw.moved {C T : String} {u U : State} (hvm : u.vm.Alike U.vm) (h : va_Nw (.castable C T) u) : va_Nw (.castable C T) U := va_tabs rfl (rfl : (u.setVm U.vm).vm = U.vm) (by rw [Cond.castable_setVm hvm]; exact h)
theorem zN.moved {g : ZG} {u U : State} (hvm : u.vm.Alike U.vm) (h : zN g u) : zN g U := by
  obtain ⟨h1, h2, h3, h4⟩ := h
  exact ⟨fun C hC => va_AO.moved hvm (h1 C hC), fun c hc => zNw.moved hvm (h2 c hc), va_Dc.moved hvm h3, va_Mi.moved hvm h4⟩
def zK (cl : List vw_C) (tl : List FieldType) (g : ZG) (U : State) : Prop :=
  (∀ (c : Nat) (q : vw_C), cl[c]? = some q → u_Kn U q.1 q.2.1 q.2.2 (g.1.1 c) (g.1.2 c)) ∧ (∀ (t : Nat) (ty : FieldType), tl[t]? = some ty → ArrOfT U (g.2.1 t) ty ∧ va_RA U (g.2.1 t) ty) ∧ zN g U
def zP (cl : List vw_C) (g : ZG) (M : ZM) (H : Heap) : Prop :=
  (∀ (a : Nat) (e : ZE), M a = some e → zat cl g a e H) ∧ (∀ (a : Nat) (e : ZE), M a = some e → a = g.2.2.2.1 ∨ g.2.2.1 a) ∧ M g.2.2.2.1 = some (.inl (0, []))
/-- a static of Throwable's: a reference or null, in a cell that nobody writes -/
def zTs (n d : String) (A : Nat → Prop) (U : State) (H : Heap) : Prop := ∃ (c : ClassId) (k : Class) (i : Nat) (f : Field) (a : Nat) (cell : Cell) (v : Value), U.vm.findClass "java/lang/Throwable" = some c ∧ U.fieldFound? "java/lang/Throwable" n d = some (c, k, i, f) ∧ f.isStatic = true ∧ k.statics = some a ∧ H[a]? = some cell ∧ cell.vm.isStatics = true ∧ cell.cls = c ∧ f.slot < cell.slots.size ∧ k.staticTypes[f.slot]? = some f.type ∧ cell.slots[f.slot]? = some v ∧ v.isRef = true ∧ ¬ A a
theorem zTs.moved {n d : String} {A : Nat → Prop} {u U : State} {H : Heap} (hvm : u.vm.Alike U.vm) (h : zTs n d A u H) : zTs n d A U H := by
  obtain ⟨c, k, i, f, a, cell, v, h1, h2, h3, h4, h5, h6, h7, h8, h9, h10⟩ := h
  obtain ⟨k', hf', he⟩ := State.fieldFound?_setVm hvm h2
  have hfU : U.fieldFound? "java/lang/Throwable" n d = some (c, k', i, f) := by
    have : U.fieldFound? = (u.setVm U.vm).fieldFound? := by funext x y z; simp only [State.fieldFound?]; rfl
    rw [this]; exact hf'
  exact ⟨c, k', i, f, a, cell, v, by rw [hvm.findClass]; exact h1, hfU, h3, by rw [he]; exact h4, h5, h6, h7, h8, by rw [he]; exact h9, h10⟩
theorem zTs.kept {n d : String} {A : Nat → Prop} {U : State} {H H1 : Heap} (h : zTs n d A U H) (hq : ∀ a : Nat, a < H.size → ¬ A a → H1[a]? = H[a]?) : zTs n d A U H1 := by
  obtain ⟨c, k, i, f, a, cell, v, h1, h2, h3, h4, h5, h6, h7, h8, h9, h10, h11, h12⟩ := h
  exact ⟨c, k, i, f, a, cell, v, h1, h2, h3, h4, by rw [hq a (Array.getElem?_eq_some_iff.mp h5).1 h12]; exact h5, h6, h7, h8, h9, h10, h11, h12⟩
theorem zTs.lays {n d : String} {A : Nat → Prop} {U : State} (h : zTs n d A U U.heap) (args : Array Value) : (Cond.laysStatic "java/lang/Throwable" n d).before args U = true := by
  obtain ⟨c, k, i, f, a, cell, v, h1, h2, h3, h4, h5, h6, h7, h8, h9, h10, h11, h12⟩ := h
  simp [Cond.before, Cond.holds, Cond.value, h1, h2, h3, h4, h5, h6, h7, h8, h9]
theorem zTs.isRef {n d : String} {A : Nat → Prop} {U : State} (h : zTs n d A U U.heap) (args : Array Value) : (Cond.isRef (.static "java/lang/Throwable" n d)).before args U = true := by
  obtain ⟨c, k, i, f, a, cell, v, h1, h2, h3, h4, h5, h6, h7, h8, h9, h10, h11, h12⟩ := h
  simp [Cond.before, Cond.holds, Cond.value, Term.eval, State.fieldNamed?, h2, h3, h4, h5, h6, h10]
  cases v <;> first | rfl | (simp [Value.isRef] at h11)
theorem zTs.of {n d : String} {A : Nat → Prop} {U : State} {args : Array Value} (hl : (Cond.laysStatic "java/lang/Throwable" n d).before args U = true) (hr : (Cond.isRef (.static "java/lang/Throwable" n d)).before args U = true) (hA : ∀ a, a < U.heap.size → ¬ A a) : zTs n d A U U.heap := by
  obtain ⟨c, k, i, f, a, cell, h1, h2, h3, h4, h5, h6, h7, h8, h9⟩ := Cond.laysStatic_spec hl
  obtain ⟨u, hu⟩ := Cond.staticRefV h2 h3 h4 h5 h6 hr
  exact ⟨c, k, i, f, a, cell, u.v, h1, h2, h3, h4, h5, h6, h7, h8, h9, hu, u.2, hA a (Array.getElem?_eq_some_iff.mp h5).1⟩
def zDl : List MethodName := [⟨"java/lang/RuntimeException", "<init>", "(Ljava/lang/String;)V"⟩, ⟨"java/lang/Exception", "<init>", "(Ljava/lang/String;)V"⟩, ⟨"java/lang/Throwable", "<init>", "(Ljava/lang/String;)V"⟩]
def zSr : List (Nat × String) := [(74, "no such queue"), (85, "no such item"), (102, "not the item taken latest")]
def zTh (A : Nat → Prop) (U : State) (H : Heap) : Prop := zTs "UNASSIGNED_STACK" "[Ljava/lang/StackTraceElement;" A U H ∧ zTs "SUPPRESSED_SENTINEL" "Ljava/util/List;" A U H ∧ (∀ x ∈ zDl, va_Nw (.declares x) U) ∧ va_Nw (.castable "java/util/NoSuchElementException" "java/util/NoSuchElementException") U ∧ ∀ w ∈ zSr, va_Nw (.stringRef "MonitorQueues" w.1 w.2) U
def zE (g : ZG) (U : State) (H : Heap) : Prop := (va_Z "java/util/ArrayList" "DEFAULTCAPACITY_EMPTY_ELEMENTDATA" "[Ljava/lang/Object;" (.ref g.2.2.2.1) g.2.2.1 U H ∧ va_X g.2.2.2.2.2.1 g.2.2.2.2.2.2.1 g.2.2.2.2.2.2.2 U H ∧ ¬ g.2.2.1 g.2.2.2.2.2.1) ∧ zTh g.2.2.1 U H
theorem zE.moved {g : ZG} {u U : State} {H : Heap} (hW : u.WarmedH U.vm) (h : zE g u H) : zE g U H := by
  obtain ⟨⟨h0, hx, hb⟩, h1, h2, h3, h4, h5⟩ := h
  refine ⟨⟨va_Z.moved hW.alike h0, va_X.moved hW.alike hx, hb⟩, h1.moved hW.alike, h2.moved hW.alike, fun x hx => ?_, zNw.moved hW.alike h4, fun w hw => ?_⟩
  · exact va_tabs rfl (rfl : (u.setVm U.vm).vm = U.vm) (by rw [Cond.declares_setVm hW.alike]; exact h3 x hx)
  · have h6 := Cond.stringRef_warmed hW (h5 w hw)
    exact h6
theorem zE.kept {g : ZG} {U : State} {H H1 : Heap} (h : zE g U H) (hq : ∀ a : Nat, a < H.size → ¬ g.2.2.1 a → H1[a]? = H[a]?) : zE g U H1 := ⟨⟨va_Z.kept h.1.1 hq, va_X.kept h.1.2.1 (by obtain ⟨scr, hc, -⟩ := h.1.2.1; exact hq _ (Array.getElem?_eq_some_iff.mp hc).1 h.1.2.2), h.1.2.2⟩, h.2.1.kept hq, h.2.2.1.kept hq, h.2.2.2⟩
theorem zK.moved {cl : List vw_C} {tl : List FieldType} {g : ZG} {u U : State} (hvm : u.vm.Alike U.vm) (h : zK cl tl g u) : zK cl tl g U :=
  ⟨fun c q hq => u_Kn_moved hvm (h.1 c q hq), fun t ty ht => ⟨arrOfT_moved hvm (h.2.1 t ty ht).1, va_RA.moved hvm (h.2.1 t ty ht).2⟩, h.2.2.moved hvm⟩
theorem zat.kept {cl : List vw_C} {g : ZG} {q : Nat} {e : ZE} {H H1 : Heap} (h : zat cl g q e H) (hq : H1[q]? = H[q]?) : zat cl g q e H1 := by
  cases e with
  | inl a =>
    obtain ⟨ce, h1, h2⟩ := h
    exact ⟨ce, hq.trans h1, h2⟩
  | inr o =>
    obtain ⟨r, h1, h2, h3⟩ := h
    exact ⟨r, h1, h2, h3.kept hq⟩
theorem zat.lt {cl : List vw_C} {g : ZG} {q : Nat} {e : ZE} {H : Heap} (h : zat cl g q e H) : q < H.size := by
  cases e with
  | inl a =>
    obtain ⟨ce, h1, -⟩ := h
    exact (Array.getElem?_eq_some_iff.mp h1).1
  | inr o =>
    obtain ⟨r, h1, h2, cell, h3, -⟩ := h
    exact (Array.getElem?_eq_some_iff.mp h3).1
theorem zP.lt {cl : List vw_C} {g : ZG} {M : ZM} {H : Heap} (h : zP cl g M H) {a : Nat} {e : ZE} (ha : M a = some e) : a < H.size := (h.1 a e ha).lt
theorem zP.fresh {cl : List vw_C} {g : ZG} {M : ZM} {H : Heap} (h : zP cl g M H) {a : Nat} (ha : H.size ≤ a) : M a = none := by
  cases hm : M a with
  | none => rfl
  | some e => exact absurd (h.lt hm) (by omega)
theorem zP.set {cl : List vw_C} {g : ZG} {M : ZM} {H H1 : Heap} (h : zP cl g M H) {a : Nat} {e : ZE} (hz : a ≠ g.2.2.2.1) (hA : g.2.2.1 a) (he : zat cl g a e H1) (oq : ∀ (q : Nat), q ≠ a → M q ≠ none → H1[q]? = H[q]?) : zP cl g (zset M a e) H1 := by
  refine ⟨fun q e' hq => ?_, fun q e' hq => ?_, ?_⟩
  · by_cases hqa : q = a
    · subst hqa
      rw [zset_self] at hq
      cases hq
      exact he
    · rw [zset_ne hqa] at hq
      exact (h.1 q e' hq).kept (oq q hqa (by rw [hq]; exact fun x => by cases x))
  · by_cases hqa : q = a
    · subst hqa
      exact Or.inr hA
    · rw [zset_ne hqa] at hq
      exact h.2.1 q e' hq
  · rw [zset_ne (Ne.symm hz)]
    exact h.2.2
theorem zP.obj {cl : List vw_C} {g : ZG} {M : ZM} {H : Heap} (h : zP cl g M H) {a : Nat} {o : Nat × List Value} (ha : M a = some (.inr o)) : a ≠ g.2.2.2.1 ∧ g.2.2.1 a := by
  have hz : a ≠ g.2.2.2.1 := fun e => by
    rw [e, h.2.2] at ha
    cases ha
  exact ⟨hz, (h.2.1 a _ ha).resolve_left hz⟩
theorem zP.arr {cl : List vw_C} {g : ZG} {M : ZM} {H : Heap} (h : zP cl g M H) {a t : Nat} {vs : List Value} (ha : M a = some (.inl (t, vs))) {j : Nat} (hj : j < vs.length) : a ≠ g.2.2.2.1 ∧ g.2.2.1 a := by
  have hz : a ≠ g.2.2.2.1 := fun e => by
    rw [e, h.2.2] at ha
    cases ha
    simp at hj
  exact ⟨hz, (h.2.1 a _ ha).resolve_left hz⟩
theorem zP.cell {cl : List vw_C} {g : ZG} {M : ZM} {H : Heap} (h : zP cl g M H) {a t : Nat} {vs : List Value} (ha : M a = some (.inl (t, vs))) {j : Nat} (hj : j < vs.length) : H[a]? = some (zarr (g.2.1 t) vs) := by
  obtain ⟨ce, h1, h2 | ⟨h2, -⟩⟩ := h.1 a _ ha
  · rw [h1, h2]
  · have h2' : vs = [] := h2
    rw [h2'] at hj
    exact absurd hj (Nat.not_lt_zero _)
theorem zP.cellW {cl : List vw_C} {g : ZG} {M : ZM} {H : Heap} (h : zP cl g M H) {a t : Nat} {vs : List Value} (ha : M a = some (.inl (t, vs))) : ∃ ce : Cell, H[a]? = some ce ∧ ce.cls = g.2.1 t ∧ ce.slots = vs.toArray ∧ (∀ k, ce.vm ≠ .statics k) ∧ ce.vm ≠ .unknown := by
  obtain ⟨ce, h1, h2 | ⟨h2, h3, h4, h5, h6⟩⟩ := h.1 a _ ha
  · exact ⟨ce, h1, by rw [h2]; rfl, by rw [h2]; rfl, fun k w => (by rw [h2] at w; cases w), fun w => (by rw [h2] at w; cases w)⟩
  · have h2' : vs = [] := h2
    exact ⟨ce, h1, h3, by rw [h4, h2'], h5, h6⟩
theorem zarr_set (cA : ClassId) (vs : List Value) (j : Nat) (v : Value) : (zarr cA vs).setSlot j v = zarr cA (vs.set j v) := by
  simp [zarr, Cell.setSlot]
theorem zarr_arrV (cA : ClassId) (vs : List Value) : zarr cA vs = arrV cA vs.length (fun j => vs.getD j .null) := by
  unfold zarr arrV
  congr 1
  apply Array.ext
  · simp
  · intro i h1 h2
    simp at h1
    simp [h1]
theorem zarr_of {U : State} {cA : ClassId} {ty : FieldType} (h : ArrOfT U cA ty) (vs : List Value) : U.isArrayOf (zarr cA vs) ty := by
  rw [zarr_arrV]
  exact h _ _
/-- the locals: known ones by their places -/
def zl (ls : Array Slot) (L : List (Option Value)) : Prop := lv_wf ls ∧ ls.size = L.length ∧ ∀ (i : Nat) (v : Value), L[i]? = some (some v) → ls[i]? = some (.val v)
def zclr (L : List (Option Value)) (i : Nat) : List (Option Value) := match i with
  | 0 => L
  | j + 1 => match L[j]? with
    | some (some (.long _)) => L.set j none
    | some (some (.double _)) => L.set j none
    | _ => L
def zput1 (L : List (Option Value)) (i : Nat) (v : Value) : List (Option Value) := (zclr L i).set i (some v)
def zput2 (L : List (Option Value)) (i : Nat) (v : Value) : List (Option Value) := ((zclr L i).set i (some v)).set (i + 1) none
theorem zclr_len (L : List (Option Value)) (i : Nat) : (zclr L i).length = L.length := by
  unfold zclr
  split
  · rfl
  · split <;> simp
theorem zclr_get {L : List (Option Value)} {i j : Nat} {v : Value} (h : (zclr L i)[j]? = some (some v)) : L[j]? = some (some v) ∧ (j + 1 = i → v.category = 1) := by
  unfold zclr at h
  split at h
  · exact ⟨h, fun e => by omega⟩
  · rename_i k
    split at h
    · rename_i x hx
      by_cases hjk : j = k
      · subst hjk
        have hlt : j < L.length := (List.getElem?_eq_some_iff.mp hx).1
        rw [List.getElem?_set_self hlt] at h
        cases h
      · rw [List.getElem?_set_ne (Ne.symm hjk)] at h
        exact ⟨h, fun e => by omega⟩
    · rename_i x hx
      by_cases hjk : j = k
      · subst hjk
        have hlt : j < L.length := (List.getElem?_eq_some_iff.mp hx).1
        rw [List.getElem?_set_self hlt] at h
        cases h
      · rw [List.getElem?_set_ne (Ne.symm hjk)] at h
        exact ⟨h, fun e => by omega⟩
    · rename_i h1 h2
      refine ⟨h, fun e => ?_⟩
      have e' : j = k := by omega
      subst e'
      cases v <;> first | rfl | exact absurd h (h1 _) | exact absurd h (h2 _)
theorem zl.has {ls : Array Slot} {L : List (Option Value)} (h : zl ls L) (l : List (Nat × Value)) (hl : ∀ q ∈ l, L[q.1]? = some (some q.2)) : lv_has ls L.length l := ⟨h.2.1, h.1, fun q hq => h.2.2 q.1 q.2 (hl q hq)⟩
def zpairs (L : List (Option Value)) : List (Nat × Value) := (List.range L.length).filterMap (fun i => (L[i]?.join).map (fun v => (i, v)))
theorem zpairs_mem {L : List (Option Value)} {i : Nat} {v : Value} : (i, v) ∈ zpairs L ↔ L[i]? = some (some v) := by
  unfold zpairs
  rw [List.mem_filterMap]
  constructor
  · rintro ⟨j, hj, h⟩
    cases hL : L[j]? with
    | none => rw [hL] at h; simp at h
    | some o =>
      rw [hL] at h
      cases o with
      | none => simp at h
      | some w =>
        simp at h
        obtain ⟨rfl, rfl⟩ := h
        exact hL
  · intro h
    refine ⟨i, List.mem_range.mpr (List.getElem?_eq_some_iff.mp h).1, ?_⟩
    rw [h]
    rfl
theorem zl.hasAll {ls : Array Slot} {L : List (Option Value)} (h : zl ls L) : lv_has ls L.length (zpairs L) := h.has _ (fun q hq => zpairs_mem.mp hq)
theorem zl.store1 {ls : Array Slot} {L : List (Option Value)} (h : zl ls L) {i : Nat} (hi : i < L.length) {v : Value} (hc : v.category = 1) : ∃ ls', storeLocals ls i v = some ls' ∧ zl ls' (zput1 L i v) := by
  obtain ⟨ls', e, h1, h2, h3⟩ := lv_store1 h.hasAll hi hc
  refine ⟨ls', e, h2, by rw [h1]; simp [zput1, zclr_len], fun j w hj => ?_⟩
  unfold zput1 at hj
  by_cases hji : j = i
  · subst hji
    rw [List.getElem?_set_self (by rw [zclr_len]; exact hi)] at hj
    cases hj
    exact h3 _ List.mem_cons_self
  · rw [List.getElem?_set_ne (Ne.symm hji)] at hj
    obtain ⟨g1, g2⟩ := zclr_get hj
    refine h3 (j, w) (List.mem_cons_of_mem _ (List.mem_filter.mpr ⟨zpairs_mem.mpr g1, ?_⟩))
    by_cases hx : j + 1 = i
    · have := g2 hx
      simp [hji, this]
    · simp [hji, hx]
theorem zl.store2 {ls : Array Slot} {L : List (Option Value)} (h : zl ls L) {i : Nat} (hi : i + 1 < L.length) {v : Value} (hc : v.category = 2) : ∃ ls', storeLocals ls i v = some ls' ∧ zl ls' (zput2 L i v) := by
  obtain ⟨ls', e, h1, h2, h3⟩ := lv_store2 h.hasAll hi hc
  refine ⟨ls', e, h2, by rw [h1]; simp [zput2, zclr_len], fun j w hj => ?_⟩
  unfold zput2 at hj
  by_cases hj2 : j = i + 1
  · subst hj2
    rw [List.getElem?_set_self (by simp [zclr_len]; exact hi)] at hj
    cases hj
  · rw [List.getElem?_set_ne (Ne.symm hj2)] at hj
    by_cases hji : j = i
    · subst hji
      rw [List.getElem?_set_self (by rw [zclr_len]; omega)] at hj
      cases hj
      exact h3 _ List.mem_cons_self
    · rw [List.getElem?_set_ne (Ne.symm hji)] at hj
      obtain ⟨g1, g2⟩ := zclr_get hj
      refine h3 (j, w) (List.mem_cons_of_mem _ (List.mem_filter.mpr ⟨zpairs_mem.mpr g1, ?_⟩))
      by_cases hx : j + 1 = i
      · have := g2 hx
        simp [hji, hj2, this]
      · simp [hji, hj2, hx]
def zargs : List Value → List (Option Value)
  | [] => []
  | .long x :: r => some (.long x) :: none :: zargs r
  | .double x :: r => some (.double x) :: none :: zargs r
  | v :: r => some v :: zargs r
def zinit (av : List Value) (n : Nat) : List (Option Value) := zargs av ++ List.replicate (n - (zargs av).length) none
theorem zargs_len : ∀ av : List Value, (zargs av).length = (lg_sl av).length
  | [] => rfl
  | v :: r => by
    have ih := zargs_len r
    cases v <;> simp [zargs, lg_sl, Value.category] at ih ⊢ <;> omega
theorem zargs_get : ∀ (av : List Value) (i j : Nat) (v : Value), (zargs av)[j]? = some (some v) → (i + j, v) ∈ lv_args i av
  | [], _, _, _, h => by simp [zargs] at h
  | w :: r, i, j, v, h => by
    have two : ∀ x : Value, x.category = 2 → (some x :: none :: zargs r)[j]? = some (some v) → (i + j, v) ∈ lv_args i (x :: r) := by
      intro x hx h
      simp only [lv_args, hx, if_true]
      match j, h with
      | 0, h => simp at h; subst h; exact List.mem_cons_self
      | 1, h => simp at h
      | k + 2, h =>
        have := zargs_get r (i + 2) k v (by simpa using h)
        rw [show i + (k + 2) = i + 2 + k by omega]
        exact List.mem_cons_of_mem _ this
    have one : ∀ x : Value, x.category = 1 → (some x :: zargs r)[j]? = some (some v) → (i + j, v) ∈ lv_args i (x :: r) := by
      intro x hx h
      simp only [lv_args, hx]
      match j, h with
      | 0, h => simp at h; subst h; exact List.mem_cons_self
      | k + 1, h =>
        have := zargs_get r (i + 1) k v (by simpa using h)
        rw [show i + (k + 1) = i + 1 + k by omega]
        exact List.mem_cons_of_mem _ (by simpa using this)
    cases w <;> first | exact two _ rfl h | exact one _ rfl h
theorem zl_entry (av : List Value) {n : Nat} (h : (lg_sl av).length ≤ n) : zl ((lg_sl av ++ List.replicate (n - (lg_sl av).length) Slot.unset).toArray) (zinit av n) ∧ (zinit av n).length = n := by
  obtain ⟨h1, h2, h3⟩ := lv_entry av h
  have hlen : (zinit av n).length = n := by
    unfold zinit
    rw [List.length_append, List.length_replicate, zargs_len]
    omega
  refine ⟨⟨h2, by rw [h1, hlen], fun i v hi => ?_⟩, hlen⟩
  unfold zinit at hi
  by_cases hlt : i < (zargs av).length
  · rw [List.getElem?_append_left hlt] at hi
    have := h3 _ (zargs_get av 0 i v hi)
    rwa [Nat.zero_add] at this
  · rw [List.getElem?_append_right (by omega)] at hi
    have := List.mem_of_getElem? hi
    rw [List.mem_replicate] at this
    exact absurd this.2 (by simp)
/-- the machine around a method's body -/
abbrev ZK : Type := Program × Launch × Env × State × MethodId × Array Value × List Frame × Method × Code
def zQ (cl : List vw_C) (g : ZG) (post : Option Value → ZM → Prop) : Array Value → State → Outcome → State → Prop := fun _ st oc t => (∃ (v : Option Value) (M' : ZM), oc = .returned v ∧ post v M' ∧ zP cl g M' t.heap) ∧ va_F g.2.2.1 st t
def zPre (cl : List vw_C) (tl : List FieldType) (g : ZG) (M : ZM) (U : State) : Prop := zP cl g M U.heap ∧ zK cl tl g U ∧ (∀ q : Nat, U.heap.size ≤ q → g.2.2.1 q) ∧ zE g U U.heap
/-- a contract: from the world M, with these arguments, the method returns, and 'post' holds of its answer and the world behind it -/
def ZC (cl : List vw_C) (tl : List FieldType) (Ts : List Cond) (l : Launch) (g : ZG) (y : MethodName) (cc : ByteArray) (nL : Nat) (ret : Option FieldType) (R : Room) (av : List Value) (M : ZM) (post : Option Value → ZM → Prop) : Prop :=
  Met l y (Cond.code y cc nL ret :: Ts) R (va_Pc av (zPre cl tl g M)) (zQ cl g post) R.cells R.slots g.2.2.1
def ZX (cl : List vw_C) (tl : List FieldType) (Ts : List Cond) (own : String) (cc : ByteArray) (nL : Nat) (ret : Option FieldType) (nm : String) (g : ZG) (k : ZK) : Prop :=
  k.1.tables.exec = Jvm.exec ∧ k.2.2.2.2.2.2.2.2.code = cc ∧ k.2.2.2.2.2.2.2.2.maxLocals = nL ∧ k.2.2.2.1.vm.findClass own = some k.2.2.2.2.1.cls ∧ (∀ w ∈ Ts, w.before k.2.2.2.2.2.1 k.2.2.2.1 = true) ∧
  k.2.2.2.2.2.2.2.1.locks = false ∧ k.2.2.2.2.2.2.2.1.sig.returnType = ret ∧ k.2.2.2.2.2.2.2.1.name = nm ∧ zK cl tl g k.2.2.2.1 ∧ (∀ q : Nat, k.2.2.2.1.heap.size ≤ q → g.2.2.1 q) ∧ zE g k.2.2.2.1 k.2.2.2.1.heap
/-- from here, with these locals, this operand stack and this world, the method comes to its end, and 'post' holds -/
def ZU (cl : List vw_C) (tl : List FieldType) (Ts : List Cond) (own : String) (cc : ByteArray) (nL : Nat) (ret : Option FieldType) (nm : String) (R : Room) (g : ZG) (k : ZK) (Qz : State → Prop) (L : List (Option Value)) (pc : Nat) (st : List Value) (M : ZM) (n1 n2 : Nat) : Prop :=
  ZX cl tl Ts own cc nL ret nm g k → ∀ (ls : Array Slot) (H : Heap) (locs : List Loc), zl ls L → L.length = nL → zP cl g M H → va_S g.2.2.1 k.2.2.2.1.heap H locs →
    W k.1 k.2.1 k.2.2.1 R k.2.2.2.1 k.2.2.2.2.1 k.2.2.2.2.2.1 k.2.2.2.2.2.2.1 k.2.2.2.2.2.2.2.1 k.2.2.2.2.2.2.2.2 H locs n1 n2 Qz (F0 k.2.2.2.2.1 pc ls st)
abbrev ZW (cl : List vw_C) (tl : List FieldType) (Ts : List Cond) (own : String) (cc : ByteArray) (nL : Nat) (ret : Option FieldType) (nm : String) (R : Room) (g : ZG) (k : ZK) (post : Option Value → ZM → Prop) (L : List (Option Value)) (pc : Nat) (st : List Value) (M : ZM) (n1 n2 : Nat) : Prop :=
  ZU cl tl Ts own cc nL ret nm R g k (MQ k.2.2.2.2.2.2.1 (zQ cl g post) k.2.2.2.2.2.1 k.2.2.2.1 R.cells R.slots g.2.2.1) L pc st M n1 n2
theorem ZC.of {cl : List vw_C} {tl : List FieldType} {Ts : List Cond} {l : Launch} {g : ZG} {y : MethodName} {cc : ByteArray} {nL : Nat} {ret : Option FieldType} {R : Room} {av : List Value} {M : ZM} {post : Option Value → ZM → Prop} {L : List (Option Value)}
    (hy : plainName y.cls = true) (hlen : (lg_sl av).length ≤ nL) (hL : zinit av nL = L) (h : ∀ k : ZK, M g.2.2.2.1 = some (.inl (0, [])) → ZW cl tl Ts y.cls cc nL ret y.name R g k post L 0 [] M 0 0) : ZC cl tl Ts l g y cc nL ret R av M post := by
  refine Met.ofW (cc := cc) (maxL := nL) (ret := ret) hy rfl ?_
  intro p e s m args below meth c s₁ B hml hv
  obtain ⟨rfl, hP, hK, hA, hE⟩ := hv
  have hts := atoms_spec (ws := Cond.code y cc nL ret :: Ts) B.pre
  obtain ⟨hl, hn⟩ := zl_entry av hlen
  rw [lg_entry_eq]
  subst hL
  exact h (p, l, e, s, m, av.toArray, below, meth, c) hP.2.2 ⟨B.exec, B.bytes, hml, findClass_of_methodNamed B.named, fun w hw => hts w (List.mem_cons_of_mem _ hw), B.notSynchronized, B.returns, (name_of_methodNamed B.named B.method).1, hK, hA, hE⟩ _ _ _ hl hn hP va_S.rf

section ZR
variable {cl : List vw_C} {tl : List FieldType} {Ts : List Cond} {own : String} {cc : ByteArray} {nL : Nat} {ret : Option FieldType} {nm : String} {R : Room} {g : ZG} {k : ZK} {post : Option Value → ZM → Prop} {Qz : State → Prop} {L L' : List (Option Value)} {pc : Nat} {st : List Value} {M : ZM} {n1 n2 : Nat}
theorem z_iconst {n : Int} {v : Int32} (hd : decode cc pc = .ok (.iconst n, 1)) (hv : Int32.ofInt n = v) (h : ZU cl tl Ts own cc nL ret nm R g k Qz L (pc + 1) (.int v :: st) M n1 n2) : ZU cl tl Ts own cc nL ret nm R g k Qz L pc (st) M n1 n2 :=
  fun X ls H locs hl hL hP hS => lv_iconst X.1 X.2.1 hd hv (h X ls H locs hl hL hP hS)
theorem z_bipush {n : Int} {v : Int32} (hd : decode cc pc = .ok (.bipush n, 2)) (hv : (Int8.ofInt n).toInt32 = v) (h : ZU cl tl Ts own cc nL ret nm R g k Qz L (pc + 2) (.int v :: st) M n1 n2) : ZU cl tl Ts own cc nL ret nm R g k Qz L pc (st) M n1 n2 :=
  fun X ls H locs hl hL hP hS => lv_bipush X.1 X.2.1 hd hv (h X ls H locs hl hL hP hS)
theorem z_sipush {n : Int} {v : Int32} (hd : decode cc pc = .ok (.sipush n, 3)) (hv : (Int16.ofInt n).toInt32 = v) (h : ZU cl tl Ts own cc nL ret nm R g k Qz L (pc + 3) (.int v :: st) M n1 n2) : ZU cl tl Ts own cc nL ret nm R g k Qz L pc (st) M n1 n2 :=
  fun X ls H locs hl hL hP hS => lv_sipush X.1 X.2.1 hd hv (h X ls H locs hl hL hP hS)
theorem z_lconst {n : Fin 2} {v : Int64} (hd : decode cc pc = .ok (.lconst n, 1)) (hv : Int64.ofNat (n : Nat) = v) (h : ZU cl tl Ts own cc nL ret nm R g k Qz L (pc + 1) (.long v :: st) M n1 n2) : ZU cl tl Ts own cc nL ret nm R g k Qz L pc (st) M n1 n2 :=
  fun X ls H locs hl hL hP hS => lv_lconst X.1 X.2.1 hd hv (h X ls H locs hl hL hP hS)
theorem z_iload_n {i : Fin 4} {x : Int32} (hd : decode cc pc = .ok (.iload_n i, 1)) (hx : L[(i : Nat)]? = some (some (.int x))) (h : ZU cl tl Ts own cc nL ret nm R g k Qz L (pc + 1) (.int x :: st) M n1 n2) : ZU cl tl Ts own cc nL ret nm R g k Qz L pc (st) M n1 n2 :=
  fun X ls H locs hl hL hP hS => lv_iload_n X.1 X.2.1 hd rfl (hl.2.2 _ _ hx) (h X ls H locs hl hL hP hS)
theorem z_iload {i : Nat} {x : Int32} (hd : decode cc pc = .ok (.iload i, 2)) (hx : L[i]? = some (some (.int x))) (h : ZU cl tl Ts own cc nL ret nm R g k Qz L (pc + 2) (.int x :: st) M n1 n2) : ZU cl tl Ts own cc nL ret nm R g k Qz L pc (st) M n1 n2 :=
  fun X ls H locs hl hL hP hS => lv_iload X.1 X.2.1 hd (hl.2.2 _ _ hx) (h X ls H locs hl hL hP hS)
theorem z_lload_n {i : Fin 4} {x : Int64} (hd : decode cc pc = .ok (.lload_n i, 1)) (hx : L[(i : Nat)]? = some (some (.long x))) (h : ZU cl tl Ts own cc nL ret nm R g k Qz L (pc + 1) (.long x :: st) M n1 n2) : ZU cl tl Ts own cc nL ret nm R g k Qz L pc (st) M n1 n2 :=
  fun X ls H locs hl hL hP hS => lv_lload_n X.1 X.2.1 hd rfl (hl.2.2 _ _ hx) (h X ls H locs hl hL hP hS)
theorem z_lload {i : Nat} {x : Int64} (hd : decode cc pc = .ok (.lload i, 2)) (hx : L[i]? = some (some (.long x))) (h : ZU cl tl Ts own cc nL ret nm R g k Qz L (pc + 2) (.long x :: st) M n1 n2) : ZU cl tl Ts own cc nL ret nm R g k Qz L pc (st) M n1 n2 :=
  fun X ls H locs hl hL hP hS => lv_lload X.1 X.2.1 hd (hl.2.2 _ _ hx) (h X ls H locs hl hL hP hS)
theorem z_aload_n {i : Fin 4} {x : Nat} (hd : decode cc pc = .ok (.aload_n i, 1)) (hx : L[(i : Nat)]? = some (some (.ref x))) (h : ZU cl tl Ts own cc nL ret nm R g k Qz L (pc + 1) (.ref x :: st) M n1 n2) : ZU cl tl Ts own cc nL ret nm R g k Qz L pc (st) M n1 n2 :=
  fun X ls H locs hl hL hP hS => lv_aload_n X.1 X.2.1 hd rfl (hl.2.2 _ _ hx) (h X ls H locs hl hL hP hS)
theorem z_aload {i : Nat} {x : Nat} (hd : decode cc pc = .ok (.aload i, 2)) (hx : L[i]? = some (some (.ref x))) (h : ZU cl tl Ts own cc nL ret nm R g k Qz L (pc + 2) (.ref x :: st) M n1 n2) : ZU cl tl Ts own cc nL ret nm R g k Qz L pc (st) M n1 n2 :=
  fun X ls H locs hl hL hP hS => lv_aload X.1 X.2.1 hd (hl.2.2 _ _ hx) (h X ls H locs hl hL hP hS)
theorem z_aload_nN {i : Fin 4} (hd : decode cc pc = .ok (.aload_n i, 1)) (hx : L[(i : Nat)]? = some (some .null)) (h : ZU cl tl Ts own cc nL ret nm R g k Qz L (pc + 1) (.null :: st) M n1 n2) : ZU cl tl Ts own cc nL ret nm R g k Qz L pc (st) M n1 n2 :=
  fun X ls H locs hl hL hP hS => lv_aload_nN X.1 X.2.1 hd rfl (hl.2.2 _ _ hx) (h X ls H locs hl hL hP hS)
theorem z_aloadN {i : Nat} (hd : decode cc pc = .ok (.aload i, 2)) (hx : L[i]? = some (some .null)) (h : ZU cl tl Ts own cc nL ret nm R g k Qz L (pc + 2) (.null :: st) M n1 n2) : ZU cl tl Ts own cc nL ret nm R g k Qz L pc (st) M n1 n2 :=
  fun X ls H locs hl hL hP hS => lv_aloadN X.1 X.2.1 hd (hl.2.2 _ _ hx) (h X ls H locs hl hL hP hS)
theorem z_storeW {v : Value} {i len : Nat} {m : MethodId} {c : Code} {p : Program} {l : Launch} {e : Env} {s : State} {args : Array Value} {below : List Frame} {meth : Method} {H : Heap} {locs : List Loc} {Q : State → Prop} {ls ls' : Array Slot} (e' : storeLocals ls i v = some ls') (hst : ∀ T : State, Stand p l e R s m args below meth c T locs n1 n2 → ∀ t, Steps p.tables e below (T.setTop (F0 m (pc + len) ls' st)) t → Steps p.tables e below (T.setTop (F0 m pc ls (v :: st))) t) (h : W p l e R s m args below meth c H locs n1 n2 Q (F0 m (pc + len) ls' st)) : W p l e R s m args below meth c H locs n1 n2 Q (F0 m pc ls (v :: st)) := by
  intro T hT X
  obtain ⟨t, a, b⟩ := h T hT X
  exact ⟨t, hst T X t a, b⟩
theorem z_istore_n {j : Fin 4} {i : Nat} {x : Int32} (hd : decode cc pc = .ok (.istore_n j, 1)) (hj : (j : Nat) = i) (hi : i < nL) (hL' : zput1 L i (.int x) = L') (h : ZU cl tl Ts own cc nL ret nm R g k Qz L' (pc + 1) st M n1 n2) : ZU cl tl Ts own cc nL ret nm R g k Qz L pc (.int x :: st) M n1 n2 := by
  intro X ls H locs hl hL hP hS
  subst hj
  obtain ⟨ls', e', h'⟩ := zl.store1 (v := .int x) hl (by rw [hL]; exact hi) rfl
  refine z_storeW e' (fun T Y t a => ?_) (h X ls' H locs (hL' ▸ h') (by rw [← hL']; simp [zput1, zclr_len, hL]) hP hS)
  have hx := X.1
  have hb := X.2.1
  jvm_step Y.here [Y.here.top, ↓top_set Y.here.top, hx, hb, hd, e']
  exact a
theorem z_istore {i : Nat} {x : Int32} (hd : decode cc pc = .ok (.istore i, 2)) (hi : i < nL) (hL' : zput1 L i (.int x) = L') (h : ZU cl tl Ts own cc nL ret nm R g k Qz L' (pc + 2) st M n1 n2) : ZU cl tl Ts own cc nL ret nm R g k Qz L pc (.int x :: st) M n1 n2 := by
  intro X ls H locs hl hL hP hS
  obtain ⟨ls', e', h'⟩ := zl.store1 (v := .int x) hl (by rw [hL]; exact hi) rfl
  refine z_storeW e' (fun T Y t a => ?_) (h X ls' H locs (hL' ▸ h') (by rw [← hL']; simp [zput1, zclr_len, hL]) hP hS)
  have hx := X.1
  have hb := X.2.1
  jvm_step Y.here [Y.here.top, ↓top_set Y.here.top, hx, hb, hd, e']
  exact a
theorem z_lstore_n {j : Fin 4} {i : Nat} {x : Int64} (hd : decode cc pc = .ok (.lstore_n j, 1)) (hj : (j : Nat) = i) (hi : i + 1 < nL) (hL' : zput2 L i (.long x) = L') (h : ZU cl tl Ts own cc nL ret nm R g k Qz L' (pc + 1) st M n1 n2) : ZU cl tl Ts own cc nL ret nm R g k Qz L pc (.long x :: st) M n1 n2 := by
  intro X ls H locs hl hL hP hS
  subst hj
  obtain ⟨ls', e', h'⟩ := zl.store2 (v := .long x) hl (by rw [hL]; exact hi) rfl
  refine z_storeW e' (fun T Y t a => ?_) (h X ls' H locs (hL' ▸ h') (by rw [← hL']; simp [zput2, zclr_len, hL]) hP hS)
  have hx := X.1
  have hb := X.2.1
  jvm_step Y.here [Y.here.top, ↓top_set Y.here.top, hx, hb, hd, e']
  exact a
theorem z_lstore {i : Nat} {x : Int64} (hd : decode cc pc = .ok (.lstore i, 2)) (hi : i + 1 < nL) (hL' : zput2 L i (.long x) = L') (h : ZU cl tl Ts own cc nL ret nm R g k Qz L' (pc + 2) st M n1 n2) : ZU cl tl Ts own cc nL ret nm R g k Qz L pc (.long x :: st) M n1 n2 := by
  intro X ls H locs hl hL hP hS
  obtain ⟨ls', e', h'⟩ := zl.store2 (v := .long x) hl (by rw [hL]; exact hi) rfl
  refine z_storeW e' (fun T Y t a => ?_) (h X ls' H locs (hL' ▸ h') (by rw [← hL']; simp [zput2, zclr_len, hL]) hP hS)
  have hx := X.1
  have hb := X.2.1
  jvm_step Y.here [Y.here.top, ↓top_set Y.here.top, hx, hb, hd, e']
  exact a
theorem z_astore_n {j : Fin 4} {i : Nat} {x : Nat} (hd : decode cc pc = .ok (.astore_n j, 1)) (hj : (j : Nat) = i) (hi : i < nL) (hL' : zput1 L i (.ref x) = L') (h : ZU cl tl Ts own cc nL ret nm R g k Qz L' (pc + 1) st M n1 n2) : ZU cl tl Ts own cc nL ret nm R g k Qz L pc (.ref x :: st) M n1 n2 := by
  intro X ls H locs hl hL hP hS
  subst hj
  obtain ⟨ls', e', h'⟩ := zl.store1 (v := .ref x) hl (by rw [hL]; exact hi) rfl
  refine z_storeW e' (fun T Y t a => ?_) (h X ls' H locs (hL' ▸ h') (by rw [← hL']; simp [zput1, zclr_len, hL]) hP hS)
  have hx := X.1
  have hb := X.2.1
  jvm_step Y.here [Y.here.top, ↓top_set Y.here.top, hx, hb, hd, e', Value.isRef]
  exact a
theorem z_astore {i : Nat} {x : Nat} (hd : decode cc pc = .ok (.astore i, 2)) (hi : i < nL) (hL' : zput1 L i (.ref x) = L') (h : ZU cl tl Ts own cc nL ret nm R g k Qz L' (pc + 2) st M n1 n2) : ZU cl tl Ts own cc nL ret nm R g k Qz L pc (.ref x :: st) M n1 n2 := by
  intro X ls H locs hl hL hP hS
  obtain ⟨ls', e', h'⟩ := zl.store1 (v := .ref x) hl (by rw [hL]; exact hi) rfl
  refine z_storeW e' (fun T Y t a => ?_) (h X ls' H locs (hL' ▸ h') (by rw [← hL']; simp [zput1, zclr_len, hL]) hP hS)
  have hx := X.1
  have hb := X.2.1
  jvm_step Y.here [Y.here.top, ↓top_set Y.here.top, hx, hb, hd, e', Value.isRef]
  exact a
theorem z_astore_nN {j : Fin 4} {i : Nat} (hd : decode cc pc = .ok (.astore_n j, 1)) (hj : (j : Nat) = i) (hi : i < nL) (hL' : zput1 L i (.null) = L') (h : ZU cl tl Ts own cc nL ret nm R g k Qz L' (pc + 1) st M n1 n2) : ZU cl tl Ts own cc nL ret nm R g k Qz L pc (.null :: st) M n1 n2 := by
  intro X ls H locs hl hL hP hS
  subst hj
  obtain ⟨ls', e', h'⟩ := zl.store1 (v := .null) hl (by rw [hL]; exact hi) rfl
  refine z_storeW e' (fun T Y t a => ?_) (h X ls' H locs (hL' ▸ h') (by rw [← hL']; simp [zput1, zclr_len, hL]) hP hS)
  have hx := X.1
  have hb := X.2.1
  jvm_step Y.here [Y.here.top, ↓top_set Y.here.top, hx, hb, hd, e', Value.isRef]
  exact a
theorem z_astoreN {i : Nat} (hd : decode cc pc = .ok (.astore i, 2)) (hi : i < nL) (hL' : zput1 L i (.null) = L') (h : ZU cl tl Ts own cc nL ret nm R g k Qz L' (pc + 2) st M n1 n2) : ZU cl tl Ts own cc nL ret nm R g k Qz L pc (.null :: st) M n1 n2 := by
  intro X ls H locs hl hL hP hS
  obtain ⟨ls', e', h'⟩ := zl.store1 (v := .null) hl (by rw [hL]; exact hi) rfl
  refine z_storeW e' (fun T Y t a => ?_) (h X ls' H locs (hL' ▸ h') (by rw [← hL']; simp [zput1, zclr_len, hL]) hP hS)
  have hx := X.1
  have hb := X.2.1
  jvm_step Y.here [Y.here.top, ↓top_set Y.here.top, hx, hb, hd, e', Value.isRef]
  exact a
theorem z_iinc {i : Nat} {n : Int} {x v : Int32} (hd : decode cc pc = .ok (.iinc i n, 3)) (hx : L[i]? = some (some (.int x))) (hv : x + Int32.ofInt n = v) (hi : i < nL) (hL' : zput1 L i (.int v) = L') (h : ZU cl tl Ts own cc nL ret nm R g k Qz L' (pc + 3) st M n1 n2) : ZU cl tl Ts own cc nL ret nm R g k Qz L pc st M n1 n2 := by
  intro X ls H locs hl hL hP hS
  obtain ⟨ls', e', h'⟩ := zl.store1 (v := .int v) hl (by rw [hL]; exact hi) rfl
  have hg := hl.2.2 _ _ hx
  have K := h X ls' H locs (hL' ▸ h') (by rw [← hL']; simp [zput1, zclr_len, hL]) hP hS
  subst hv
  have hx := X.1
  have hb := X.2.1
  intro T hT Y
  obtain ⟨t, a, b⟩ := K T hT Y
  refine ⟨t, ?_, b⟩
  jvm_step Y.here [Y.here.top, ↓top_set Y.here.top, hx, hb, hd, hg, e']
  exact a
theorem z_iadd {x y : Int32} (hd : decode cc pc = .ok (.iadd, 1)) (h : ZU cl tl Ts own cc nL ret nm R g k Qz L (pc + 1) (.int (x + y) :: st) M n1 n2) : ZU cl tl Ts own cc nL ret nm R g k Qz L pc (.int y :: .int x :: st) M n1 n2 :=
  fun X ls H locs hl hL hP hS => lv_iadd X.1 X.2.1 hd (h X ls H locs hl hL hP hS)
theorem z_isub {x y : Int32} (hd : decode cc pc = .ok (.isub, 1)) (h : ZU cl tl Ts own cc nL ret nm R g k Qz L (pc + 1) (.int (x - y) :: st) M n1 n2) : ZU cl tl Ts own cc nL ret nm R g k Qz L pc (.int y :: .int x :: st) M n1 n2 :=
  fun X ls H locs hl hL hP hS => lv_isub X.1 X.2.1 hd (h X ls H locs hl hL hP hS)
theorem z_imul {x y : Int32} (hd : decode cc pc = .ok (.imul, 1)) (h : ZU cl tl Ts own cc nL ret nm R g k Qz L (pc + 1) (.int (x * y) :: st) M n1 n2) : ZU cl tl Ts own cc nL ret nm R g k Qz L pc (.int y :: .int x :: st) M n1 n2 :=
  fun X ls H locs hl hL hP hS => lv_imul X.1 X.2.1 hd (h X ls H locs hl hL hP hS)
theorem z_iand {x y : Int32} (hd : decode cc pc = .ok (.iand, 1)) (h : ZU cl tl Ts own cc nL ret nm R g k Qz L (pc + 1) (.int (x &&& y) :: st) M n1 n2) : ZU cl tl Ts own cc nL ret nm R g k Qz L pc (.int y :: .int x :: st) M n1 n2 :=
  fun X ls H locs hl hL hP hS => lv_iand X.1 X.2.1 hd (h X ls H locs hl hL hP hS)
theorem z_ior {x y : Int32} (hd : decode cc pc = .ok (.ior, 1)) (h : ZU cl tl Ts own cc nL ret nm R g k Qz L (pc + 1) (.int (x ||| y) :: st) M n1 n2) : ZU cl tl Ts own cc nL ret nm R g k Qz L pc (.int y :: .int x :: st) M n1 n2 :=
  fun X ls H locs hl hL hP hS => lv_ior X.1 X.2.1 hd (h X ls H locs hl hL hP hS)
theorem z_ixor {x y : Int32} (hd : decode cc pc = .ok (.ixor, 1)) (h : ZU cl tl Ts own cc nL ret nm R g k Qz L (pc + 1) (.int (x ^^^ y) :: st) M n1 n2) : ZU cl tl Ts own cc nL ret nm R g k Qz L pc (.int y :: .int x :: st) M n1 n2 :=
  fun X ls H locs hl hL hP hS => lv_ixor X.1 X.2.1 hd (h X ls H locs hl hL hP hS)
theorem z_ishl {x y : Int32} (hd : decode cc pc = .ok (.ishl, 1)) (h : ZU cl tl Ts own cc nL ret nm R g k Qz L (pc + 1) (.int (x <<< (y &&& 31)) :: st) M n1 n2) : ZU cl tl Ts own cc nL ret nm R g k Qz L pc (.int y :: .int x :: st) M n1 n2 :=
  fun X ls H locs hl hL hP hS => lv_ishl X.1 X.2.1 hd (h X ls H locs hl hL hP hS)
theorem z_ishr {x y : Int32} (hd : decode cc pc = .ok (.ishr, 1)) (h : ZU cl tl Ts own cc nL ret nm R g k Qz L (pc + 1) (.int (x >>> (y &&& 31)) :: st) M n1 n2) : ZU cl tl Ts own cc nL ret nm R g k Qz L pc (.int y :: .int x :: st) M n1 n2 :=
  fun X ls H locs hl hL hP hS => lv_ishr X.1 X.2.1 hd (h X ls H locs hl hL hP hS)
theorem z_ladd {x y : Int64} (hd : decode cc pc = .ok (.ladd, 1)) (h : ZU cl tl Ts own cc nL ret nm R g k Qz L (pc + 1) (.long (x + y) :: st) M n1 n2) : ZU cl tl Ts own cc nL ret nm R g k Qz L pc (.long y :: .long x :: st) M n1 n2 :=
  fun X ls H locs hl hL hP hS => lv_ladd X.1 X.2.1 hd (h X ls H locs hl hL hP hS)
theorem z_lsub {x y : Int64} (hd : decode cc pc = .ok (.lsub, 1)) (h : ZU cl tl Ts own cc nL ret nm R g k Qz L (pc + 1) (.long (x - y) :: st) M n1 n2) : ZU cl tl Ts own cc nL ret nm R g k Qz L pc (.long y :: .long x :: st) M n1 n2 :=
  fun X ls H locs hl hL hP hS => lv_lsub X.1 X.2.1 hd (h X ls H locs hl hL hP hS)
theorem z_lmul {x y : Int64} (hd : decode cc pc = .ok (.lmul, 1)) (h : ZU cl tl Ts own cc nL ret nm R g k Qz L (pc + 1) (.long (x * y) :: st) M n1 n2) : ZU cl tl Ts own cc nL ret nm R g k Qz L pc (.long y :: .long x :: st) M n1 n2 :=
  fun X ls H locs hl hL hP hS => lv_lmul X.1 X.2.1 hd (h X ls H locs hl hL hP hS)
theorem z_land {x y : Int64} (hd : decode cc pc = .ok (.land, 1)) (h : ZU cl tl Ts own cc nL ret nm R g k Qz L (pc + 1) (.long (x &&& y) :: st) M n1 n2) : ZU cl tl Ts own cc nL ret nm R g k Qz L pc (.long y :: .long x :: st) M n1 n2 :=
  fun X ls H locs hl hL hP hS => lv_land X.1 X.2.1 hd (h X ls H locs hl hL hP hS)
theorem z_lor {x y : Int64} (hd : decode cc pc = .ok (.lor, 1)) (h : ZU cl tl Ts own cc nL ret nm R g k Qz L (pc + 1) (.long (x ||| y) :: st) M n1 n2) : ZU cl tl Ts own cc nL ret nm R g k Qz L pc (.long y :: .long x :: st) M n1 n2 :=
  fun X ls H locs hl hL hP hS => lv_lor X.1 X.2.1 hd (h X ls H locs hl hL hP hS)
theorem z_lxor {x y : Int64} (hd : decode cc pc = .ok (.lxor, 1)) (h : ZU cl tl Ts own cc nL ret nm R g k Qz L (pc + 1) (.long (x ^^^ y) :: st) M n1 n2) : ZU cl tl Ts own cc nL ret nm R g k Qz L pc (.long y :: .long x :: st) M n1 n2 :=
  fun X ls H locs hl hL hP hS => lv_lxor X.1 X.2.1 hd (h X ls H locs hl hL hP hS)
theorem z_ineg {x : Int32} (hd : decode cc pc = .ok (.ineg, 1)) (h : ZU cl tl Ts own cc nL ret nm R g k Qz L (pc + 1) (.int (-x) :: st) M n1 n2) : ZU cl tl Ts own cc nL ret nm R g k Qz L pc (.int x :: st) M n1 n2 :=
  fun X ls H locs hl hL hP hS => lv_ineg X.1 X.2.1 hd (h X ls H locs hl hL hP hS)
theorem z_i2l {x : Int32} {v : Int64} (hd : decode cc pc = .ok (.i2l, 1)) (hv : x.toInt64 = v) (h : ZU cl tl Ts own cc nL ret nm R g k Qz L (pc + 1) (.long v :: st) M n1 n2) : ZU cl tl Ts own cc nL ret nm R g k Qz L pc (.int x :: st) M n1 n2 :=
  fun X ls H locs hl hL hP hS => lv_i2l X.1 X.2.1 hd hv (h X ls H locs hl hL hP hS)
theorem z_l2i {x : Int64} {v : Int32} (hd : decode cc pc = .ok (.l2i, 1)) (hv : x.toInt32 = v) (h : ZU cl tl Ts own cc nL ret nm R g k Qz L (pc + 1) (.int v :: st) M n1 n2) : ZU cl tl Ts own cc nL ret nm R g k Qz L pc (.long x :: st) M n1 n2 :=
  fun X ls H locs hl hL hP hS => lv_l2i X.1 X.2.1 hd hv (h X ls H locs hl hL hP hS)
theorem z_lshl {x v : Int64} {y : Int32} (hd : decode cc pc = .ok (.lshl, 1)) (hv : x <<< (y.toInt64 &&& 63) = v) (h : ZU cl tl Ts own cc nL ret nm R g k Qz L (pc + 1) (.long v :: st) M n1 n2) : ZU cl tl Ts own cc nL ret nm R g k Qz L pc (.int y :: .long x :: st) M n1 n2 :=
  fun X ls H locs hl hL hP hS => lv_lshl X.1 X.2.1 hd hv (h X ls H locs hl hL hP hS)
theorem z_lcmp {x y : Int64} (hd : decode cc pc = .ok (.lcmp, 1)) (h : ZU cl tl Ts own cc nL ret nm R g k Qz L (pc + 1) (.int (lg_cmp x y) :: st) M n1 n2) : ZU cl tl Ts own cc nL ret nm R g k Qz L pc (.long y :: .long x :: st) M n1 n2 :=
  fun X ls H locs hl hL hP hS => W.lcmp X.1 X.2.1 hd (h X ls H locs hl hL hP hS)
theorem z_dup {a : Value} (hd : decode cc pc = .ok (.dup, 1)) (ha : a.category = 1) (h : ZU cl tl Ts own cc nL ret nm R g k Qz L (pc + 1) (a :: a :: st) M n1 n2) : ZU cl tl Ts own cc nL ret nm R g k Qz L pc (a :: st) M n1 n2 :=
  fun X ls H locs hl hL hP hS => lv_dup X.1 X.2.1 hd ha (h X ls H locs hl hL hP hS)
theorem z_pop {a : Value} (hd : decode cc pc = .ok (.pop, 1)) (ha : a.category = 1) (h : ZU cl tl Ts own cc nL ret nm R g k Qz L (pc + 1) (st) M n1 n2) : ZU cl tl Ts own cc nL ret nm R g k Qz L pc (a :: st) M n1 n2 :=
  fun X ls H locs hl hL hP hS => lv_pop X.1 X.2.1 hd ha (h X ls H locs hl hL hP hS)
theorem z_dup_x1 {a b : Value} (hd : decode cc pc = .ok (.dup_x1, 1)) (ha : a.category = 1) (hb : b.category = 1) (h : ZU cl tl Ts own cc nL ret nm R g k Qz L (pc + 1) (a :: b :: a :: st) M n1 n2) : ZU cl tl Ts own cc nL ret nm R g k Qz L pc (a :: b :: st) M n1 n2 :=
  fun X ls H locs hl hL hP hS => lv_dup_x1 X.1 X.2.1 hd ha hb (h X ls H locs hl hL hP hS)
theorem z_dup_x2 {a b d : Value} (hd : decode cc pc = .ok (.dup_x2, 1)) (ha : a.category = 1) (hb : b.category = 1) (hc : d.category = 1) (h : ZU cl tl Ts own cc nL ret nm R g k Qz L (pc + 1) (a :: b :: d :: a :: st) M n1 n2) : ZU cl tl Ts own cc nL ret nm R g k Qz L pc (a :: b :: d :: st) M n1 n2 :=
  fun X ls H locs hl hL hP hS => lv_dup_x2 X.1 X.2.1 hd ha hb hc (h X ls H locs hl hL hP hS)
theorem z_dup2_11 {a b : Value} (hd : decode cc pc = .ok (.dup2, 1)) (ha : a.category = 1) (hb : b.category = 1) (h : ZU cl tl Ts own cc nL ret nm R g k Qz L (pc + 1) (a :: b :: a :: b :: st) M n1 n2) : ZU cl tl Ts own cc nL ret nm R g k Qz L pc (a :: b :: st) M n1 n2 :=
  fun X ls H locs hl hL hP hS => lv_dup2_11 X.1 X.2.1 hd ha hb (h X ls H locs hl hL hP hS)
theorem z_dup2_2 {a : Value} (hd : decode cc pc = .ok (.dup2, 1)) (ha : a.category = 2) (h : ZU cl tl Ts own cc nL ret nm R g k Qz L (pc + 1) (a :: a :: st) M n1 n2) : ZU cl tl Ts own cc nL ret nm R g k Qz L pc (a :: st) M n1 n2 :=
  fun X ls H locs hl hL hP hS => lv_dup2_2 X.1 X.2.1 hd ha (h X ls H locs hl hL hP hS)
theorem z_pop2_2 {a : Value} (hd : decode cc pc = .ok (.pop2, 1)) (ha : a.category = 2) (h : ZU cl tl Ts own cc nL ret nm R g k Qz L (pc + 1) (st) M n1 n2) : ZU cl tl Ts own cc nL ret nm R g k Qz L pc (a :: st) M n1 n2 :=
  fun X ls H locs hl hL hP hS => lv_pop2_2 X.1 X.2.1 hd ha (h X ls H locs hl hL hP hS)
theorem z_dup2_x1_2 {a b : Value} (hd : decode cc pc = .ok (.dup2_x1, 1)) (ha : a.category = 2) (hb : b.category = 1) (h : ZU cl tl Ts own cc nL ret nm R g k Qz L (pc + 1) (a :: b :: a :: st) M n1 n2) : ZU cl tl Ts own cc nL ret nm R g k Qz L pc (a :: b :: st) M n1 n2 :=
  fun X ls H locs hl hL hP hS => lv_dup2_x1_2 X.1 X.2.1 hd ha hb (h X ls H locs hl hL hP hS)
theorem z_null (hd : decode cc pc = .ok (.aconst_null, 1)) (h : ZU cl tl Ts own cc nL ret nm R g k Qz L (pc + 1) (.null :: st) M n1 n2) : ZU cl tl Ts own cc nL ret nm R g k Qz L pc (st) M n1 n2 :=
  fun X ls H locs hl hL hP hS => lv_null X.1 X.2.1 hd (h X ls H locs hl hL hP hS)
theorem z_if_eq {x : Int32} {off : Int} {tgt : Nat} (hd : decode cc pc = .ok (.ifCond .eq off, 3)) (ht : (pc : Int) + off = (tgt : Int)) (h1 : x = 0 → ZU cl tl Ts own cc nL ret nm R g k Qz L tgt st M n1 n2) (h2 : ¬ x = 0 → ZU cl tl Ts own cc nL ret nm R g k Qz L (pc + 3) st M n1 n2) : ZU cl tl Ts own cc nL ret nm R g k Qz L pc (.int x :: st) M n1 n2 :=
  fun X ls H locs hl hL hP hS => lv_if_eq X.1 X.2.1 hd ht (fun q => h1 q X ls H locs hl hL hP hS) (fun q => h2 q X ls H locs hl hL hP hS)
theorem z_icmp_eq {x y : Int32} {off : Int} {tgt : Nat} (hd : decode cc pc = .ok (.if_icmp .eq off, 3)) (ht : (pc : Int) + off = (tgt : Int)) (h1 : x = y → ZU cl tl Ts own cc nL ret nm R g k Qz L tgt st M n1 n2) (h2 : ¬ x = y → ZU cl tl Ts own cc nL ret nm R g k Qz L (pc + 3) st M n1 n2) : ZU cl tl Ts own cc nL ret nm R g k Qz L pc (.int y :: .int x :: st) M n1 n2 :=
  fun X ls H locs hl hL hP hS => lv_icmp_eq X.1 X.2.1 hd ht (fun q => h1 q X ls H locs hl hL hP hS) (fun q => h2 q X ls H locs hl hL hP hS)
theorem z_if_ne {x : Int32} {off : Int} {tgt : Nat} (hd : decode cc pc = .ok (.ifCond .ne off, 3)) (ht : (pc : Int) + off = (tgt : Int)) (h1 : ¬ x = 0 → ZU cl tl Ts own cc nL ret nm R g k Qz L tgt st M n1 n2) (h2 : x = 0 → ZU cl tl Ts own cc nL ret nm R g k Qz L (pc + 3) st M n1 n2) : ZU cl tl Ts own cc nL ret nm R g k Qz L pc (.int x :: st) M n1 n2 :=
  fun X ls H locs hl hL hP hS => lv_if_ne X.1 X.2.1 hd ht (fun q => h1 q X ls H locs hl hL hP hS) (fun q => h2 q X ls H locs hl hL hP hS)
theorem z_icmp_ne {x y : Int32} {off : Int} {tgt : Nat} (hd : decode cc pc = .ok (.if_icmp .ne off, 3)) (ht : (pc : Int) + off = (tgt : Int)) (h1 : ¬ x = y → ZU cl tl Ts own cc nL ret nm R g k Qz L tgt st M n1 n2) (h2 : x = y → ZU cl tl Ts own cc nL ret nm R g k Qz L (pc + 3) st M n1 n2) : ZU cl tl Ts own cc nL ret nm R g k Qz L pc (.int y :: .int x :: st) M n1 n2 :=
  fun X ls H locs hl hL hP hS => lv_icmp_ne X.1 X.2.1 hd ht (fun q => h1 q X ls H locs hl hL hP hS) (fun q => h2 q X ls H locs hl hL hP hS)
theorem z_if_lt {x : Int32} {off : Int} {tgt : Nat} (hd : decode cc pc = .ok (.ifCond .lt off, 3)) (ht : (pc : Int) + off = (tgt : Int)) (h1 : x < 0 → ZU cl tl Ts own cc nL ret nm R g k Qz L tgt st M n1 n2) (h2 : ¬ x < 0 → ZU cl tl Ts own cc nL ret nm R g k Qz L (pc + 3) st M n1 n2) : ZU cl tl Ts own cc nL ret nm R g k Qz L pc (.int x :: st) M n1 n2 :=
  fun X ls H locs hl hL hP hS => lv_if_lt X.1 X.2.1 hd ht (fun q => h1 q X ls H locs hl hL hP hS) (fun q => h2 q X ls H locs hl hL hP hS)
theorem z_icmp_lt {x y : Int32} {off : Int} {tgt : Nat} (hd : decode cc pc = .ok (.if_icmp .lt off, 3)) (ht : (pc : Int) + off = (tgt : Int)) (h1 : x < y → ZU cl tl Ts own cc nL ret nm R g k Qz L tgt st M n1 n2) (h2 : ¬ x < y → ZU cl tl Ts own cc nL ret nm R g k Qz L (pc + 3) st M n1 n2) : ZU cl tl Ts own cc nL ret nm R g k Qz L pc (.int y :: .int x :: st) M n1 n2 :=
  fun X ls H locs hl hL hP hS => lv_icmp_lt X.1 X.2.1 hd ht (fun q => h1 q X ls H locs hl hL hP hS) (fun q => h2 q X ls H locs hl hL hP hS)
theorem z_if_ge {x : Int32} {off : Int} {tgt : Nat} (hd : decode cc pc = .ok (.ifCond .ge off, 3)) (ht : (pc : Int) + off = (tgt : Int)) (h1 : 0 ≤ x → ZU cl tl Ts own cc nL ret nm R g k Qz L tgt st M n1 n2) (h2 : ¬ 0 ≤ x → ZU cl tl Ts own cc nL ret nm R g k Qz L (pc + 3) st M n1 n2) : ZU cl tl Ts own cc nL ret nm R g k Qz L pc (.int x :: st) M n1 n2 :=
  fun X ls H locs hl hL hP hS => lv_if_ge X.1 X.2.1 hd ht (fun q => h1 q X ls H locs hl hL hP hS) (fun q => h2 q X ls H locs hl hL hP hS)
theorem z_icmp_ge {x y : Int32} {off : Int} {tgt : Nat} (hd : decode cc pc = .ok (.if_icmp .ge off, 3)) (ht : (pc : Int) + off = (tgt : Int)) (h1 : y ≤ x → ZU cl tl Ts own cc nL ret nm R g k Qz L tgt st M n1 n2) (h2 : ¬ y ≤ x → ZU cl tl Ts own cc nL ret nm R g k Qz L (pc + 3) st M n1 n2) : ZU cl tl Ts own cc nL ret nm R g k Qz L pc (.int y :: .int x :: st) M n1 n2 :=
  fun X ls H locs hl hL hP hS => lv_icmp_ge X.1 X.2.1 hd ht (fun q => h1 q X ls H locs hl hL hP hS) (fun q => h2 q X ls H locs hl hL hP hS)
theorem z_if_gt {x : Int32} {off : Int} {tgt : Nat} (hd : decode cc pc = .ok (.ifCond .gt off, 3)) (ht : (pc : Int) + off = (tgt : Int)) (h1 : 0 < x → ZU cl tl Ts own cc nL ret nm R g k Qz L tgt st M n1 n2) (h2 : ¬ 0 < x → ZU cl tl Ts own cc nL ret nm R g k Qz L (pc + 3) st M n1 n2) : ZU cl tl Ts own cc nL ret nm R g k Qz L pc (.int x :: st) M n1 n2 :=
  fun X ls H locs hl hL hP hS => lv_if_gt X.1 X.2.1 hd ht (fun q => h1 q X ls H locs hl hL hP hS) (fun q => h2 q X ls H locs hl hL hP hS)
theorem z_icmp_gt {x y : Int32} {off : Int} {tgt : Nat} (hd : decode cc pc = .ok (.if_icmp .gt off, 3)) (ht : (pc : Int) + off = (tgt : Int)) (h1 : y < x → ZU cl tl Ts own cc nL ret nm R g k Qz L tgt st M n1 n2) (h2 : ¬ y < x → ZU cl tl Ts own cc nL ret nm R g k Qz L (pc + 3) st M n1 n2) : ZU cl tl Ts own cc nL ret nm R g k Qz L pc (.int y :: .int x :: st) M n1 n2 :=
  fun X ls H locs hl hL hP hS => lv_icmp_gt X.1 X.2.1 hd ht (fun q => h1 q X ls H locs hl hL hP hS) (fun q => h2 q X ls H locs hl hL hP hS)
theorem z_if_le {x : Int32} {off : Int} {tgt : Nat} (hd : decode cc pc = .ok (.ifCond .le off, 3)) (ht : (pc : Int) + off = (tgt : Int)) (h1 : x ≤ 0 → ZU cl tl Ts own cc nL ret nm R g k Qz L tgt st M n1 n2) (h2 : ¬ x ≤ 0 → ZU cl tl Ts own cc nL ret nm R g k Qz L (pc + 3) st M n1 n2) : ZU cl tl Ts own cc nL ret nm R g k Qz L pc (.int x :: st) M n1 n2 :=
  fun X ls H locs hl hL hP hS => lv_if_le X.1 X.2.1 hd ht (fun q => h1 q X ls H locs hl hL hP hS) (fun q => h2 q X ls H locs hl hL hP hS)
theorem z_icmp_le {x y : Int32} {off : Int} {tgt : Nat} (hd : decode cc pc = .ok (.if_icmp .le off, 3)) (ht : (pc : Int) + off = (tgt : Int)) (h1 : x ≤ y → ZU cl tl Ts own cc nL ret nm R g k Qz L tgt st M n1 n2) (h2 : ¬ x ≤ y → ZU cl tl Ts own cc nL ret nm R g k Qz L (pc + 3) st M n1 n2) : ZU cl tl Ts own cc nL ret nm R g k Qz L pc (.int y :: .int x :: st) M n1 n2 :=
  fun X ls H locs hl hL hP hS => lv_icmp_le X.1 X.2.1 hd ht (fun q => h1 q X ls H locs hl hL hP hS) (fun q => h2 q X ls H locs hl hL hP hS)
theorem z_goto {off : Int} {tgt : Nat} (hd : decode cc pc = .ok (.goto off, 3)) (ht : (pc : Int) + off = (tgt : Int)) (h : ZU cl tl Ts own cc nL ret nm R g k Qz L tgt st M n1 n2) : ZU cl tl Ts own cc nL ret nm R g k Qz L pc st M n1 n2 :=
  fun X ls H locs hl hL hP hS => lv_goto X.1 X.2.1 hd ht (h X ls H locs hl hL hP hS)
theorem z_ifnull {x : Nat} {off : Int} (hd : decode cc pc = .ok (.ifnull off, 3)) (h : ZU cl tl Ts own cc nL ret nm R g k Qz L (pc + 3) st M n1 n2) : ZU cl tl Ts own cc nL ret nm R g k Qz L pc (.ref x :: st) M n1 n2 :=
  fun X ls H locs hl hL hP hS => lv_ifnull X.1 X.2.1 hd (h X ls H locs hl hL hP hS)
theorem z_ifnullN {off : Int} {tgt : Nat} (hd : decode cc pc = .ok (.ifnull off, 3)) (ht : (pc : Int) + off = (tgt : Int)) (h : ZU cl tl Ts own cc nL ret nm R g k Qz L tgt st M n1 n2) : ZU cl tl Ts own cc nL ret nm R g k Qz L pc (.null :: st) M n1 n2 :=
  fun X ls H locs hl hL hP hS => lv_ifnullN X.1 X.2.1 hd ht (h X ls H locs hl hL hP hS)
theorem z_ifnonnull {x : Nat} {off : Int} {tgt : Nat} (hd : decode cc pc = .ok (.ifnonnull off, 3)) (ht : (pc : Int) + off = (tgt : Int)) (h : ZU cl tl Ts own cc nL ret nm R g k Qz L tgt st M n1 n2) : ZU cl tl Ts own cc nL ret nm R g k Qz L pc (.ref x :: st) M n1 n2 :=
  fun X ls H locs hl hL hP hS => lv_ifnonnull X.1 X.2.1 hd ht (h X ls H locs hl hL hP hS)
theorem z_ifnonnullN {off : Int} (hd : decode cc pc = .ok (.ifnonnull off, 3)) (h : ZU cl tl Ts own cc nL ret nm R g k Qz L (pc + 3) st M n1 n2) : ZU cl tl Ts own cc nL ret nm R g k Qz L pc (.null :: st) M n1 n2 :=
  fun X ls H locs hl hL hP hS => lv_ifnonnullN X.1 X.2.1 hd (h X ls H locs hl hL hP hS)
theorem z_acmp_eq {x y : Option Nat} {off : Int} {tgt : Nat} (hd : decode cc pc = .ok (.if_acmp .eq off, 3)) (ht : (pc : Int) + off = (tgt : Int)) (h1 : x = y → ZU cl tl Ts own cc nL ret nm R g k Qz L tgt st M n1 n2) (h2 : ¬ x = y → ZU cl tl Ts own cc nL ret nm R g k Qz L (pc + 3) st M n1 n2) : ZU cl tl Ts own cc nL ret nm R g k Qz L pc (va_rf y :: va_rf x :: st) M n1 n2 :=
  fun X ls H locs hl hL hP hS => lv_acmp_eq X.1 X.2.1 hd ht (fun q => h1 q X ls H locs hl hL hP hS) (fun q => h2 q X ls H locs hl hL hP hS)
theorem z_acmp_ne {x y : Option Nat} {off : Int} {tgt : Nat} (hd : decode cc pc = .ok (.if_acmp .ne off, 3)) (ht : (pc : Int) + off = (tgt : Int)) (h1 : ¬ x = y → ZU cl tl Ts own cc nL ret nm R g k Qz L tgt st M n1 n2) (h2 : x = y → ZU cl tl Ts own cc nL ret nm R g k Qz L (pc + 3) st M n1 n2) : ZU cl tl Ts own cc nL ret nm R g k Qz L pc (va_rf y :: va_rf x :: st) M n1 n2 :=
  fun X ls H locs hl hL hP hS => lv_acmp_ne X.1 X.2.1 hd ht (fun q => h1 q X ls H locs hl hL hP hS) (fun q => h2 q X ls H locs hl hL hP hS)
theorem z_widen {k1 k2 : Nat} (h1 : n1 ≤ k1) (h2 : n2 ≤ k2) (h : ZU cl tl Ts own cc nL ret nm R g k Qz L pc st M k1 k2) : ZU cl tl Ts own cc nL ret nm R g k Qz L pc st M n1 n2 :=
  fun X ls H locs hl hL hP hS => W.widen h1 h2 (h X ls H locs hl hL hP hS)
theorem z_ret {v : Option Value} {H : Heap} {locs : List Loc} (hP : zP cl g M H) (hS : va_S g.2.2.1 k.2.2.2.1.heap H locs) (hp : post v M) : ∀ t : State, t.heap = H → k.2.2.2.1.WarmedH t.vm → zQ cl g post k.2.2.2.2.2.1 k.2.2.2.1 (.returned v) t :=
  fun t ht _ => ⟨⟨v, M, rfl, hp, by rw [ht]; exact hP⟩, hS.F ht⟩
theorem z_ireturn {v : Int32} (hd : decode cc pc = .ok (.ireturn, 1)) (hr : ret = some .int) (hp : post (some (.int v)) M) (h1 : n1 ≤ R.cells) (h2 : n2 ≤ R.slots) : ZW cl tl Ts own cc nL ret nm R g k post L pc [.int v] M n1 n2 :=
  fun X ls H locs hl hL hP hS => W.widen h1 h2 (W.iret X.1 X.2.1 (X.2.2.2.2.2.2.1.trans hr) (z_ret hP hS hp) hS.2.2 hd X.2.2.2.2.2.1)
theorem z_zreturn {v : Int32} {ty : FieldType} (hd : decode cc pc = .ok (.ireturn, 1)) (hr : ret = some ty) (hn : narrow ty (.int v) = .int v) (hp : post (some (.int v)) M) (h1 : n1 ≤ R.cells) (h2 : n2 ≤ R.slots) : ZW cl tl Ts own cc nL ret nm R g k post L pc [.int v] M n1 n2 :=
  fun X ls H locs hl hL hP hS => W.widen h1 h2 (W.zret X.1 X.2.1 (X.2.2.2.2.2.2.1.trans hr) hn (z_ret hP hS hp) hS.2.2 hd X.2.2.2.2.2.1)
theorem z_lreturn {v : Int64} (hd : decode cc pc = .ok (.lreturn, 1)) (hr : ret = some .long) (hp : post (some (.long v)) M) (h1 : n1 ≤ R.cells) (h2 : n2 ≤ R.slots) : ZW cl tl Ts own cc nL ret nm R g k post L pc [.long v] M n1 n2 :=
  fun X ls H locs hl hL hP hS => W.widen h1 h2 (W.lret X.1 X.2.1 (X.2.2.2.2.2.2.1.trans hr) (z_ret hP hS hp) hS.2.2 hd X.2.2.2.2.2.1)
theorem z_return (hd : decode cc pc = .ok (.return_, 1)) (hr : ret = none) (hp : post none M) (h1 : n1 ≤ R.cells) (h2 : n2 ≤ R.slots) : ZW cl tl Ts own cc nL ret nm R g k post L pc [] M n1 n2 :=
  fun X ls H locs hl hL hP hS => W.widen h1 h2 (W.vret X.1 X.2.1 (X.2.2.2.2.2.2.1.trans hr) (z_ret hP hS hp) hS.2.2 hd X.2.2.2.2.2.1)
theorem z_areturn {v : Value} {rt : FieldType} (hd : decode cc pc = .ok (.areturn, 1)) (hr : ret = some rt) (hrt : (∃ n, rt = .object n) ∨ ∃ t, rt = .array t) (hv : v = .null ∨ ∃ a, v = .ref a) (hp : post (some v) M) (h1 : n1 ≤ R.cells) (h2 : n2 ≤ R.slots) : ZW cl tl Ts own cc nL ret nm R g k post L pc [v] M n1 n2 :=
  fun X ls H locs hl hL hP hS => W.widen h1 h2 (W.aret X.1 X.2.1 (X.2.2.2.2.2.2.1.trans hr) hrt hv (z_ret hP hS hp) hS.2.2 hd X.2.2.2.2.2.1)
end ZR
end
section
def ZF (cl : List vw_C) (Ts : List Cond) (own : String) (ix ci i : Nat) : Prop := ∃ (C : String) (T : u_T) (N : Nat) (ref : String), cl[ci]? = some (C, T, N) ∧ i < N ∧ (∀ w ∈ u_ws C T N, w ∈ Ts) ∧ Cond.fieldLink own ix ref (T i).2.1 (T i).2.2.1 ∈ Ts ∧ (ref = (T i).1 ∨ Cond.sameField ref (T i).1 (T i).2.1 (T i).2.2.1 ∈ Ts)
def ZL (T : u_T) (N : Nat) (ty0 : Nat → FieldType) : Prop := (∀ k, k < N → parseFieldDescriptor (T k).2.2.1 = some (ty0 k)) ∧ ∀ a, a < N → ∀ b, b < N → a ≠ b → (T a).2.1 ≠ (T b).2.1
def ZFp (cl : List vw_C) (Ts : List Cond) (own : String) (ix ci i : Nat) (fin : Bool) (ty : FieldType) : Prop := ∃ (C : String) (T : u_T) (N : Nat) (ref : String) (ty0 : Nat → FieldType), cl[ci]? = some (C, T, N) ∧ i < N ∧ (∀ w ∈ u_ws C T N, w ∈ Ts) ∧ Cond.fieldLink own ix ref (T i).2.1 (T i).2.2.1 ∈ Ts ∧ (ref = (T i).1 ∨ Cond.sameField ref (T i).1 (T i).2.1 (T i).2.2.1 ∈ Ts) ∧ ZL T N ty0 ∧ (T i).2.2.2 = fin ∧ ty0 i = ty ∧ (fin = true → (T i).1 = own)
theorem zsame {Ts : List Cond} {s : State} {args : Array Value} {ref o n d : String} (hts : ∀ w ∈ Ts, w.before args s = true) (h : ref = o ∨ Cond.sameField ref o n d ∈ Ts) (x : ClassId × Class × Nat × Field) (hx : s.fieldFound? o n d = some x) : s.fieldFound? ref n d = some x := by
  rcases h with rfl | h
  · exact hx
  · exact u_same (hts _ h) x hx
section ZH
variable {cl : List vw_C} {tl : List FieldType} {Ts : List Cond} {own : String} {cc : ByteArray} {nL : Nat} {ret : Option FieldType} {nm : String} {R : Room} {g : ZG} {k : ZK} {post : Option Value → ZM → Prop} {Qz : State → Prop} {L L' : List (Option Value)} {pc : Nat} {st : List Value} {M : ZM} {n1 n2 : Nat}
theorem ZX.va_K {cl : List vw_C} {tl : List FieldType} {Ts : List Cond} {own : String} {cc : ByteArray} {nL : Nat} {ret : Option FieldType} {nm : String} {g : ZG} {k : ZK} (X : ZX cl tl Ts own cc nL ret nm g k) : va_K g.1 cl [] k.2.2.2.1 := ⟨X.2.2.2.2.2.2.2.2.1.1, fun k q h => by simp at h⟩
theorem z_get {a ix ci i : Nat} {fs : List Value} {v : Value} (hd : decode cc pc = .ok (.getfield ix, 3)) (hf : ZF cl Ts own ix ci i) (hM : M a = some (.inr (ci, fs))) (hv : fs[i]? = some v) (h : ZU cl tl Ts own cc nL ret nm R g k Qz L (pc + 3) (v :: st) M n1 n2) : ZU cl tl Ts own cc nL ret nm R g k Qz L pc (.ref a :: st) M n1 n2 := by
  intro X ls H locs hl hL hP hS
  obtain ⟨C, T, N, ref, hc, hi, hin, hlk, hsm⟩ := hf
  have hts := X.2.2.2.2.1
  obtain ⟨r, h1, h2, cell, q1, q2, q3, q4⟩ := hP.1 a _ hM
  have hr : r = (C, T, N) := Option.some.inj (h1.symm.trans hc)
  subst hr
  obtain ⟨hS', hfc, kC, hkC, hkind⟩ := X.va_K.1 ci _ hc
  obtain ⟨cf, kf, fi, f, hi', hsl⟩ := hS' i hi
  refine W.getf X.1 X.2.1 X.2.2.2.1 (hts _ hlk) (zsame hts hsm _ hi') (u_facts hfc hkC (u_lays hts hin hi) hi').1 q1 (by rw [q3]; exact fun h => by cases h) (v := v) ?_ rfl rfl hd (h X ls H locs hl hL hP hS)
  rw [hsl, q4 i hi]
  simp [vp_V, hv]
theorem z_put {a ix ci i : Nat} {fs : List Value} {v : Value} {ty : FieldType} (hd : decode cc pc = .ok (.putfield ix, 3)) (hf : ZFp cl Ts own ix ci i false ty) (hM : M a = some (.inr (ci, fs))) (hn : narrow ty v = v) (hfit : fits ty v = true) (h : ZU cl tl Ts own cc nL ret nm R g k Qz L (pc + 3) st (zset M a (.inr (ci, fs.set i v))) n1 n2) : ZU cl tl Ts own cc nL ret nm R g k Qz L pc (v :: .ref a :: st) M n1 n2 := by
  intro X ls H locs hl hL hP hS
  obtain ⟨C, T, N, ref, ty0, hc, hi, hin, hlk, hsm, ⟨hty, hnm⟩, hfin, hti, -⟩ := hf
  have hts := X.2.2.2.2.1
  have hap := va_apart (own := own) hts hin ty0 hty hnm X.va_K hc
  obtain ⟨hz, hA⟩ := hP.obj hM
  obtain ⟨r, h1, h2, cell, q1, q2, q3, q4⟩ := hP.1 a _ hM
  have hr : r = (C, T, N) := Option.some.inj (h1.symm.trans hc)
  subst hr
  obtain ⟨hS', hfc, kC, hkC, hkind⟩ := X.va_K.1 ci _ hc
  obtain ⟨cf, kf, fi, f, hi', hsl⟩ := hS' i hi
  have hlay := hts _ (hin _ (u_in_lay hi))
  unfold u_lay at hlay
  rw [if_neg (by rw [hfin]; decide)] at hlay
  have hst := (u_facts hfc hkC (u_lays hts hin hi) hi').1
  have h6 := u_store hfc hkC hkind hlay hi' (by rw [hty i hi, hti]) hn hfit
  refine W.putK X.1 X.2.1 (f := f) ⟨X.2.2.2.1, hts _ hlk, ⟨_, _, _, zsame hts hsm _ hi'⟩, hst⟩ (by rw [q2]; exact h6) q1 q3 (by rw [hsl]; exact k2_hasslot (q4 i hi)) rfl rfl hd fun H' e1 e2 e3 => ?_
  rw [hsl] at e1 ⊢
  have hil : i < fs.length := by simp at h2; omega
  exact h X ls H' _ hl hL (hP.set hz hA ⟨_, hc, by simpa using h2, t_OB.to (V := updV (vp_V fs) i v) ⟨_, e1, q2, q3, t_set q4 hap hi v⟩ (fun j _ => vp_updV_set hil v j)⟩ (fun q hq _ => e3 q hq)) (hS.put e2 e3 hA)
theorem z_putF {a ix ci i : Nat} {fs : List Value} {v : Value} {ty : FieldType} (hd : decode cc pc = .ok (.putfield ix, 3)) (hf : ZFp cl Ts own ix ci i true ty) (hnm2 : nm = "<init>") (hM : M a = some (.inr (ci, fs))) (hn : narrow ty v = v) (hfit : fits ty v = true) (h : ZU cl tl Ts own cc nL ret nm R g k Qz L (pc + 3) st (zset M a (.inr (ci, fs.set i v))) n1 n2) : ZU cl tl Ts own cc nL ret nm R g k Qz L pc (v :: .ref a :: st) M n1 n2 := by
  intro X ls H locs hl hL hP hS
  obtain ⟨C, T, N, ref, ty0, hc, hi, hin, hlk, hsm, ⟨hty, hnm⟩, hfin, hti, hdecl⟩ := hf
  have hts := X.2.2.2.2.1
  have hap := va_apart (own := own) hts hin ty0 hty hnm X.va_K hc
  obtain ⟨hz, hA⟩ := hP.obj hM
  obtain ⟨r, h1, h2, cell, q1, q2, q3, q4⟩ := hP.1 a _ hM
  have hr : r = (C, T, N) := Option.some.inj (h1.symm.trans hc)
  subst hr
  obtain ⟨hS', hfc, kC, hkC, hkind⟩ := X.va_K.1 ci _ hc
  obtain ⟨cf, kf, fi, f, hi', hsl⟩ := hS' i hi
  have hlay := hts _ (hin _ (u_in_lay hi))
  unfold u_lay at hlay
  rw [if_pos hfin] at hlay
  have hst := (u_facts hfc hkC (u_lays hts hin hi) hi').1
  have hcf : k.2.2.2.2.1.cls = cf := by
    obtain ⟨_, _, c', _, _, _, -, -, hf', -, -, -, hown2, -⟩ := Cond.laysFinal_spec hlay
    have e1 : c' = cf := by have := hi'.symm.trans hf'; simp at this; exact this.1.symm
    rw [hdecl rfl] at hown2
    rw [← e1]; exact Option.some.inj (X.2.2.2.1.symm.trans hown2)
  have h6 := u_fits hfc hkC hkind (Or.inr hlay) hi' (by rw [hty i hi, hti]) hn hfit
  refine W.putFinK X.1 X.2.1 X.2.2.2.1 (hts _ hlk) (zsame hts hsm _ hi') hst hcf (X.2.2.2.2.2.2.2.1.trans hnm2) (by rw [q2]; exact h6) q1 q3 (by rw [hsl]; exact k2_hasslot (q4 i hi)) rfl rfl hd fun H' e1 e2 e3 => ?_
  rw [hsl] at e1 ⊢
  have hil : i < fs.length := by simp at h2; omega
  exact h X ls H' _ hl hL (hP.set hz hA ⟨_, hc, by simpa using h2, t_OB.to (V := updV (vp_V fs) i v) ⟨_, e1, q2, q3, t_set q4 hap hi v⟩ (fun j _ => vp_updV_set hil v j)⟩ (fun q hq _ => e3 q hq)) (hS.put e2 e3 hA)
theorem zS_push {A : Nat → Prop} {H0 H H1 : Heap} {locs : List Loc} (hS : va_S A H0 H locs) (z1 : H1.size = H.size + 1) (o1 : ∀ q : Nat, q < H.size → H1[q]? = H[q]?) : va_S A H0 H1 locs :=
  ⟨Nat.le_trans hS.1 (by omega), fun x h1 h2 => (o1 x (Nat.lt_of_lt_of_le h1 hS.1)).trans (hS.2.1 x h1 h2), hS.2.2⟩
theorem zP.push {cl : List vw_C} {g : ZG} {M : ZM} {H H1 : Heap} (hP : zP cl g M H) {e : ZE} (hA : g.2.2.1 H.size) (o1 : ∀ q : Nat, q < H.size → H1[q]? = H[q]?) (he : zat cl g H.size e H1) : zP cl g (zset M H.size e) H1 :=
  hP.set (fun q => by have := hP.lt hP.2.2; omega) hA he (fun q _ hm => by
    cases hq : M q with
    | none => exact absurd hq hm
    | some e => exact o1 q (hP.lt hq))
def ZN (cl : List vw_C) (Ts : List Cond) (own : String) (ix ci : Nat) (fs : List Value) : Prop := ∃ (C : String) (T : u_T) (N : Nat) (ty0 : Nat → FieldType), cl[ci]? = some (C, T, N) ∧ (∀ w ∈ u_ws C T N, w ∈ Ts) ∧ ZL T N ty0 ∧ Cond.classLink own ix C ∈ Ts ∧ Cond.instantiable C N ∈ Ts ∧ Cond.initialized C ∈ Ts ∧ fs.length = N ∧ ∀ j, j < N → defaultValue (ty0 j) = vp_V fs j
theorem z_new {ix ci : Nat} {fs : List Value} (hd : decode cc pc = .ok (.new ix, 3)) (hf : ZN cl Ts own ix ci fs) (hc1 : n1 + 1 ≤ R.cells) (hc2 : n2 + fs.length ≤ R.slots) (h : ∀ q : Nat, M q = none → ZU cl tl Ts own cc nL ret nm R g k Qz L (pc + 3) (.ref q :: st) (zset M q (.inr (ci, fs))) (n1 + 1) (n2 + fs.length)) : ZU cl tl Ts own cc nL ret nm R g k Qz L pc st M n1 n2 := by
  intro X ls H locs hl hL hP hS
  obtain ⟨C, T, N, ty0, hc, hin, ⟨hty, hnm⟩, hlk, hins, hini, hlen, hfs⟩ := hf
  subst hlen
  have hts := X.2.2.2.2.1
  have hKn := X.va_K.1 ci _ hc
  refine W.newcK X.1 X.2.1 X.2.2.2.1 (hts _ hlk) (hts _ hins) (hts _ hini) rfl hd hc1 hc2 hKn.2.1 rfl fun H1 kC hkC e1 z1 o1 => ?_
  exact h H.size (hP.fresh (Nat.le_refl _)) X ls H1 locs hl hL (hP.push (X.2.2.2.2.2.2.2.2.2.1 _ hS.1) o1 ⟨_, hc, rfl, (u_born ty0 hts hin hKn hkC e1 hty).to hfs⟩) (zS_push hS z1 o1)
theorem z_newarr {t N : Nat} {at0 : ArrayType} {ty : FieldType} {n : Int32} (hd : decode cc pc = .ok (.newarray at0, 2)) (hty : newarray.typeOf at0 = ty) (hw : Cond.arrayClass ty ∈ Ts) (ht : tl[t]? = some ty) (hra : ∀ (U : State) (c : ClassId), va_RA U c ty → U.vm.findClass ("[" ++ ty.toString) = some c) (hn : n = nI N) (hN : N < 2 ^ 26) (hc1 : n1 + 1 ≤ R.cells) (hc2 : n2 + N ≤ R.slots) (hb : componentBytes ty ≤ 8) (h : ∀ q : Nat, M q = none → ZU cl tl Ts own cc nL ret nm R g k Qz L (pc + 2) (.ref q :: st) (zset M q (.inl (t, List.replicate N (defaultValue ty)))) (n1 + 1) (n2 + N)) : ZU cl tl Ts own cc nL ret nm R g k Qz L pc (.int n :: st) M n1 n2 := by
  intro X ls H locs hl hL hP hS
  subst hty
  subst hn
  have hts := X.2.2.2.2.1
  obtain ⟨r1, r2⟩ := X.2.2.2.2.2.2.2.2.1.2.1 t _ ht
  have hbb : N * componentBytes (newarray.typeOf at0) ≤ 536870912 := Nat.le_trans (Nat.mul_le_mul (Nat.le_of_lt hN) hb) (by decide)
  refine va_newaK X.1 X.2.1 (hts _ hw) rfl hd rfl (nI_pos (by omega)) (nI_clamp (by omega)) hbb hc1 hc2 rfl fun H1 cA e1 z1 o1 hAr hNm => ?_
  have hcA : cA = g.2.1 t := Option.some.inj (hNm.symm.trans (hra _ _ r2))
  subst hcA
  refine h H.size (hP.fresh (Nat.le_refl _)) X ls H1 locs hl hL (hP.push (X.2.2.2.2.2.2.2.2.2.1 _ hS.1) o1 ?_) (zS_push hS z1 o1)
  refine ⟨_, ?_, Or.inl rfl⟩
  rw [e1, ← arrV_new]
  simp [zarr]
theorem z_anew {t N ix : Nat} {C : String} {n : Int32} (hd : decode cc pc = .ok (.anewarray ix, 3)) (hlk : Cond.classLink own ix C ∈ Ts) (hov : C ∈ zOv) (ht : tl[t]? = some (.object C)) (hn : n = nI N) (hN : N < 2 ^ 27) (hc1 : n1 + 1 ≤ R.cells) (hc2 : n2 + N ≤ R.slots) (h : ∀ q : Nat, M q = none → ZU cl tl Ts own cc nL ret nm R g k Qz L (pc + 3) (.ref q :: st) (zset M q (.inl (t, List.replicate N .null))) (n1 + 1) (n2 + N)) : ZU cl tl Ts own cc nL ret nm R g k Qz L pc (.int n :: st) M n1 n2 := by
  intro X ls H locs hl hL hP hS
  subst hn
  have hts := X.2.2.2.2.1
  obtain ⟨r1, kA', comp', r2, r3, r4, r5⟩ := X.2.2.2.2.2.2.2.2.1.2.1 t _ ht
  have hcl : (nI N).toNatClampNeg = N := nI_clamp (by omega)
  refine W.anew X.1 X.2.1 X.2.2.2.1 (hts _ hlk) (va_AO.use (X.2.2.2.2.2.2.2.2.1.2.2.1 C hov)) rfl hd rfl (nI_pos (by omega)) (by rw [hcl]; omega) hc1 (by rw [hcl]; exact hc2) fun cA kA comp f1 f2 f3 f4 => ?_
  have hcA : cA = g.2.1 t := Option.some.inj (f1.symm.trans r5)
  subst hcA
  rw [hcl]
  generalize hH1 : H.push ({ cls := g.2.1 t, slots := Array.replicate N .null, vm := .none } : Cell) = H1
  have z1 : H1.size = H.size + 1 := by rw [← hH1, Array.size_push]
  have o1 : ∀ q : Nat, q < H.size → H1[q]? = H[q]? := fun q hq => by rw [← hH1, Array.getElem?_push, if_neg (Nat.ne_of_lt hq)]
  refine h H.size (hP.fresh (Nat.le_refl _)) X ls H1 locs hl hL (hP.push (X.2.2.2.2.2.2.2.2.2.1 _ hS.1) o1 ?_) (zS_push hS z1 o1)
  refine ⟨_, ?_, Or.inl rfl⟩
  rw [← hH1, Array.getElem?_push_size]
  simp [zarr]
theorem z_alen {a t : Nat} {vs : List Value} {ty : FieldType} (hd : decode cc pc = .ok (.arraylength, 1)) (hM : M a = some (.inl (t, vs))) (ht : tl[t]? = some ty) (h : ZU cl tl Ts own cc nL ret nm R g k Qz L (pc + 1) (.int (nI vs.length) :: st) M n1 n2) : ZU cl tl Ts own cc nL ret nm R g k Qz L pc (.ref a :: st) M n1 n2 := by
  intro X ls H locs hl hL hP hS
  obtain ⟨ce, c1, c2, c3, c4, c5⟩ := hP.cellW hM
  have hz := (X.2.2.2.2.2.2.2.2.1.2.1 t _ ht).1 0 (fun _ => .null)
  exact W.alen (n := nI vs.length) X.1 X.2.1 c1 ⟨c4, by rw [c2]; exact hz.2⟩ (by rw [c3]; simp [nI]) rfl rfl hd (h X ls H locs hl hL hP hS)
theorem zin {c : ClassId} {vs : List Value} {j : Nat} {v : Value} (hj : j < 2 ^ 31) (hv : vs[j]? = some v) : ¬ (nI j < 0 ∨ (zarr c vs).slots.size ≤ (nI j).toNatClampNeg) ∧ (zarr c vs).slots[(nI j).toNatClampNeg]? = some v := by
  have hlt := (List.getElem?_eq_some_iff.mp hv).1
  rw [nI_clamp hj]
  refine ⟨fun q => ?_, by simpa [zarr] using hv⟩
  rcases q with q | q
  · exact nI_pos hj q
  · simp [zarr] at q; omega
theorem z_iald {a t j : Nat} {vs : List Value} {v : Value} (hd : decode cc pc = .ok (.iaload, 1)) (hM : M a = some (.inl (t, vs))) (ht : tl[t]? = some .int) (hj : j < 2 ^ 31) (hv : vs[j]? = some v) (h : ZU cl tl Ts own cc nL ret nm R g k Qz L (pc + 1) (v :: st) M n1 n2) : ZU cl tl Ts own cc nL ret nm R g k Qz L pc (.int (nI j) :: .ref a :: st) M n1 n2 := by
  intro X ls H locs hl hL hP hS
  obtain ⟨q1, q2⟩ := zin (c := g.2.1 t) hj hv
  exact W.iald (v := v) X.1 X.2.1 (hP.cell hM (List.getElem?_eq_some_iff.mp hv).1) (zarr_of (X.2.2.2.2.2.2.2.2.1.2.1 t _ ht).1 vs) (fun q => by cases q) q1 q2 rfl rfl hd (h X ls H locs hl hL hP hS)
theorem z_lald {a t j : Nat} {vs : List Value} {v : Value} (hd : decode cc pc = .ok (.laload, 1)) (hM : M a = some (.inl (t, vs))) (ht : tl[t]? = some .long) (hj : j < 2 ^ 31) (hv : vs[j]? = some v) (h : ZU cl tl Ts own cc nL ret nm R g k Qz L (pc + 1) (v :: st) M n1 n2) : ZU cl tl Ts own cc nL ret nm R g k Qz L pc (.int (nI j) :: .ref a :: st) M n1 n2 := by
  intro X ls H locs hl hL hP hS
  obtain ⟨q1, q2⟩ := zin (c := g.2.1 t) hj hv
  exact W.lald (v := v) X.1 X.2.1 (hP.cell hM (List.getElem?_eq_some_iff.mp hv).1) (zarr_of (X.2.2.2.2.2.2.2.2.1.2.1 t _ ht).1 vs) (fun q => by cases q) q1 q2 rfl rfl hd (h X ls H locs hl hL hP hS)
theorem z_zald {a t j : Nat} {vs : List Value} {v : Value} (hd : decode cc pc = .ok (.baload, 1)) (hM : M a = some (.inl (t, vs))) (ht : tl[t]? = some .boolean) (hj : j < 2 ^ 31) (hv : vs[j]? = some v) (h : ZU cl tl Ts own cc nL ret nm R g k Qz L (pc + 1) (v :: st) M n1 n2) : ZU cl tl Ts own cc nL ret nm R g k Qz L pc (.int (nI j) :: .ref a :: st) M n1 n2 := by
  intro X ls H locs hl hL hP hS
  obtain ⟨q1, q2⟩ := zin (c := g.2.1 t) hj hv
  exact W.zald (v := v) X.1 X.2.1 (hP.cell hM (List.getElem?_eq_some_iff.mp hv).1) (zarr_of (X.2.2.2.2.2.2.2.2.1.2.1 t _ ht).1 vs) (fun q => by cases q) q1 q2 rfl rfl hd (h X ls H locs hl hL hP hS)
theorem z_bald {a t j : Nat} {vs : List Value} {v : Value} (hd : decode cc pc = .ok (.baload, 1)) (hM : M a = some (.inl (t, vs))) (ht : tl[t]? = some .byte) (hj : j < 2 ^ 31) (hv : vs[j]? = some v) (h : ZU cl tl Ts own cc nL ret nm R g k Qz L (pc + 1) (v :: st) M n1 n2) : ZU cl tl Ts own cc nL ret nm R g k Qz L pc (.int (nI j) :: .ref a :: st) M n1 n2 := by
  intro X ls H locs hl hL hP hS
  obtain ⟨q1, q2⟩ := zin (c := g.2.1 t) hj hv
  exact W.bald (v := v) X.1 X.2.1 (hP.cell hM (List.getElem?_eq_some_iff.mp hv).1) (zarr_of (X.2.2.2.2.2.2.2.2.1.2.1 t _ ht).1 vs) (fun q => by cases q) q1 q2 rfl rfl hd (h X ls H locs hl hL hP hS)
theorem z_aald {a t j : Nat} {vs : List Value} {v : Value} {ty : FieldType} (hd : decode cc pc = .ok (.aaload, 1)) (hM : M a = some (.inl (t, vs))) (ht : tl[t]? = some ty) (hty : ty.isReference = true) (hj : j < 2 ^ 31) (hv : vs[j]? = some v) (h : ZU cl tl Ts own cc nL ret nm R g k Qz L (pc + 1) (v :: st) M n1 n2) : ZU cl tl Ts own cc nL ret nm R g k Qz L pc (.int (nI j) :: .ref a :: st) M n1 n2 := by
  intro X ls H locs hl hL hP hS
  obtain ⟨q1, q2⟩ := zin (c := g.2.1 t) hj hv
  exact W.aald (v := v) X.1 X.2.1 (hP.cell hM (List.getElem?_eq_some_iff.mp hv).1) (zarr_of (X.2.2.2.2.2.2.2.2.1.2.1 t _ ht).1 vs) hty (fun q => by cases q) q1 q2 rfl rfl hd (h X ls H locs hl hL hP hS)
theorem zP.setA {cl : List vw_C} {g : ZG} {M : ZM} {H H' : Heap} {a t j : Nat} {vs : List Value} {x : Value} (hP : zP cl g M H) (hM : M a = some (.inl (t, vs))) (hlt : j < vs.length) (hj : j < 2 ^ 31) (e1 : H'[a]? = some ((zarr (g.2.1 t) vs).setSlot (nI j).toNatClampNeg x)) (e3 : ∀ q, q ≠ a → H'[q]? = H[q]?) : zP cl g (zset M a (.inl (t, vs.set j x))) H' := by
  obtain ⟨hz, hA⟩ := hP.arr hM hlt
  refine hP.set hz hA ?_ (fun q hq _ => e3 q hq)
  refine ⟨_, ?_, Or.inl rfl⟩
  rw [e1, nI_clamp hj, zarr_set]
theorem zinb {c : ClassId} {vs : List Value} {j : Nat} (hj : j < 2 ^ 31) (hlt : j < vs.length) : ¬ (nI j < 0 ∨ (zarr c vs).slots.size ≤ (nI j).toNatClampNeg) := (zin hj (List.getElem?_eq_getElem hlt)).1
theorem z_iast {a t j : Nat} {vs : List Value} {x : Int32} (hd : decode cc pc = .ok (.iastore, 1)) (hM : M a = some (.inl (t, vs))) (ht : tl[t]? = some .int) (hj : j < 2 ^ 31) (hlt : j < vs.length) (h : ZU cl tl Ts own cc nL ret nm R g k Qz L (pc + 1) st (zset M a (.inl (t, vs.set j (.int x)))) n1 n2) : ZU cl tl Ts own cc nL ret nm R g k Qz L pc (.int x :: .int (nI j) :: .ref a :: st) M n1 n2 := by
  intro X ls H locs hl hL hP hS
  exact W.iast X.1 X.2.1 (hP.cell hM hlt) (zarr_of (X.2.2.2.2.2.2.2.2.1.2.1 t _ ht).1 vs) (fun q => by cases q) (zinb hj hlt) rfl rfl hd fun H' e1 e2 e3 => h X ls H' _ hl hL (hP.setA hM hlt hj e1 e3) (hS.put e2 e3 (hP.arr hM hlt).2)
theorem z_last {a t j : Nat} {vs : List Value} {x : Int64} (hd : decode cc pc = .ok (.lastore, 1)) (hM : M a = some (.inl (t, vs))) (ht : tl[t]? = some .long) (hj : j < 2 ^ 31) (hlt : j < vs.length) (h : ZU cl tl Ts own cc nL ret nm R g k Qz L (pc + 1) st (zset M a (.inl (t, vs.set j (.long x)))) n1 n2) : ZU cl tl Ts own cc nL ret nm R g k Qz L pc (.long x :: .int (nI j) :: .ref a :: st) M n1 n2 := by
  intro X ls H locs hl hL hP hS
  exact W.last X.1 X.2.1 (hP.cell hM hlt) (zarr_of (X.2.2.2.2.2.2.2.2.1.2.1 t _ ht).1 vs) (fun q => by cases q) (zinb hj hlt) rfl rfl hd fun H' e1 e2 e3 => h X ls H' _ hl hL (hP.setA hM hlt hj e1 e3) (hS.put e2 e3 (hP.arr hM hlt).2)
theorem z_aast {a t j v ci : Nat} {vs fs : List Value} {C : String} {r : vw_C} (hd : decode cc pc = .ok (.aastore, 1)) (hM : M a = some (.inl (t, vs))) (ht : tl[t]? = some (.object C)) (hj : j < 2 ^ 31) (hlt : j < vs.length) (hv : M v = some (.inr (ci, fs))) (hc : cl[ci]? = some r) (hca : r.1 = C ∨ (r.1, C) ∈ zCa) (h : ZU cl tl Ts own cc nL ret nm R g k Qz L (pc + 1) st (zset M a (.inl (t, vs.set j (.ref v)))) n1 n2) : ZU cl tl Ts own cc nL ret nm R g k Qz L pc (.ref v :: .int (nI j) :: .ref a :: st) M n1 n2 := by
  intro X ls H locs hl hL hP hS
  obtain ⟨r', hr', -, cellV, g1, g2, g3, -⟩ := hP.1 v _ hv
  have hcls := (X.va_K.1 ci r hc).2
  obtain ⟨kA, comp, k1, k2, k3, -⟩ := (X.2.2.2.2.2.2.2.2.1.2.1 t _ ht).2
  obtain ⟨kE, hkE, -⟩ := Vm.findClass_spec k3
  have hasg : k.2.2.2.1.vm.assignable (g.1.1 ci) comp = true := by
    rcases hca with e | hw
    · subst e
      have : comp = g.1.1 ci := Option.some.inj (k3.symm.trans hcls.1)
      rw [this]
      exact va_assign hcls
    · obtain ⟨c0, t1, f1, f2, f3⟩ := Cond.castable_spec (va_Nw.use (A := k.2.2.2.2.2.1) rfl (X.2.2.2.2.2.2.2.2.1.2.2.2.1 _ hw))
      cases hcls.1.symm.trans f1
      cases k3.symm.trans f2
      exact f3
  obtain ⟨kC, hkC, -⟩ := hcls.2
  have hin := zinb (c := g.2.1 t) hj hlt
  exact W.aast X.1 X.2.1 (hP.cell hM hlt) (fun q h => by cases h) (fun h => by cases h) k1 k2 rfl hkE ⟨fun q => hin (Or.inl q), Nat.not_le.mp fun q => hin (Or.inr q)⟩ g1 (fun q h => by rw [g3] at h; cases h) (by rw [g2]; exact hkC) (by rw [g2]; exact hasg) rfl rfl hd fun H' e1 e2 e3 => h X ls H' _ hl hL (hP.setA hM hlt hj e1 e3) (hS.put e2 e3 (hP.arr hM hlt).2)
theorem z_aastN {a t j : Nat} {vs : List Value} {C : String} (hd : decode cc pc = .ok (.aastore, 1)) (hM : M a = some (.inl (t, vs))) (ht : tl[t]? = some (.object C)) (hj : j < 2 ^ 31) (hlt : j < vs.length) (h : ZU cl tl Ts own cc nL ret nm R g k Qz L (pc + 1) st (zset M a (.inl (t, vs.set j .null))) n1 n2) : ZU cl tl Ts own cc nL ret nm R g k Qz L pc (.null :: .int (nI j) :: .ref a :: st) M n1 n2 := by
  intro X ls H locs hl hL hP hS
  exact va_WaastN (C := C) X.1 X.2.1 (hP.cell hM hlt) (zarr_of (X.2.2.2.2.2.2.2.2.1.2.1 t _ ht).1 vs) (fun h => by cases h) (zinb hj hlt) rfl rfl hd fun H' e1 e2 e3 => h X ls H' _ hl hL (hP.setA hM hlt hj e1 e3) (hS.put e2 e3 (hP.arr hM hlt).2)
theorem zP.recv {cl : List vw_C} {tl : List FieldType} {g : ZG} {M : ZM} {H : Heap} {s : State} {a ci : Nat} {fs : List Value} {r : vw_C} (hP : zP cl g M H) (hK : zK cl tl g s) (hM : M a = some (.inr (ci, fs))) (hc : cl[ci]? = some r) : ∃ cell : Cell, H[a]? = some cell ∧ cell.vm.isStatics = false ∧ s.vm.findClass r.1 = some cell.cls := by
  obtain ⟨r', h1, -, cell, g1, g2, g3, -⟩ := hP.1 a _ hM
  exact ⟨cell, g1, by rw [g3]; rfl, by rw [g2]; exact (hK.1 ci r hc).2.1⟩
theorem z_cast {a ix ci : Nat} {fs : List Value} {r : vw_C} {C : String} (hd : decode cc pc = .ok (.checkcast ix, 3)) (hlk : Cond.classLink own ix C ∈ Ts) (hM : M a = some (.inr (ci, fs))) (hc : cl[ci]? = some r) (hC : r.1 = C) (h : ZU cl tl Ts own cc nL ret nm R g k Qz L (pc + 3) (.ref a :: st) M n1 n2) : ZU cl tl Ts own cc nL ret nm R g k Qz L pc (.ref a :: st) M n1 n2 := by
  intro X ls H locs hl hL hP hS
  subst hC
  exact va_castS X.1 X.2.1 X.2.2.2.1 (X.2.2.2.2.1 _ hlk) (X.va_K.1 ci r hc).2 (hP.recv X.2.2.2.2.2.2.2.2.1 hM hc) hd (h X ls H locs hl hL hP hS)
theorem z_castN {ix : Nat} (hd : decode cc pc = .ok (.checkcast ix, 3)) (h : ZU cl tl Ts own cc nL ret nm R g k Qz L (pc + 3) (.null :: st) M n1 n2) : ZU cl tl Ts own cc nL ret nm R g k Qz L pc (.null :: st) M n1 n2 :=
  fun X ls H locs hl hL hP hS => lv_castN X.1 X.2.1 hd (h X ls H locs hl hL hP hS)
theorem z_objInit {a ix : Nat} (hd : decode cc pc = .ok (.invokespecial ix, 3)) (hlk : Cond.methodLink own ix Lib.objectInit ∈ Ts) (hin : Cond.instanceMethod Lib.objectInit ∈ Ts) (hco : Cond.code Lib.objectInit ⟨#[0xb1]⟩ 1 none ∈ Ts) (hf : 1 ≤ R.frames) (hlo : (st.map fun v => v.category).sum + 12 ≤ R.locals) (h : ZU cl tl Ts own cc nL ret nm R g k Qz L (pc + 3) st M n1 n2) : ZU cl tl Ts own cc nL ret nm R g k Qz L pc (.ref a :: st) M n1 n2 := by
  intro X ls H locs hl hL hP hS
  have hts := X.2.2.2.2.1
  exact W.objInit X.1 X.2.1 X.2.2.2.1 (hts _ hlk) (hts _ hin) (hts _ hco) rfl (by rw [X.2.2.1]; show ls.size = nL; rw [hl.2.1, hL]) rfl hd hf (by show 2 * 0 + _ + 12 ≤ _; omega) (h X ls H locs hl hL hP hS)
theorem z_gets {ix : Nat} (hd : decode cc pc = .ok (.getstatic ix, 3)) (hlk : Cond.fieldLink own ix "java/util/ArrayList" "DEFAULTCAPACITY_EMPTY_ELEMENTDATA" "[Ljava/lang/Object;" ∈ Ts) (h : ZU cl tl Ts own cc nL ret nm R g k Qz L (pc + 3) (.ref g.2.2.2.1 :: st) M n1 n2) : ZU cl tl Ts own cc nL ret nm R g k Qz L pc st M n1 n2 := by
  intro X ls H locs hl hL hP hS
  exact va_gets X.1 X.2.1 X.2.2.2.2.2.2.2.2.2.2.1.1 hS X.2.2.2.1 (X.2.2.2.2.1 _ hlk) (fun _ h => h) hd (h X ls H locs hl hL hP hS)
theorem z_ldc {ix : Nat} {v : Int32} (hd : decode cc pc = .ok (.ldc ix, 2)) (hw : Cond.constant own ix v ∈ Ts) (h : ZU cl tl Ts own cc nL ret nm R g k Qz L (pc + 2) (.int v :: st) M n1 n2) : ZU cl tl Ts own cc nL ret nm R g k Qz L pc st M n1 n2 :=
  fun X ls H locs hl hL hP hS => lv_ldc X.1 X.2.1 X.2.2.2.1 (X.2.2.2.2.1 _ hw) hd (h X ls H locs hl hL hP hS)
theorem z_ldc2 {ix : Nat} {v : Int64} (hd : decode cc pc = .ok (.ldc2_w ix, 3)) (hw : Cond.constantLong own ix v ∈ Ts) (h : ZU cl tl Ts own cc nL ret nm R g k Qz L (pc + 3) (.long v :: st) M n1 n2) : ZU cl tl Ts own cc nL ret nm R g k Qz L pc st M n1 n2 :=
  fun X ls H locs hl hL hP hS => lv_ldc2 X.1 X.2.1 X.2.2.2.1 (X.2.2.2.2.1 _ hw) hd (h X ls H locs hl hL hP hS)
/-! calls -/
theorem z_run {p : Program} {l : Launch} {e : Env} {s : State} {m : MethodId} {args a : Array Value} {below : List Frame} {meth : Method} {c : Code} {H : Heap} {locs : List Loc} {Q : State → Prop} {mc ms : Nat} {ls : Array Slot} {st0 rest : List Value} {cl : List vw_C} {g : ZG} {R : Room} {n1 n2 pc : Nat} {postc : Option Value → ZM → Prop}
    (hr : va_Run p l e R s m args below meth c H locs n1 n2 mc ms (F0 m pc ls st0) rest (zQ cl g postc a) g.2.2.1) (hS : va_S g.2.2.1 s.heap H locs)
    (h : ∀ (v : Option Value) (M' : ZM), postc v M' → ∀ (H1 : Heap) (locs1 : List Loc), zP cl g M' H1 → va_S g.2.2.1 s.heap H1 locs1 → W p l e R s m args below meth c H1 locs1 (n1 + mc) (n2 + ms) Q (F0 m (pc + 3) ls (v.toList ++ rest))) : W p l e R s m args below meth c H locs n1 n2 Q (F0 m pc ls st0) := by
  intro T hT X
  obtain ⟨v, st₀, t, T', L, h0, X', hL, e1, e2, ⟨⟨v', M', hv, hp, hP⟩, hz, hk⟩, st⟩ := hr T hT X
  cases hv
  rw [h0] at hz hk
  obtain ⟨t2, a1, b1⟩ := h v M' hp T'.heap (locs ++ L) (by rw [e1]; exact hP)
    ⟨Nat.le_trans hS.1 (by rw [e1]; exact hz), fun q h1 h2 => by rw [e1, hk q (Nat.lt_of_lt_of_le h1 hS.1) h2]; exact hS.2.1 q h1 h2, fun q hq => by
      rcases List.mem_append.mp hq with h | h
      · exact hS.2.2 q h
      · exact hL q h⟩ T' rfl X'
  exact ⟨t2, st t2 a1, b1⟩
theorem zblind {cl : List vw_C} {tl : List FieldType} {g : ZG} {M : ZM} {av : List Value} : FrameBlind (va_Pc av (zPre cl tl g M)) := fun a U f mk q => by
  obtain ⟨q0, q1, q2, q3, q4⟩ := q
  exact ⟨q0, q1, zK.moved (u := U) (U := U.calling f mk a) (Vm.Alike.refl U.vm) q2, q3, zE.moved (u := U) (U := U.calling f mk a) (State.WarmedH.refl U) q4⟩
theorem zpre {cl : List vw_C} {tl : List FieldType} {Ts : List Cond} {own : String} {cc : ByteArray} {nL : Nat} {ret : Option FieldType} {nm : String} {g : ZG} {k : ZK} {M : ZM} {H : Heap} {locs : List Loc} {av : List Value} (X : ZX cl tl Ts own cc nL ret nm g k) (hP : zP cl g M H) (hS : va_S g.2.2.1 k.2.2.2.1.heap H locs) : ∀ U : State, U.heap = H → k.2.2.2.1.WarmedH U.vm → va_Pc av (zPre cl tl g M) av.toArray U := by
  intro U hU hW
  refine ⟨rfl, by rw [hU]; exact hP, zK.moved hW.alike X.2.2.2.2.2.2.2.2.1, fun q hq => X.2.2.2.2.2.2.2.2.2.1 q (Nat.le_trans hS.1 (by rw [← hU]; exact hq)), ?_⟩
  rw [hU]
  exact (zE.moved hW X.2.2.2.2.2.2.2.2.2.2).kept hS.2.1
def ZV (Ts : List Cond) (own : String) (ix : Nat) (C : String) (y : MethodName) (cc : ByteArray) (nL : Nat) (ret : Option FieldType) (n : Nat) : Prop :=
  Cond.methodLink own ix y ∈ Ts ∧ Cond.instanceMethod y ∈ Ts ∧ Cond.selects C y y ∈ Ts ∧ Cond.initialized C ∈ Ts ∧ Cond.code y cc nL ret ∈ Ts ∧ y.cls = C ∧ y.cls ≠ "java/lang/invoke/MethodHandle" ∧ y.cls ≠ "java/lang/invoke/VarHandle" ∧ (parseMethodDescriptor y.desc).map (fun d => d.parameters.length) = some n
def ZS (Ts : List Cond) (own : String) (ix : Nat) (y : MethodName) (cc : ByteArray) (nL : Nat) (ret : Option FieldType) (n : Nat) : Prop :=
  Cond.methodLink own ix y ∈ Ts ∧ Cond.static y ∈ Ts ∧ Cond.initialized y.cls ∈ Ts ∧ Cond.code y cc nL ret ∈ Ts ∧ y.cls ≠ "java/lang/invoke/MethodHandle" ∧ y.cls ≠ "java/lang/invoke/VarHandle" ∧ (parseMethodDescriptor y.desc).map (fun d => d.parameters.length) = some n
def ZI (Ts : List Cond) (own : String) (ix : Nat) (y : MethodName) (cc : ByteArray) (nL : Nat) (n : Nat) : Prop :=
  Cond.methodLink own ix y ∈ Ts ∧ Cond.instanceMethod y ∈ Ts ∧ Cond.initialized y.cls ∈ Ts ∧ Cond.code y cc nL none ∈ Ts ∧ y.name = "<init>" ∧ y.cls ≠ "java/lang/invoke/MethodHandle" ∧ y.cls ≠ "java/lang/invoke/VarHandle" ∧ (parseMethodDescriptor y.desc).map (fun d => d.parameters.length) = some n
theorem zgood {Ts : List Cond} (hG : GoodIn Ts Ts) {c : Cond} (hc : c ∈ Ts) {ws : List Cond} (hw : ∀ w ∈ ws, w ∈ Ts) : GoodIn Ts (ws ++ (c :: Ts)) := fun w h => by
  rcases List.mem_append.mp h with h | h
  · exact hG w (hw w h)
  · rcases List.mem_cons.mp h with rfl | h
    · exact hG w hc
    · exact hG w h
theorem z_callV {ix ci b n : Nat} {fs : List Value} {C : String} {T : u_T} {N : Nat} {y : MethodName} {cc' : ByteArray} {nL' : Nat} {ret' : Option FieldType} {R' : Room} {As rest st0 : List Value} {postc : Option Value → ZM → Prop} (hG : GoodIn Ts Ts) (hd : decode cc pc = .ok (.invokevirtual ix, 3)) (hw : ZV Ts own ix C y cc' nL' ret' n) (hM : M b = some (.inr (ci, fs))) (hc : cl[ci]? = some (C, T, N))
    (hct : ∀ l : Launch, ZC cl tl Ts l g y cc' nL' ret' R' (.ref b :: As) M postc) (hst : st0 = As.reverse ++ .ref b :: rest) (hn : As.length = n) (hR : R'.frames + 1 ≤ R.frames ∧ 8 + (nL' + 11) + R'.locals ≤ R.locals) (hrest : (rest.map fun v => v.category).sum ≤ 8) (hc1 : n1 + R'.cells ≤ R.cells) (hc2 : n2 + R'.slots ≤ R.slots)
    (h : ∀ (v : Option Value) (M' : ZM), postc v M' → ZU cl tl Ts own cc nL ret nm R g k Qz L (pc + 3) (v.toList ++ rest) M' (n1 + R'.cells) (n2 + R'.slots)) : ZU cl tl Ts own cc nL ret nm R g k Qz L pc st0 M n1 n2 := by
  intro X ls H locs hl hL hP hS
  subst hst
  obtain ⟨w1, w2, w3, w4, w5, w6, w7, w8, w9⟩ := hw
  have hts := X.2.2.2.2.1
  have hgood : GoodIn Ts (wsV own ix C y (Cond.code y cc' nL' ret' :: Ts)) := zgood hG w5 (fun w h => by
    simp only [List.mem_cons, List.not_mem_nil, or_false] at h
    rcases h with rfl | rfl | rfl | rfl <;> assumption)
  exact z_run (va_runV (As := As) (rest := rest) ⟨X.1, X.2.1, X.2.2.1, X.2.2.2.1, hts⟩ (hct k.2.1) (cwV n hts hgood rfl rfl rfl ⟨w6, w7, w8, w9⟩ hR) ⟨zblind, hP.recv X.2.2.2.2.2.2.2.2.1 hM hc, zpre X hP hS⟩ rfl hn (by rw [← hL]; exact hl.2.1) rfl (lv_room hrest) hd ⟨hc1, hc2⟩) hS (fun v M' hp H1 locs1 hP1 hS1 => h v M' hp X ls H1 locs1 hl hL hP1 hS1)
theorem z_callS {ix n : Nat} {y : MethodName} {cc' : ByteArray} {nL' : Nat} {ret' : Option FieldType} {R' : Room} {As rest st0 : List Value} {postc : Option Value → ZM → Prop} (hG : GoodIn Ts Ts) (hd : decode cc pc = .ok (.invokestatic ix, 3)) (hw : ZS Ts own ix y cc' nL' ret' n)
    (hct : ∀ l : Launch, ZC cl tl Ts l g y cc' nL' ret' R' As M postc) (hst : st0 = As.reverse ++ rest) (hn : As.length = n) (hR : R'.frames + 1 ≤ R.frames ∧ 8 + (nL' + 11) + R'.locals ≤ R.locals) (hrest : (rest.map fun v => v.category).sum ≤ 8) (hc1 : n1 + R'.cells ≤ R.cells) (hc2 : n2 + R'.slots ≤ R.slots)
    (h : ∀ (v : Option Value) (M' : ZM), postc v M' → ZU cl tl Ts own cc nL ret nm R g k Qz L (pc + 3) (v.toList ++ rest) M' (n1 + R'.cells) (n2 + R'.slots)) : ZU cl tl Ts own cc nL ret nm R g k Qz L pc st0 M n1 n2 := by
  intro X ls H locs hl hL hP hS
  subst hst
  obtain ⟨w1, w2, w3, w4, w5, w6, w7⟩ := hw
  have hts := X.2.2.2.2.1
  have hgood : GoodIn Ts (va_wsS own ix y (Cond.code y cc' nL' ret' :: Ts)) := zgood hG w4 (fun w h => by
    simp only [List.mem_cons, List.not_mem_nil, or_false] at h
    rcases h with rfl | rfl | rfl <;> assumption)
  exact z_run (va_runS (As := As) (rest := rest) ⟨X.1, X.2.1, X.2.2.1, X.2.2.2.1, hts⟩ (hct k.2.1) (va_cwS n hts hgood rfl rfl rfl ⟨w5, w6, w7⟩ hR) ⟨zblind, zpre X hP hS⟩ rfl hn (by rw [← hL]; exact hl.2.1) rfl (lv_room hrest) hd ⟨hc1, hc2⟩) hS (fun v M' hp H1 locs1 hP1 hS1 => h v M' hp X ls H1 locs1 hl hL hP1 hS1)
theorem z_callI {ix b n : Nat} {y : MethodName} {cc' : ByteArray} {nL' : Nat} {R' : Room} {As rest st0 : List Value} {postc : Option Value → ZM → Prop} (hG : GoodIn Ts Ts) (hd : decode cc pc = .ok (.invokespecial ix, 3)) (hw : ZI Ts own ix y cc' nL' n)
    (hct : ∀ l : Launch, ZC cl tl Ts l g y cc' nL' none R' (.ref b :: As) M postc) (hst : st0 = As.reverse ++ .ref b :: rest) (hn : As.length = n) (hR : R'.frames + 1 ≤ R.frames ∧ 8 + (nL' + 11) + R'.locals ≤ R.locals) (hrest : (rest.map fun v => v.category).sum ≤ 8) (hc1 : n1 + R'.cells ≤ R.cells) (hc2 : n2 + R'.slots ≤ R.slots)
    (h : ∀ (v : Option Value) (M' : ZM), postc v M' → ZU cl tl Ts own cc nL ret nm R g k Qz L (pc + 3) (v.toList ++ rest) M' (n1 + R'.cells) (n2 + R'.slots)) : ZU cl tl Ts own cc nL ret nm R g k Qz L pc st0 M n1 n2 := by
  intro X ls H locs hl hL hP hS
  subst hst
  obtain ⟨w1, w2, w3, w4, w5, w6, w7, w8⟩ := hw
  have hts := X.2.2.2.2.1
  have hgood : GoodIn Ts (Cond.code y cc' nL' none :: Ts) := zgood (ws := []) hG w4 (fun w h => by cases h)
  exact z_run (va_runI (As := As) (rest := rest) ⟨X.1, X.2.1, X.2.2.1, X.2.2.2.1, hts⟩ (hct k.2.1) (cwI n hts hgood rfl rfl rfl (hts _ w3) (hts _ w1) (hts _ w2) w5 ⟨w6, w7, w8⟩ hR) ⟨zblind, zpre X hP hS⟩ rfl hn (by rw [← hL]; exact hl.2.1) rfl (lv_room hrest) hd ⟨hc1, hc2⟩) hS (fun v M' hp H1 locs1 hP1 hS1 => h v M' hp X ls H1 locs1 hl hL hP1 hS1)
end ZH
end
section
theorem gw_660 : (Cond.superclass "MonitorQueuesModel" "java/lang/Object") ∈ GT := gt_t (gt_3 145 (by decide +kernel)) rfl
theorem gw_566 : (Cond.superclass "java/util/NoSuchElementException" "java/lang/RuntimeException") ∈ GT := gt_t (gt_3 51 (by decide +kernel)) rfl
theorem gw_558 : (Cond.fieldLink "java/lang/Throwable" 24 "java/lang/Throwable" "suppressedExceptions" "Ljava/util/List;") ∈ GT := gt_t (gt_3 43 (by decide +kernel)) rfl
theorem gw_557 : (Cond.fieldLink "java/lang/Throwable" 17 "java/lang/Throwable" "stackTrace" "[Ljava/lang/StackTraceElement;") ∈ GT := gt_t (gt_3 42 (by decide +kernel)) rfl
theorem gw_556 : (Cond.fieldLink "java/lang/Throwable" 7 "java/lang/Throwable" "cause" "Ljava/lang/Throwable;") ∈ GT := gt_t (gt_3 41 (by decide +kernel)) rfl
theorem gw_555 : (Cond.fieldLink "java/lang/Throwable" 31 "java/lang/Throwable" "detailMessage" "Ljava/lang/String;") ∈ GT := gt_t (gt_3 40 (by decide +kernel)) rfl
theorem gw_538 : (Cond.instanceMethod ⟨"java/lang/Throwable", "fillInStackTrace", "(I)Ljava/lang/Throwable;"⟩) ∈ GT := gt_t (gt_3 23 (by decide +kernel)) rfl
theorem gw_536 : (Cond.methodLink "java/lang/Throwable" 202 ⟨"java/lang/Throwable", "fillInStackTrace", "(I)Ljava/lang/Throwable;"⟩) ∈ GT := gt_t (gt_3 21 (by decide +kernel)) rfl
theorem gw_535 : (Cond.codeSync ⟨"java/lang/Throwable", "fillInStackTrace", "()Ljava/lang/Throwable;"⟩ prog_17_method_18_code 1 (Option.some (FieldType.object "java/lang/Throwable"))) ∈ GT := gt_t (gt_3 20 (by decide +kernel)) rfl
theorem gw_533 : (Cond.instanceMethod ⟨"java/lang/Throwable", "fillInStackTrace", "()Ljava/lang/Throwable;"⟩) ∈ GT := gt_t (gt_3 18 (by decide +kernel)) rfl
theorem gw_532 : (Cond.methodLink "java/lang/Throwable" 27 ⟨"java/lang/Throwable", "fillInStackTrace", "()Ljava/lang/Throwable;"⟩) ∈ GT := gt_t (gt_3 17 (by decide +kernel)) rfl
theorem gw_530 : (Cond.fieldLink "java/lang/Throwable" 20 "java/lang/Throwable" "SUPPRESSED_SENTINEL" "Ljava/util/List;") ∈ GT := gt_t (gt_3 15 (by decide +kernel)) rfl
theorem gw_528 : (Cond.fieldLink "java/lang/Throwable" 13 "java/lang/Throwable" "UNASSIGNED_STACK" "[Ljava/lang/StackTraceElement;") ∈ GT := gt_t (gt_3 13 (by decide +kernel)) rfl
theorem gw_526 : (Cond.code ⟨"java/lang/Throwable", "<init>", "()V"⟩ prog_17_method_1_code 1 none) ∈ GT := gt_t (gt_3 11 (by decide +kernel)) rfl
theorem gw_525 : (Cond.instanceMethod ⟨"java/lang/Throwable", "<init>", "()V"⟩) ∈ GT := gt_t (gt_3 10 (by decide +kernel)) rfl
theorem gw_524 : (Cond.superclass "java/lang/Throwable" "java/lang/Object") ∈ GT := gt_t (gt_3 9 (by decide +kernel)) rfl
theorem gw_523 : (Cond.fieldLink "java/lang/Throwable" 198 "java/lang/Throwable" "backtrace" "Ljava/lang/Object;") ∈ GT := gt_t (gt_3 8 (by decide +kernel)) rfl
theorem gw_512 : (Cond.selects "java/util/NoSuchElementException" ⟨"java/lang/Throwable", "fillInStackTrace", "()Ljava/lang/Throwable;"⟩ ⟨"java/lang/Throwable", "fillInStackTrace", "()Ljava/lang/Throwable;"⟩) ∈ GT := gt_t (gt_2 237 (by decide +kernel)) rfl
theorem gw_511 : (Cond.selects "java/util/NoSuchElementException" ⟨"java/lang/Throwable", "fillInStackTrace", "(I)Ljava/lang/Throwable;"⟩ ⟨"java/lang/Throwable", "fillInStackTrace", "(I)Ljava/lang/Throwable;"⟩) ∈ GT := gt_t (gt_2 236 (by decide +kernel)) rfl
theorem gw_496 : (Cond.codeWith ⟨"MonitorQueuesLaw", "get", "(LMonitorQueues;II[J)I"⟩ method_3_code 5 (Option.some FieldType.int) [(0, 9, 12, 13)]) ∈ GT := gt_t (gt_2 221 (by decide +kernel)) rfl
theorem gw_495 : (Cond.static ⟨"MonitorQueuesLaw", "get", "(LMonitorQueues;II[J)I"⟩) ∈ GT := gt_t (gt_2 220 (by decide +kernel)) rfl
theorem gw_494 : (Cond.methodLink "MonitorQueuesLaw" 34 ⟨"MonitorQueuesLaw", "get", "(LMonitorQueues;II[J)I"⟩) ∈ GT := gt_t (gt_2 219 (by decide +kernel)) rfl
theorem gw_444 : (Cond.superclass "MonitorQueues$Delay" "java/lang/Object") ∈ GT := gt_t (gt_2 169 (by decide +kernel)) rfl
theorem gw_399 : (Cond.superclass "MonitorQueues$Trigger" "java/lang/Object") ∈ GT := gt_t (gt_2 124 (by decide +kernel)) rfl
theorem gw_308 : (Cond.superclass "MonitorQueues$Task" "java/lang/Object") ∈ GT := gt_t (gt_2 33 (by decide +kernel)) rfl
theorem gw_213 : (Cond.superclass "MonitorQueues$Item" "java/lang/Object") ∈ GT := gt_t (gt_1 178 (by decide +kernel)) rfl
theorem gw_166 : (Cond.superclass "MonitorQueues" "java/lang/Object") ∈ GT := gt_t (gt_1 131 (by decide +kernel)) rfl
theorem gw_141 : (Cond.superclass "MonitorQueues$Queue" "java/lang/Object") ∈ GT := gt_t (gt_1 106 (by decide +kernel)) rfl
theorem gw_102 : (Cond.superclass "java/util/ArrayList" "java/util/AbstractList") ∈ GT := gt_t (gt_1 67 (by decide +kernel)) rfl
theorem gw_89 : (Cond.fieldLink "java/util/ArrayList" 39 "java/util/ArrayList" "DEFAULTCAPACITY_EMPTY_ELEMENTDATA" "[Ljava/lang/Object;") ∈ GT := gt_t (gt_1 54 (by decide +kernel)) rfl
theorem gw_15 : (Cond.selects "java/lang/Throwable" ⟨"java/lang/Throwable", "fillInStackTrace", "(I)Ljava/lang/Throwable;"⟩ ⟨"java/lang/Throwable", "fillInStackTrace", "(I)Ljava/lang/Throwable;"⟩) ∈ GT := gt_s 15 (by decide +kernel) rfl
def T_MQ : u_T := fun k => match k with
  | 0 => ("MonitorQueues", "room", "I", true)
  | 1 => ("MonitorQueues", "queues", "[LMonitorQueues$Queue;", true)
  | 2 => ("MonitorQueues", "tasks", "Ljava/util/ArrayList;", true)
  | 3 => ("MonitorQueues", "waiting", "Ljava/util/ArrayList;", true)
  | 4 => ("MonitorQueues", "tasksGoing", "I", false)
  | 5 => ("MonitorQueues", "lastDelay", "I", false)
  | _ => ("MonitorQueues", "now", "J", false)
def ty_MQ : Nat → FieldType := fun k => match k with
  | 0 => .int
  | 1 => .array (.object "MonitorQueues$Queue")
  | 2 => .object "java/util/ArrayList"
  | 3 => .object "java/util/ArrayList"
  | 4 => .int
  | 5 => .int
  | _ => .long
def T_Qu : u_T := fun k => match k with
  | 0 => ("MonitorQueues$Queue", "items", "Ljava/util/ArrayList;", true)
  | 1 => ("MonitorQueues$Queue", "places", "[I", true)
  | 2 => ("MonitorQueues$Queue", "kind", "I", false)
  | 3 => ("MonitorQueues$Queue", "pending", "I", false)
  | 4 => ("MonitorQueues$Queue", "holder", "I", false)
  | 5 => ("MonitorQueues$Queue", "lastUse", "J", false)
  | 6 => ("MonitorQueues$Queue", "lastNumber", "I", false)
  | 7 => ("MonitorQueues$Queue", "takenNumber", "I", false)
  | 8 => ("MonitorQueues$Queue", "takenValue", "J", false)
  | _ => ("MonitorQueues$Queue", "trigger", "LMonitorQueues$Trigger;", false)
def ty_Qu : Nat → FieldType := fun k => match k with
  | 0 => .object "java/util/ArrayList"
  | 1 => .array .int
  | 2 => .int
  | 3 => .int
  | 4 => .int
  | 5 => .long
  | 6 => .int
  | 7 => .int
  | 8 => .long
  | _ => .object "MonitorQueues$Trigger"
def T_It : u_T := fun k => match k with
  | _ => ("MonitorQueues$Item", "value", "J", false)
def ty_It : Nat → FieldType := fun k => match k with
  | _ => .long
def T_Ta : u_T := fun k => match k with
  | 0 => ("MonitorQueues$Task", "code", "I", true)
  | _ => ("MonitorQueues$Task", "goes", "Z", false)
def ty_Ta : Nat → FieldType := fun k => match k with
  | 0 => .int
  | _ => .boolean
def T_Tr : u_T := fun k => match k with
  | 0 => ("MonitorQueues$Trigger", "needed", "I", true)
  | 1 => ("MonitorQueues$Trigger", "code", "I", true)
  | 2 => ("MonitorQueues$Trigger", "ready", "Z", false)
  | 3 => ("MonitorQueues$Trigger", "task", "I", false)
  | _ => ("MonitorQueues$Trigger", "takenSince", "Z", false)
def ty_Tr : Nat → FieldType := fun k => match k with
  | 0 => .int
  | 1 => .int
  | 2 => .boolean
  | 3 => .int
  | _ => .boolean
def T_De : u_T := fun k => match k with
  | 0 => ("MonitorQueues$Delay", "number", "I", true)
  | 1 => ("MonitorQueues$Delay", "code", "I", true)
  | _ => ("MonitorQueues$Delay", "until", "J", true)
def ty_De : Nat → FieldType := fun k => match k with
  | 0 => .int
  | 1 => .int
  | _ => .long
def T_AL : u_T := fun k => match k with
  | 0 => ("java/util/ArrayList", "elementData", "[Ljava/lang/Object;", false)
  | 1 => ("java/util/ArrayList", "size", "I", false)
  | _ => ("java/util/AbstractList", "modCount", "I", false)
def ty_AL : Nat → FieldType := fun k => match k with
  | 0 => .array (.object "java/lang/Object")
  | 1 => .int
  | _ => .int
def T_Mo : u_T := fun k => match k with
  | 0 => ("MonitorQueuesModel", "code", "I", false)
  | 1 => ("MonitorQueuesModel", "room", "I", true)
  | 2 => ("MonitorQueuesModel", "queueOf", "[I", true)
  | 3 => ("MonitorQueuesModel", "numberOf", "[I", true)
  | 4 => ("MonitorQueuesModel", "unitOf", "[I", true)
  | 5 => ("MonitorQueuesModel", "valueOf", "[J", true)
  | 6 => ("MonitorQueuesModel", "items", "I", false)
  | 7 => ("MonitorQueuesModel", "kind", "[I", true)
  | 8 => ("MonitorQueuesModel", "last", "[I", true)
  | 9 => ("MonitorQueuesModel", "least", "[I", true)
  | 10 => ("MonitorQueuesModel", "codes", "[I", true)
  | 11 => ("MonitorQueuesModel", "going", "[I", true)
  | 12 => ("MonitorQueuesModel", "takenNumber", "[I", true)
  | 13 => ("MonitorQueuesModel", "ready", "[Z", true)
  | 14 => ("MonitorQueuesModel", "took", "[Z", true)
  | 15 => ("MonitorQueuesModel", "used", "[J", true)
  | 16 => ("MonitorQueuesModel", "taken", "[J", true)
  | 17 => ("MonitorQueuesModel", "places", "[I", true)
  | 18 => ("MonitorQueuesModel", "tasks", "[I", true)
  | 19 => ("MonitorQueuesModel", "goes", "[Z", true)
  | 20 => ("MonitorQueuesModel", "begun", "I", false)
  | 21 => ("MonitorQueuesModel", "running", "I", false)
  | 22 => ("MonitorQueuesModel", "now", "J", false)
  | 23 => ("MonitorQueuesModel", "delayNumber", "[I", true)
  | 24 => ("MonitorQueuesModel", "delayCode", "[I", true)
  | 25 => ("MonitorQueuesModel", "delayTime", "[J", true)
  | 26 => ("MonitorQueuesModel", "delays", "I", false)
  | _ => ("MonitorQueuesModel", "delayed", "I", false)
def ty_Mo : Nat → FieldType := fun k => match k with
  | 0 => .int
  | 1 => .int
  | 2 => .array .int
  | 3 => .array .int
  | 4 => .array .int
  | 5 => .array .long
  | 6 => .int
  | 7 => .array .int
  | 8 => .array .int
  | 9 => .array .int
  | 10 => .array .int
  | 11 => .array .int
  | 12 => .array .int
  | 13 => .array .boolean
  | 14 => .array .boolean
  | 15 => .array .long
  | 16 => .array .long
  | 17 => .array .int
  | 18 => .array .int
  | 19 => .array .boolean
  | 20 => .int
  | 21 => .int
  | 22 => .long
  | 23 => .array .int
  | 24 => .array .int
  | 25 => .array .long
  | 26 => .int
  | _ => .int
abbrev vcl : List vw_C := [("MonitorQueues", T_MQ, 7), ("MonitorQueues$Queue", T_Qu, 10), ("MonitorQueues$Item", T_It, 1), ("MonitorQueues$Task", T_Ta, 2), ("MonitorQueues$Trigger", T_Tr, 5), ("MonitorQueues$Delay", T_De, 3), ("java/util/ArrayList", T_AL, 3), ("MonitorQueuesModel", T_Mo, 28)]
abbrev tlx : List FieldType := [.object "java/lang/Object", .int, .long, .boolean, .object "MonitorQueues$Queue"]
theorem zl_MQ : ZL T_MQ 7 ty_MQ := ⟨by decide +kernel, by decide +kernel⟩
theorem in_MQ : ∀ w ∈ u_ws "MonitorQueues" T_MQ 7, w ∈ GT := by
  intro w hw
  obtain ⟨k, hk, rfl⟩ := List.mem_map.mp hw
  have hk := List.mem_range.mp hk
  match k, hk with
  | 0, _ => exact gw_152
  | 1, _ => exact gw_154
  | 2, _ => exact gw_156
  | 3, _ => exact gw_158
  | 4, _ => exact gw_160
  | 5, _ => exact gw_162
  | 6, _ => exact gw_164
  | k + 7, h => exact absurd h (by omega)
theorem zl_Qu : ZL T_Qu 10 ty_Qu := ⟨by decide +kernel, by decide +kernel⟩
theorem in_Qu : ∀ w ∈ u_ws "MonitorQueues$Queue" T_Qu 10, w ∈ GT := by
  intro w hw
  obtain ⟨k, hk, rfl⟩ := List.mem_map.mp hw
  have hk := List.mem_range.mp hk
  match k, hk with
  | 0, _ => exact gw_121
  | 1, _ => exact gw_123
  | 2, _ => exact gw_125
  | 3, _ => exact gw_127
  | 4, _ => exact gw_129
  | 5, _ => exact gw_131
  | 6, _ => exact gw_133
  | 7, _ => exact gw_135
  | 8, _ => exact gw_137
  | 9, _ => exact gw_139
  | k + 10, h => exact absurd h (by omega)
theorem zl_It : ZL T_It 1 ty_It := ⟨by decide +kernel, by decide +kernel⟩
theorem in_It : ∀ w ∈ u_ws "MonitorQueues$Item" T_It 1, w ∈ GT := by
  intro w hw
  obtain ⟨k, hk, rfl⟩ := List.mem_map.mp hw
  have hk := List.mem_range.mp hk
  match k, hk with
  | 0, _ => exact gw_211
  | k + 1, h => exact absurd h (by omega)
theorem zl_Ta : ZL T_Ta 2 ty_Ta := ⟨by decide +kernel, by decide +kernel⟩
theorem in_Ta : ∀ w ∈ u_ws "MonitorQueues$Task" T_Ta 2, w ∈ GT := by
  intro w hw
  obtain ⟨k, hk, rfl⟩ := List.mem_map.mp hw
  have hk := List.mem_range.mp hk
  match k, hk with
  | 0, _ => exact gw_304
  | 1, _ => exact gw_306
  | k + 2, h => exact absurd h (by omega)
theorem zl_Tr : ZL T_Tr 5 ty_Tr := ⟨by decide +kernel, by decide +kernel⟩
theorem in_Tr : ∀ w ∈ u_ws "MonitorQueues$Trigger" T_Tr 5, w ∈ GT := by
  intro w hw
  obtain ⟨k, hk, rfl⟩ := List.mem_map.mp hw
  have hk := List.mem_range.mp hk
  match k, hk with
  | 0, _ => exact gw_389
  | 1, _ => exact gw_391
  | 2, _ => exact gw_393
  | 3, _ => exact gw_395
  | 4, _ => exact gw_397
  | k + 5, h => exact absurd h (by omega)
theorem zl_De : ZL T_De 3 ty_De := ⟨by decide +kernel, by decide +kernel⟩
theorem in_De : ∀ w ∈ u_ws "MonitorQueues$Delay" T_De 3, w ∈ GT := by
  intro w hw
  obtain ⟨k, hk, rfl⟩ := List.mem_map.mp hw
  have hk := List.mem_range.mp hk
  match k, hk with
  | 0, _ => exact gw_438
  | 1, _ => exact gw_440
  | 2, _ => exact gw_442
  | k + 3, h => exact absurd h (by omega)
theorem zl_AL : ZL T_AL 3 ty_AL := ⟨by decide +kernel, by decide +kernel⟩
theorem in_AL : ∀ w ∈ u_ws "java/util/ArrayList" T_AL 3, w ∈ GT := by
  intro w hw
  obtain ⟨k, hk, rfl⟩ := List.mem_map.mp hw
  have hk := List.mem_range.mp hk
  match k, hk with
  | 0, _ => exact gw_96
  | 1, _ => exact gw_98
  | 2, _ => exact gw_100
  | k + 3, h => exact absurd h (by omega)
theorem zl_Mo : ZL T_Mo 28 ty_Mo := ⟨by decide +kernel, by decide +kernel⟩
theorem in_Mo : ∀ w ∈ u_ws "MonitorQueuesModel" T_Mo 28, w ∈ GT := by
  intro w hw
  obtain ⟨k, hk, rfl⟩ := List.mem_map.mp hw
  have hk := List.mem_range.mp hk
  match k, hk with
  | 0, _ => exact gw_604
  | 1, _ => exact gw_606
  | 2, _ => exact gw_608
  | 3, _ => exact gw_610
  | 4, _ => exact gw_612
  | 5, _ => exact gw_614
  | 6, _ => exact gw_616
  | 7, _ => exact gw_618
  | 8, _ => exact gw_620
  | 9, _ => exact gw_622
  | 10, _ => exact gw_624
  | 11, _ => exact gw_626
  | 12, _ => exact gw_628
  | 13, _ => exact gw_630
  | 14, _ => exact gw_632
  | 15, _ => exact gw_634
  | 16, _ => exact gw_636
  | 17, _ => exact gw_638
  | 18, _ => exact gw_640
  | 19, _ => exact gw_642
  | 20, _ => exact gw_644
  | 21, _ => exact gw_646
  | 22, _ => exact gw_648
  | 23, _ => exact gw_650
  | 24, _ => exact gw_652
  | 25, _ => exact gw_654
  | 26, _ => exact gw_656
  | 27, _ => exact gw_658
  | k + 28, h => exact absurd h (by omega)
theorem zf_AL_9 : ZF vcl GT "java/util/ArrayList" 9 6 0 := ⟨_, T_AL, 3, "java/util/ArrayList", rfl, by decide, in_AL, gw_91, Or.inl rfl⟩
theorem zp_AL_9 : ZFp vcl GT "java/util/ArrayList" 9 6 0 false (.array (.object "java/lang/Object")) := ⟨_, T_AL, 3, "java/util/ArrayList", ty_AL, rfl, by decide, in_AL, gw_91, Or.inl rfl, zl_AL, rfl, rfl, fun _ => by simp_all⟩
theorem zf_AL_48 : ZF vcl GT "java/util/ArrayList" 48 6 1 := ⟨_, T_AL, 3, "java/util/ArrayList", rfl, by decide, in_AL, gw_92, Or.inl rfl⟩
theorem zp_AL_48 : ZFp vcl GT "java/util/ArrayList" 48 6 1 false (.int) := ⟨_, T_AL, 3, "java/util/ArrayList", ty_AL, rfl, by decide, in_AL, gw_92, Or.inl rfl, zl_AL, rfl, rfl, fun _ => by simp_all⟩
theorem zf_AB_7 : ZF vcl GT "java/util/AbstractList" 7 6 2 := ⟨_, T_AL, 3, "java/util/AbstractList", rfl, by decide, in_AL, gw_93, Or.inl rfl⟩
theorem zp_AB_7 : ZFp vcl GT "java/util/AbstractList" 7 6 2 false (.int) := ⟨_, T_AL, 3, "java/util/AbstractList", ty_AL, rfl, by decide, in_AL, gw_93, Or.inl rfl, zl_AL, rfl, rfl, fun _ => by simp_all⟩
theorem zf_AL_63 : ZF vcl GT "java/util/ArrayList" 63 6 2 := ⟨_, T_AL, 3, "java/util/ArrayList", rfl, by decide, in_AL, gw_94, Or.inr gw_95⟩
theorem zp_AL_63 : ZFp vcl GT "java/util/ArrayList" 63 6 2 false (.int) := ⟨_, T_AL, 3, "java/util/ArrayList", ty_AL, rfl, by decide, in_AL, gw_94, Or.inr gw_95, zl_AL, rfl, rfl, fun _ => by simp_all⟩
theorem zf_Qu_12 : ZF vcl GT "MonitorQueues$Queue" 12 1 0 := ⟨_, T_Qu, 10, "MonitorQueues$Queue", rfl, by decide, in_Qu, gw_103, Or.inl rfl⟩
theorem zp_Qu_12 : ZFp vcl GT "MonitorQueues$Queue" 12 1 0 true (.object "java/util/ArrayList") := ⟨_, T_Qu, 10, "MonitorQueues$Queue", ty_Qu, rfl, by decide, in_Qu, gw_103, Or.inl rfl, zl_Qu, rfl, rfl, fun _ => rfl⟩
theorem zf_MQ_87 : ZF vcl GT "MonitorQueues" 87 1 0 := ⟨_, T_Qu, 10, "MonitorQueues$Queue", rfl, by decide, in_Qu, gw_104, Or.inl rfl⟩
theorem zf_Qu_18 : ZF vcl GT "MonitorQueues$Queue" 18 1 1 := ⟨_, T_Qu, 10, "MonitorQueues$Queue", rfl, by decide, in_Qu, gw_105, Or.inl rfl⟩
theorem zp_Qu_18 : ZFp vcl GT "MonitorQueues$Queue" 18 1 1 true (.array .int) := ⟨_, T_Qu, 10, "MonitorQueues$Queue", ty_Qu, rfl, by decide, in_Qu, gw_105, Or.inl rfl, zl_Qu, rfl, rfl, fun _ => rfl⟩
theorem zf_MQ_110 : ZF vcl GT "MonitorQueues" 110 1 1 := ⟨_, T_Qu, 10, "MonitorQueues$Queue", rfl, by decide, in_Qu, gw_106, Or.inl rfl⟩
theorem zf_Qu_22 : ZF vcl GT "MonitorQueues$Queue" 22 1 2 := ⟨_, T_Qu, 10, "MonitorQueues$Queue", rfl, by decide, in_Qu, gw_107, Or.inl rfl⟩
theorem zp_Qu_22 : ZFp vcl GT "MonitorQueues$Queue" 22 1 2 false (.int) := ⟨_, T_Qu, 10, "MonitorQueues$Queue", ty_Qu, rfl, by decide, in_Qu, gw_107, Or.inl rfl, zl_Qu, rfl, rfl, fun _ => by simp_all⟩
theorem zf_MQ_185 : ZF vcl GT "MonitorQueues" 185 1 2 := ⟨_, T_Qu, 10, "MonitorQueues$Queue", rfl, by decide, in_Qu, gw_108, Or.inl rfl⟩
theorem zp_MQ_185 : ZFp vcl GT "MonitorQueues" 185 1 2 false (.int) := ⟨_, T_Qu, 10, "MonitorQueues$Queue", ty_Qu, rfl, by decide, in_Qu, gw_108, Or.inl rfl, zl_Qu, rfl, rfl, fun _ => by simp_all⟩
theorem zf_Qu_30 : ZF vcl GT "MonitorQueues$Queue" 30 1 3 := ⟨_, T_Qu, 10, "MonitorQueues$Queue", rfl, by decide, in_Qu, gw_109, Or.inl rfl⟩
theorem zp_Qu_30 : ZFp vcl GT "MonitorQueues$Queue" 30 1 3 false (.int) := ⟨_, T_Qu, 10, "MonitorQueues$Queue", ty_Qu, rfl, by decide, in_Qu, gw_109, Or.inl rfl, zl_Qu, rfl, rfl, fun _ => by simp_all⟩
theorem zf_MQ_50 : ZF vcl GT "MonitorQueues" 50 1 4 := ⟨_, T_Qu, 10, "MonitorQueues$Queue", rfl, by decide, in_Qu, gw_110, Or.inl rfl⟩
theorem zp_MQ_50 : ZFp vcl GT "MonitorQueues" 50 1 4 false (.int) := ⟨_, T_Qu, 10, "MonitorQueues$Queue", ty_Qu, rfl, by decide, in_Qu, gw_110, Or.inl rfl, zl_Qu, rfl, rfl, fun _ => by simp_all⟩
theorem zf_Qu_57 : ZF vcl GT "MonitorQueues$Queue" 57 1 4 := ⟨_, T_Qu, 10, "MonitorQueues$Queue", rfl, by decide, in_Qu, gw_111, Or.inl rfl⟩
theorem zp_Qu_57 : ZFp vcl GT "MonitorQueues$Queue" 57 1 4 false (.int) := ⟨_, T_Qu, 10, "MonitorQueues$Queue", ty_Qu, rfl, by decide, in_Qu, gw_111, Or.inl rfl, zl_Qu, rfl, rfl, fun _ => by simp_all⟩
theorem zf_Qu_41 : ZF vcl GT "MonitorQueues$Queue" 41 1 5 := ⟨_, T_Qu, 10, "MonitorQueues$Queue", rfl, by decide, in_Qu, gw_112, Or.inl rfl⟩
theorem zp_Qu_41 : ZFp vcl GT "MonitorQueues$Queue" 41 1 5 false (.long) := ⟨_, T_Qu, 10, "MonitorQueues$Queue", ty_Qu, rfl, by decide, in_Qu, gw_112, Or.inl rfl, zl_Qu, rfl, rfl, fun _ => by simp_all⟩
theorem zf_MQ_179 : ZF vcl GT "MonitorQueues" 179 1 5 := ⟨_, T_Qu, 10, "MonitorQueues$Queue", rfl, by decide, in_Qu, gw_113, Or.inl rfl⟩
theorem zp_MQ_179 : ZFp vcl GT "MonitorQueues" 179 1 5 false (.long) := ⟨_, T_Qu, 10, "MonitorQueues$Queue", ty_Qu, rfl, by decide, in_Qu, gw_113, Or.inl rfl, zl_Qu, rfl, rfl, fun _ => by simp_all⟩
theorem zf_Qu_64 : ZF vcl GT "MonitorQueues$Queue" 64 1 6 := ⟨_, T_Qu, 10, "MonitorQueues$Queue", rfl, by decide, in_Qu, gw_114, Or.inl rfl⟩
theorem zp_Qu_64 : ZFp vcl GT "MonitorQueues$Queue" 64 1 6 false (.int) := ⟨_, T_Qu, 10, "MonitorQueues$Queue", ty_Qu, rfl, by decide, in_Qu, gw_114, Or.inl rfl, zl_Qu, rfl, rfl, fun _ => by simp_all⟩
theorem zf_MQ_99 : ZF vcl GT "MonitorQueues" 99 1 7 := ⟨_, T_Qu, 10, "MonitorQueues$Queue", rfl, by decide, in_Qu, gw_115, Or.inl rfl⟩
theorem zp_MQ_99 : ZFp vcl GT "MonitorQueues" 99 1 7 false (.int) := ⟨_, T_Qu, 10, "MonitorQueues$Queue", ty_Qu, rfl, by decide, in_Qu, gw_115, Or.inl rfl, zl_Qu, rfl, rfl, fun _ => by simp_all⟩
theorem zf_Qu_70 : ZF vcl GT "MonitorQueues$Queue" 70 1 7 := ⟨_, T_Qu, 10, "MonitorQueues$Queue", rfl, by decide, in_Qu, gw_116, Or.inl rfl⟩
theorem zp_Qu_70 : ZFp vcl GT "MonitorQueues$Queue" 70 1 7 false (.int) := ⟨_, T_Qu, 10, "MonitorQueues$Queue", ty_Qu, rfl, by decide, in_Qu, gw_116, Or.inl rfl, zl_Qu, rfl, rfl, fun _ => by simp_all⟩
theorem zf_MQ_104 : ZF vcl GT "MonitorQueues" 104 1 8 := ⟨_, T_Qu, 10, "MonitorQueues$Queue", rfl, by decide, in_Qu, gw_117, Or.inl rfl⟩
theorem zp_MQ_104 : ZFp vcl GT "MonitorQueues" 104 1 8 false (.long) := ⟨_, T_Qu, 10, "MonitorQueues$Queue", ty_Qu, rfl, by decide, in_Qu, gw_117, Or.inl rfl, zl_Qu, rfl, rfl, fun _ => by simp_all⟩
theorem zf_Qu_80 : ZF vcl GT "MonitorQueues$Queue" 80 1 8 := ⟨_, T_Qu, 10, "MonitorQueues$Queue", rfl, by decide, in_Qu, gw_118, Or.inl rfl⟩
theorem zp_Qu_80 : ZFp vcl GT "MonitorQueues$Queue" 80 1 8 false (.long) := ⟨_, T_Qu, 10, "MonitorQueues$Queue", ty_Qu, rfl, by decide, in_Qu, gw_118, Or.inl rfl, zl_Qu, rfl, rfl, fun _ => by simp_all⟩
theorem zf_MQ_128 : ZF vcl GT "MonitorQueues" 128 1 9 := ⟨_, T_Qu, 10, "MonitorQueues$Queue", rfl, by decide, in_Qu, gw_119, Or.inl rfl⟩
theorem zp_MQ_128 : ZFp vcl GT "MonitorQueues" 128 1 9 false (.object "MonitorQueues$Trigger") := ⟨_, T_Qu, 10, "MonitorQueues$Queue", ty_Qu, rfl, by decide, in_Qu, gw_119, Or.inl rfl, zl_Qu, rfl, rfl, fun _ => by simp_all⟩
theorem zf_Qu_37 : ZF vcl GT "MonitorQueues$Queue" 37 1 9 := ⟨_, T_Qu, 10, "MonitorQueues$Queue", rfl, by decide, in_Qu, gw_120, Or.inl rfl⟩
theorem zp_Qu_37 : ZFp vcl GT "MonitorQueues$Queue" 37 1 9 false (.object "MonitorQueues$Trigger") := ⟨_, T_Qu, 10, "MonitorQueues$Queue", ty_Qu, rfl, by decide, in_Qu, gw_120, Or.inl rfl, zl_Qu, rfl, rfl, fun _ => by simp_all⟩
theorem zf_MQ_18 : ZF vcl GT "MonitorQueues" 18 0 0 := ⟨_, T_MQ, 7, "MonitorQueues", rfl, by decide, in_MQ, gw_145, Or.inl rfl⟩
theorem zp_MQ_18 : ZFp vcl GT "MonitorQueues" 18 0 0 true (.int) := ⟨_, T_MQ, 7, "MonitorQueues", ty_MQ, rfl, by decide, in_MQ, gw_145, Or.inl rfl, zl_MQ, rfl, rfl, fun _ => rfl⟩
theorem zf_MQ_24 : ZF vcl GT "MonitorQueues" 24 0 1 := ⟨_, T_MQ, 7, "MonitorQueues", rfl, by decide, in_MQ, gw_146, Or.inl rfl⟩
theorem zp_MQ_24 : ZFp vcl GT "MonitorQueues" 24 0 1 true (.array (.object "MonitorQueues$Queue")) := ⟨_, T_MQ, 7, "MonitorQueues", ty_MQ, rfl, by decide, in_MQ, gw_146, Or.inl rfl, zl_MQ, rfl, rfl, fun _ => rfl⟩
theorem zf_MQ_32 : ZF vcl GT "MonitorQueues" 32 0 2 := ⟨_, T_MQ, 7, "MonitorQueues", rfl, by decide, in_MQ, gw_147, Or.inl rfl⟩
theorem zp_MQ_32 : ZFp vcl GT "MonitorQueues" 32 0 2 true (.object "java/util/ArrayList") := ⟨_, T_MQ, 7, "MonitorQueues", ty_MQ, rfl, by decide, in_MQ, gw_147, Or.inl rfl, zl_MQ, rfl, rfl, fun _ => rfl⟩
theorem zf_MQ_36 : ZF vcl GT "MonitorQueues" 36 0 3 := ⟨_, T_MQ, 7, "MonitorQueues", rfl, by decide, in_MQ, gw_148, Or.inl rfl⟩
theorem zp_MQ_36 : ZFp vcl GT "MonitorQueues" 36 0 3 true (.object "java/util/ArrayList") := ⟨_, T_MQ, 7, "MonitorQueues", ty_MQ, rfl, by decide, in_MQ, gw_148, Or.inl rfl, zl_MQ, rfl, rfl, fun _ => rfl⟩
theorem zf_MQ_144 : ZF vcl GT "MonitorQueues" 144 0 4 := ⟨_, T_MQ, 7, "MonitorQueues", rfl, by decide, in_MQ, gw_149, Or.inl rfl⟩
theorem zp_MQ_144 : ZFp vcl GT "MonitorQueues" 144 0 4 false (.int) := ⟨_, T_MQ, 7, "MonitorQueues", ty_MQ, rfl, by decide, in_MQ, gw_149, Or.inl rfl, zl_MQ, rfl, rfl, fun _ => by simp_all⟩
theorem zf_MQ_154 : ZF vcl GT "MonitorQueues" 154 0 5 := ⟨_, T_MQ, 7, "MonitorQueues", rfl, by decide, in_MQ, gw_150, Or.inl rfl⟩
theorem zp_MQ_154 : ZFp vcl GT "MonitorQueues" 154 0 5 false (.int) := ⟨_, T_MQ, 7, "MonitorQueues", ty_MQ, rfl, by decide, in_MQ, gw_150, Or.inl rfl, zl_MQ, rfl, rfl, fun _ => by simp_all⟩
theorem zf_MQ_57 : ZF vcl GT "MonitorQueues" 57 0 6 := ⟨_, T_MQ, 7, "MonitorQueues", rfl, by decide, in_MQ, gw_151, Or.inl rfl⟩
theorem zp_MQ_57 : ZFp vcl GT "MonitorQueues" 57 0 6 false (.long) := ⟨_, T_MQ, 7, "MonitorQueues", ty_MQ, rfl, by decide, in_MQ, gw_151, Or.inl rfl, zl_MQ, rfl, rfl, fun _ => by simp_all⟩
theorem zf_It_7 : ZF vcl GT "MonitorQueues$Item" 7 2 0 := ⟨_, T_It, 1, "MonitorQueues$Item", rfl, by decide, in_It, gw_208, Or.inl rfl⟩
theorem zp_It_7 : ZFp vcl GT "MonitorQueues$Item" 7 2 0 false (.long) := ⟨_, T_It, 1, "MonitorQueues$Item", ty_It, rfl, by decide, in_It, gw_208, Or.inl rfl, zl_It, rfl, rfl, fun _ => by simp_all⟩
theorem zf_MQ_96 : ZF vcl GT "MonitorQueues" 96 2 0 := ⟨_, T_It, 1, "MonitorQueues$Item", rfl, by decide, in_It, gw_209, Or.inl rfl⟩
theorem zp_MQ_96 : ZFp vcl GT "MonitorQueues" 96 2 0 false (.long) := ⟨_, T_It, 1, "MonitorQueues$Item", ty_It, rfl, by decide, in_It, gw_209, Or.inl rfl, zl_It, rfl, rfl, fun _ => by simp_all⟩
theorem zf_Qu_77 : ZF vcl GT "MonitorQueues$Queue" 77 2 0 := ⟨_, T_It, 1, "MonitorQueues$Item", rfl, by decide, in_It, gw_210, Or.inl rfl⟩
theorem zp_Qu_77 : ZFp vcl GT "MonitorQueues$Queue" 77 2 0 false (.long) := ⟨_, T_It, 1, "MonitorQueues$Item", ty_It, rfl, by decide, in_It, gw_210, Or.inl rfl, zl_It, rfl, rfl, fun _ => by simp_all⟩
theorem zf_Ta_7 : ZF vcl GT "MonitorQueues$Task" 7 3 0 := ⟨_, T_Ta, 2, "MonitorQueues$Task", rfl, by decide, in_Ta, gw_300, Or.inl rfl⟩
theorem zp_Ta_7 : ZFp vcl GT "MonitorQueues$Task" 7 3 0 true (.int) := ⟨_, T_Ta, 2, "MonitorQueues$Task", ty_Ta, rfl, by decide, in_Ta, gw_300, Or.inl rfl, zl_Ta, rfl, rfl, fun _ => rfl⟩
theorem zf_MQ_137 : ZF vcl GT "MonitorQueues" 137 3 0 := ⟨_, T_Ta, 2, "MonitorQueues$Task", rfl, by decide, in_Ta, gw_301, Or.inl rfl⟩
theorem zf_Ta_13 : ZF vcl GT "MonitorQueues$Task" 13 3 1 := ⟨_, T_Ta, 2, "MonitorQueues$Task", rfl, by decide, in_Ta, gw_302, Or.inl rfl⟩
theorem zp_Ta_13 : ZFp vcl GT "MonitorQueues$Task" 13 3 1 false (.boolean) := ⟨_, T_Ta, 2, "MonitorQueues$Task", ty_Ta, rfl, by decide, in_Ta, gw_302, Or.inl rfl, zl_Ta, rfl, rfl, fun _ => by simp_all⟩
theorem zf_MQ_140 : ZF vcl GT "MonitorQueues" 140 3 1 := ⟨_, T_Ta, 2, "MonitorQueues$Task", rfl, by decide, in_Ta, gw_303, Or.inl rfl⟩
theorem zp_MQ_140 : ZFp vcl GT "MonitorQueues" 140 3 1 false (.boolean) := ⟨_, T_Ta, 2, "MonitorQueues$Task", ty_Ta, rfl, by decide, in_Ta, gw_303, Or.inl rfl, zl_Ta, rfl, rfl, fun _ => by simp_all⟩
theorem zf_Tr_7 : ZF vcl GT "MonitorQueues$Trigger" 7 4 0 := ⟨_, T_Tr, 5, "MonitorQueues$Trigger", rfl, by decide, in_Tr, gw_380, Or.inl rfl⟩
theorem zp_Tr_7 : ZFp vcl GT "MonitorQueues$Trigger" 7 4 0 true (.int) := ⟨_, T_Tr, 5, "MonitorQueues$Trigger", ty_Tr, rfl, by decide, in_Tr, gw_380, Or.inl rfl, zl_Tr, rfl, rfl, fun _ => rfl⟩
theorem zf_MQ_209 : ZF vcl GT "MonitorQueues" 209 4 0 := ⟨_, T_Tr, 5, "MonitorQueues$Trigger", rfl, by decide, in_Tr, gw_381, Or.inl rfl⟩
theorem zf_Tr_13 : ZF vcl GT "MonitorQueues$Trigger" 13 4 1 := ⟨_, T_Tr, 5, "MonitorQueues$Trigger", rfl, by decide, in_Tr, gw_382, Or.inl rfl⟩
theorem zp_Tr_13 : ZFp vcl GT "MonitorQueues$Trigger" 13 4 1 true (.int) := ⟨_, T_Tr, 5, "MonitorQueues$Trigger", ty_Tr, rfl, by decide, in_Tr, gw_382, Or.inl rfl, zl_Tr, rfl, rfl, fun _ => rfl⟩
theorem zf_MQ_195 : ZF vcl GT "MonitorQueues" 195 4 1 := ⟨_, T_Tr, 5, "MonitorQueues$Trigger", rfl, by decide, in_Tr, gw_383, Or.inl rfl⟩
theorem zf_Tr_16 : ZF vcl GT "MonitorQueues$Trigger" 16 4 2 := ⟨_, T_Tr, 5, "MonitorQueues$Trigger", rfl, by decide, in_Tr, gw_384, Or.inl rfl⟩
theorem zp_Tr_16 : ZFp vcl GT "MonitorQueues$Trigger" 16 4 2 false (.boolean) := ⟨_, T_Tr, 5, "MonitorQueues$Trigger", ty_Tr, rfl, by decide, in_Tr, gw_384, Or.inl rfl, zl_Tr, rfl, rfl, fun _ => by simp_all⟩
theorem zf_MQ_212 : ZF vcl GT "MonitorQueues" 212 4 2 := ⟨_, T_Tr, 5, "MonitorQueues$Trigger", rfl, by decide, in_Tr, gw_385, Or.inl rfl⟩
theorem zp_MQ_212 : ZFp vcl GT "MonitorQueues" 212 4 2 false (.boolean) := ⟨_, T_Tr, 5, "MonitorQueues$Trigger", ty_Tr, rfl, by decide, in_Tr, gw_385, Or.inl rfl, zl_Tr, rfl, rfl, fun _ => by simp_all⟩
theorem zf_MQ_199 : ZF vcl GT "MonitorQueues" 199 4 3 := ⟨_, T_Tr, 5, "MonitorQueues$Trigger", rfl, by decide, in_Tr, gw_386, Or.inl rfl⟩
theorem zp_MQ_199 : ZFp vcl GT "MonitorQueues" 199 4 3 false (.int) := ⟨_, T_Tr, 5, "MonitorQueues$Trigger", ty_Tr, rfl, by decide, in_Tr, gw_386, Or.inl rfl, zl_Tr, rfl, rfl, fun _ => by simp_all⟩
theorem zf_Qu_86 : ZF vcl GT "MonitorQueues$Queue" 86 4 4 := ⟨_, T_Tr, 5, "MonitorQueues$Trigger", rfl, by decide, in_Tr, gw_387, Or.inl rfl⟩
theorem zp_Qu_86 : ZFp vcl GT "MonitorQueues$Queue" 86 4 4 false (.boolean) := ⟨_, T_Tr, 5, "MonitorQueues$Trigger", ty_Tr, rfl, by decide, in_Tr, gw_387, Or.inl rfl, zl_Tr, rfl, rfl, fun _ => by simp_all⟩
theorem zf_MQ_202 : ZF vcl GT "MonitorQueues" 202 4 4 := ⟨_, T_Tr, 5, "MonitorQueues$Trigger", rfl, by decide, in_Tr, gw_388, Or.inl rfl⟩
theorem zp_MQ_202 : ZFp vcl GT "MonitorQueues" 202 4 4 false (.boolean) := ⟨_, T_Tr, 5, "MonitorQueues$Trigger", ty_Tr, rfl, by decide, in_Tr, gw_388, Or.inl rfl, zl_Tr, rfl, rfl, fun _ => by simp_all⟩
theorem zf_De_7 : ZF vcl GT "MonitorQueues$Delay" 7 5 0 := ⟨_, T_De, 3, "MonitorQueues$Delay", rfl, by decide, in_De, gw_432, Or.inl rfl⟩
theorem zp_De_7 : ZFp vcl GT "MonitorQueues$Delay" 7 5 0 true (.int) := ⟨_, T_De, 3, "MonitorQueues$Delay", ty_De, rfl, by decide, in_De, gw_432, Or.inl rfl, zl_De, rfl, rfl, fun _ => rfl⟩
theorem zf_MQ_169 : ZF vcl GT "MonitorQueues" 169 5 0 := ⟨_, T_De, 3, "MonitorQueues$Delay", rfl, by decide, in_De, gw_433, Or.inl rfl⟩
theorem zf_De_13 : ZF vcl GT "MonitorQueues$Delay" 13 5 1 := ⟨_, T_De, 3, "MonitorQueues$Delay", rfl, by decide, in_De, gw_434, Or.inl rfl⟩
theorem zp_De_13 : ZFp vcl GT "MonitorQueues$Delay" 13 5 1 true (.int) := ⟨_, T_De, 3, "MonitorQueues$Delay", ty_De, rfl, by decide, in_De, gw_434, Or.inl rfl, zl_De, rfl, rfl, fun _ => rfl⟩
theorem zf_MQ_225 : ZF vcl GT "MonitorQueues" 225 5 1 := ⟨_, T_De, 3, "MonitorQueues$Delay", rfl, by decide, in_De, gw_435, Or.inl rfl⟩
theorem zf_De_16 : ZF vcl GT "MonitorQueues$Delay" 16 5 2 := ⟨_, T_De, 3, "MonitorQueues$Delay", rfl, by decide, in_De, gw_436, Or.inl rfl⟩
theorem zp_De_16 : ZFp vcl GT "MonitorQueues$Delay" 16 5 2 true (.long) := ⟨_, T_De, 3, "MonitorQueues$Delay", ty_De, rfl, by decide, in_De, gw_436, Or.inl rfl, zl_De, rfl, rfl, fun _ => rfl⟩
theorem zf_MQ_219 : ZF vcl GT "MonitorQueues" 219 5 2 := ⟨_, T_De, 3, "MonitorQueues$Delay", rfl, by decide, in_De, gw_437, Or.inl rfl⟩
theorem zf_Mo_76 : ZF vcl GT "MonitorQueuesModel" 76 7 0 := ⟨_, T_Mo, 28, "MonitorQueuesModel", rfl, by decide, in_Mo, gw_576, Or.inl rfl⟩
theorem zp_Mo_76 : ZFp vcl GT "MonitorQueuesModel" 76 7 0 false (.int) := ⟨_, T_Mo, 28, "MonitorQueuesModel", ty_Mo, rfl, by decide, in_Mo, gw_576, Or.inl rfl, zl_Mo, rfl, rfl, fun _ => by simp_all⟩
theorem zf_Mo_72 : ZF vcl GT "MonitorQueuesModel" 72 7 1 := ⟨_, T_Mo, 28, "MonitorQueuesModel", rfl, by decide, in_Mo, gw_577, Or.inl rfl⟩
theorem zp_Mo_72 : ZFp vcl GT "MonitorQueuesModel" 72 7 1 true (.int) := ⟨_, T_Mo, 28, "MonitorQueuesModel", ty_Mo, rfl, by decide, in_Mo, gw_577, Or.inl rfl, zl_Mo, rfl, rfl, fun _ => rfl⟩
theorem zf_Mo_7 : ZF vcl GT "MonitorQueuesModel" 7 7 2 := ⟨_, T_Mo, 28, "MonitorQueuesModel", rfl, by decide, in_Mo, gw_578, Or.inl rfl⟩
theorem zp_Mo_7 : ZFp vcl GT "MonitorQueuesModel" 7 7 2 true (.array .int) := ⟨_, T_Mo, 28, "MonitorQueuesModel", ty_Mo, rfl, by decide, in_Mo, gw_578, Or.inl rfl, zl_Mo, rfl, rfl, fun _ => rfl⟩
theorem zf_Mo_13 : ZF vcl GT "MonitorQueuesModel" 13 7 3 := ⟨_, T_Mo, 28, "MonitorQueuesModel", rfl, by decide, in_Mo, gw_579, Or.inl rfl⟩
theorem zp_Mo_13 : ZFp vcl GT "MonitorQueuesModel" 13 7 3 true (.array .int) := ⟨_, T_Mo, 28, "MonitorQueuesModel", ty_Mo, rfl, by decide, in_Mo, gw_579, Or.inl rfl, zl_Mo, rfl, rfl, fun _ => rfl⟩
theorem zf_Mo_16 : ZF vcl GT "MonitorQueuesModel" 16 7 4 := ⟨_, T_Mo, 28, "MonitorQueuesModel", rfl, by decide, in_Mo, gw_580, Or.inl rfl⟩
theorem zp_Mo_16 : ZFp vcl GT "MonitorQueuesModel" 16 7 4 true (.array .int) := ⟨_, T_Mo, 28, "MonitorQueuesModel", ty_Mo, rfl, by decide, in_Mo, gw_580, Or.inl rfl, zl_Mo, rfl, rfl, fun _ => rfl⟩
theorem zf_Mo_19 : ZF vcl GT "MonitorQueuesModel" 19 7 5 := ⟨_, T_Mo, 28, "MonitorQueuesModel", rfl, by decide, in_Mo, gw_581, Or.inl rfl⟩
theorem zp_Mo_19 : ZFp vcl GT "MonitorQueuesModel" 19 7 5 true (.array .long) := ⟨_, T_Mo, 28, "MonitorQueuesModel", ty_Mo, rfl, by decide, in_Mo, gw_581, Or.inl rfl, zl_Mo, rfl, rfl, fun _ => rfl⟩
theorem zf_Mo_79 : ZF vcl GT "MonitorQueuesModel" 79 7 6 := ⟨_, T_Mo, 28, "MonitorQueuesModel", rfl, by decide, in_Mo, gw_582, Or.inl rfl⟩
theorem zp_Mo_79 : ZFp vcl GT "MonitorQueuesModel" 79 7 6 false (.int) := ⟨_, T_Mo, 28, "MonitorQueuesModel", ty_Mo, rfl, by decide, in_Mo, gw_582, Or.inl rfl, zl_Mo, rfl, rfl, fun _ => by simp_all⟩
theorem zf_Mo_23 : ZF vcl GT "MonitorQueuesModel" 23 7 7 := ⟨_, T_Mo, 28, "MonitorQueuesModel", rfl, by decide, in_Mo, gw_583, Or.inl rfl⟩
theorem zp_Mo_23 : ZFp vcl GT "MonitorQueuesModel" 23 7 7 true (.array .int) := ⟨_, T_Mo, 28, "MonitorQueuesModel", ty_Mo, rfl, by decide, in_Mo, gw_583, Or.inl rfl, zl_Mo, rfl, rfl, fun _ => rfl⟩
theorem zf_Mo_26 : ZF vcl GT "MonitorQueuesModel" 26 7 8 := ⟨_, T_Mo, 28, "MonitorQueuesModel", rfl, by decide, in_Mo, gw_584, Or.inl rfl⟩
theorem zp_Mo_26 : ZFp vcl GT "MonitorQueuesModel" 26 7 8 true (.array .int) := ⟨_, T_Mo, 28, "MonitorQueuesModel", ty_Mo, rfl, by decide, in_Mo, gw_584, Or.inl rfl, zl_Mo, rfl, rfl, fun _ => rfl⟩
theorem zf_Mo_29 : ZF vcl GT "MonitorQueuesModel" 29 7 9 := ⟨_, T_Mo, 28, "MonitorQueuesModel", rfl, by decide, in_Mo, gw_585, Or.inl rfl⟩
theorem zp_Mo_29 : ZFp vcl GT "MonitorQueuesModel" 29 7 9 true (.array .int) := ⟨_, T_Mo, 28, "MonitorQueuesModel", ty_Mo, rfl, by decide, in_Mo, gw_585, Or.inl rfl, zl_Mo, rfl, rfl, fun _ => rfl⟩
theorem zf_Mo_32 : ZF vcl GT "MonitorQueuesModel" 32 7 10 := ⟨_, T_Mo, 28, "MonitorQueuesModel", rfl, by decide, in_Mo, gw_586, Or.inl rfl⟩
theorem zp_Mo_32 : ZFp vcl GT "MonitorQueuesModel" 32 7 10 true (.array .int) := ⟨_, T_Mo, 28, "MonitorQueuesModel", ty_Mo, rfl, by decide, in_Mo, gw_586, Or.inl rfl, zl_Mo, rfl, rfl, fun _ => rfl⟩
theorem zf_Mo_35 : ZF vcl GT "MonitorQueuesModel" 35 7 11 := ⟨_, T_Mo, 28, "MonitorQueuesModel", rfl, by decide, in_Mo, gw_587, Or.inl rfl⟩
theorem zp_Mo_35 : ZFp vcl GT "MonitorQueuesModel" 35 7 11 true (.array .int) := ⟨_, T_Mo, 28, "MonitorQueuesModel", ty_Mo, rfl, by decide, in_Mo, gw_587, Or.inl rfl, zl_Mo, rfl, rfl, fun _ => rfl⟩
theorem zf_Mo_38 : ZF vcl GT "MonitorQueuesModel" 38 7 12 := ⟨_, T_Mo, 28, "MonitorQueuesModel", rfl, by decide, in_Mo, gw_588, Or.inl rfl⟩
theorem zp_Mo_38 : ZFp vcl GT "MonitorQueuesModel" 38 7 12 true (.array .int) := ⟨_, T_Mo, 28, "MonitorQueuesModel", ty_Mo, rfl, by decide, in_Mo, gw_588, Or.inl rfl, zl_Mo, rfl, rfl, fun _ => rfl⟩
theorem zf_Mo_41 : ZF vcl GT "MonitorQueuesModel" 41 7 13 := ⟨_, T_Mo, 28, "MonitorQueuesModel", rfl, by decide, in_Mo, gw_589, Or.inl rfl⟩
theorem zp_Mo_41 : ZFp vcl GT "MonitorQueuesModel" 41 7 13 true (.array .boolean) := ⟨_, T_Mo, 28, "MonitorQueuesModel", ty_Mo, rfl, by decide, in_Mo, gw_589, Or.inl rfl, zl_Mo, rfl, rfl, fun _ => rfl⟩
theorem zf_Mo_45 : ZF vcl GT "MonitorQueuesModel" 45 7 14 := ⟨_, T_Mo, 28, "MonitorQueuesModel", rfl, by decide, in_Mo, gw_590, Or.inl rfl⟩
theorem zp_Mo_45 : ZFp vcl GT "MonitorQueuesModel" 45 7 14 true (.array .boolean) := ⟨_, T_Mo, 28, "MonitorQueuesModel", ty_Mo, rfl, by decide, in_Mo, gw_590, Or.inl rfl, zl_Mo, rfl, rfl, fun _ => rfl⟩
theorem zf_Mo_48 : ZF vcl GT "MonitorQueuesModel" 48 7 15 := ⟨_, T_Mo, 28, "MonitorQueuesModel", rfl, by decide, in_Mo, gw_591, Or.inl rfl⟩
theorem zp_Mo_48 : ZFp vcl GT "MonitorQueuesModel" 48 7 15 true (.array .long) := ⟨_, T_Mo, 28, "MonitorQueuesModel", ty_Mo, rfl, by decide, in_Mo, gw_591, Or.inl rfl, zl_Mo, rfl, rfl, fun _ => rfl⟩
theorem zf_Mo_51 : ZF vcl GT "MonitorQueuesModel" 51 7 16 := ⟨_, T_Mo, 28, "MonitorQueuesModel", rfl, by decide, in_Mo, gw_592, Or.inl rfl⟩
theorem zp_Mo_51 : ZFp vcl GT "MonitorQueuesModel" 51 7 16 true (.array .long) := ⟨_, T_Mo, 28, "MonitorQueuesModel", ty_Mo, rfl, by decide, in_Mo, gw_592, Or.inl rfl, zl_Mo, rfl, rfl, fun _ => rfl⟩
theorem zf_Mo_54 : ZF vcl GT "MonitorQueuesModel" 54 7 17 := ⟨_, T_Mo, 28, "MonitorQueuesModel", rfl, by decide, in_Mo, gw_593, Or.inl rfl⟩
theorem zp_Mo_54 : ZFp vcl GT "MonitorQueuesModel" 54 7 17 true (.array .int) := ⟨_, T_Mo, 28, "MonitorQueuesModel", ty_Mo, rfl, by decide, in_Mo, gw_593, Or.inl rfl, zl_Mo, rfl, rfl, fun _ => rfl⟩
theorem zf_Mo_57 : ZF vcl GT "MonitorQueuesModel" 57 7 18 := ⟨_, T_Mo, 28, "MonitorQueuesModel", rfl, by decide, in_Mo, gw_594, Or.inl rfl⟩
theorem zp_Mo_57 : ZFp vcl GT "MonitorQueuesModel" 57 7 18 true (.array .int) := ⟨_, T_Mo, 28, "MonitorQueuesModel", ty_Mo, rfl, by decide, in_Mo, gw_594, Or.inl rfl, zl_Mo, rfl, rfl, fun _ => rfl⟩
theorem zf_Mo_60 : ZF vcl GT "MonitorQueuesModel" 60 7 19 := ⟨_, T_Mo, 28, "MonitorQueuesModel", rfl, by decide, in_Mo, gw_595, Or.inl rfl⟩
theorem zp_Mo_60 : ZFp vcl GT "MonitorQueuesModel" 60 7 19 true (.array .boolean) := ⟨_, T_Mo, 28, "MonitorQueuesModel", ty_Mo, rfl, by decide, in_Mo, gw_595, Or.inl rfl, zl_Mo, rfl, rfl, fun _ => rfl⟩
theorem zf_Mo_90 : ZF vcl GT "MonitorQueuesModel" 90 7 20 := ⟨_, T_Mo, 28, "MonitorQueuesModel", rfl, by decide, in_Mo, gw_596, Or.inl rfl⟩
theorem zp_Mo_90 : ZFp vcl GT "MonitorQueuesModel" 90 7 20 false (.int) := ⟨_, T_Mo, 28, "MonitorQueuesModel", ty_Mo, rfl, by decide, in_Mo, gw_596, Or.inl rfl, zl_Mo, rfl, rfl, fun _ => by simp_all⟩
theorem zf_Mo_93 : ZF vcl GT "MonitorQueuesModel" 93 7 21 := ⟨_, T_Mo, 28, "MonitorQueuesModel", rfl, by decide, in_Mo, gw_597, Or.inl rfl⟩
theorem zp_Mo_93 : ZFp vcl GT "MonitorQueuesModel" 93 7 21 false (.int) := ⟨_, T_Mo, 28, "MonitorQueuesModel", ty_Mo, rfl, by decide, in_Mo, gw_597, Or.inl rfl, zl_Mo, rfl, rfl, fun _ => by simp_all⟩
theorem zf_Mo_112 : ZF vcl GT "MonitorQueuesModel" 112 7 22 := ⟨_, T_Mo, 28, "MonitorQueuesModel", rfl, by decide, in_Mo, gw_598, Or.inl rfl⟩
theorem zp_Mo_112 : ZFp vcl GT "MonitorQueuesModel" 112 7 22 false (.long) := ⟨_, T_Mo, 28, "MonitorQueuesModel", ty_Mo, rfl, by decide, in_Mo, gw_598, Or.inl rfl, zl_Mo, rfl, rfl, fun _ => by simp_all⟩
theorem zf_Mo_63 : ZF vcl GT "MonitorQueuesModel" 63 7 23 := ⟨_, T_Mo, 28, "MonitorQueuesModel", rfl, by decide, in_Mo, gw_599, Or.inl rfl⟩
theorem zp_Mo_63 : ZFp vcl GT "MonitorQueuesModel" 63 7 23 true (.array .int) := ⟨_, T_Mo, 28, "MonitorQueuesModel", ty_Mo, rfl, by decide, in_Mo, gw_599, Or.inl rfl, zl_Mo, rfl, rfl, fun _ => rfl⟩
theorem zf_Mo_66 : ZF vcl GT "MonitorQueuesModel" 66 7 24 := ⟨_, T_Mo, 28, "MonitorQueuesModel", rfl, by decide, in_Mo, gw_600, Or.inl rfl⟩
theorem zp_Mo_66 : ZFp vcl GT "MonitorQueuesModel" 66 7 24 true (.array .int) := ⟨_, T_Mo, 28, "MonitorQueuesModel", ty_Mo, rfl, by decide, in_Mo, gw_600, Or.inl rfl, zl_Mo, rfl, rfl, fun _ => rfl⟩
theorem zf_Mo_69 : ZF vcl GT "MonitorQueuesModel" 69 7 25 := ⟨_, T_Mo, 28, "MonitorQueuesModel", rfl, by decide, in_Mo, gw_601, Or.inl rfl⟩
theorem zp_Mo_69 : ZFp vcl GT "MonitorQueuesModel" 69 7 25 true (.array .long) := ⟨_, T_Mo, 28, "MonitorQueuesModel", ty_Mo, rfl, by decide, in_Mo, gw_601, Or.inl rfl, zl_Mo, rfl, rfl, fun _ => rfl⟩
theorem zf_Mo_153 : ZF vcl GT "MonitorQueuesModel" 153 7 26 := ⟨_, T_Mo, 28, "MonitorQueuesModel", rfl, by decide, in_Mo, gw_602, Or.inl rfl⟩
theorem zp_Mo_153 : ZFp vcl GT "MonitorQueuesModel" 153 7 26 false (.int) := ⟨_, T_Mo, 28, "MonitorQueuesModel", ty_Mo, rfl, by decide, in_Mo, gw_602, Or.inl rfl, zl_Mo, rfl, rfl, fun _ => by simp_all⟩
theorem zf_Mo_156 : ZF vcl GT "MonitorQueuesModel" 156 7 27 := ⟨_, T_Mo, 28, "MonitorQueuesModel", rfl, by decide, in_Mo, gw_603, Or.inl rfl⟩
theorem zp_Mo_156 : ZFp vcl GT "MonitorQueuesModel" 156 7 27 false (.int) := ⟨_, T_Mo, 28, "MonitorQueuesModel", ty_Mo, rfl, by decide, in_Mo, gw_603, Or.inl rfl, zl_Mo, rfl, rfl, fun _ => by simp_all⟩
theorem zi_La_21 : ZI GT "MonitorQueuesLaw" 21 y_MQ_init b_MQ_init 3 1 := ⟨gw_58, gw_59, gw_36, gw_60, rfl, by decide +kernel, by decide +kernel, by decide +kernel⟩
theorem zs_MQ_9 : ZS GT "MonitorQueues" 9 y_Ma_min b_Ma_min 2 (Option.some FieldType.int) 2 := ⟨gw_64, gw_65, gw_37, gw_66, by decide +kernel, by decide +kernel, by decide +kernel⟩
theorem zs_MQ_15 : ZS GT "MonitorQueues" 15 y_Ma_max b_Ma_max 2 (Option.some FieldType.int) 2 := ⟨gw_67, gw_68, gw_37, gw_69, by decide +kernel, by decide +kernel, by decide +kernel⟩
theorem zi_MQ_28 : ZI GT "MonitorQueues" 28 y_Qu_init b_Qu_init 1 0 := ⟨gw_73, gw_74, gw_38, gw_75, rfl, by decide +kernel, by decide +kernel, by decide +kernel⟩
theorem zi_Qu_11 : ZI GT "MonitorQueues$Queue" 11 y_AL_init b_AL_init 1 0 := ⟨gw_79, gw_80, gw_41, gw_81, rfl, by decide +kernel, by decide +kernel, by decide +kernel⟩
theorem zi_AL_1 : ZI GT "java/util/ArrayList" 1 y_AB_init b_AB_init 1 0 := ⟨gw_82, gw_83, gw_40, gw_84, rfl, by decide +kernel, by decide +kernel, by decide +kernel⟩
theorem zi_AB_1 : ZI GT "java/util/AbstractList" 1 y_AC_init b_AC_init 1 0 := ⟨gw_85, gw_86, gw_39, gw_87, rfl, by decide +kernel, by decide +kernel, by decide +kernel⟩
theorem zi_MQ_31 : ZI GT "MonitorQueues" 31 y_AL_init b_AL_init 1 0 := ⟨gw_144, gw_80, gw_41, gw_81, rfl, by decide +kernel, by decide +kernel, by decide +kernel⟩
theorem zv_La_29 : ZV GT "MonitorQueuesLaw" 29 "MonitorQueues" y_MQ_put b_MQ_put 8 (Option.some FieldType.int) 4 := ⟨gw_167, gw_168, gw_169, gw_36, gw_170, rfl, by decide +kernel, by decide +kernel, by decide +kernel⟩
theorem zv_MQ_39 : ZV GT "MonitorQueues" 39 "MonitorQueues" y_MQ_isQueue b_MQ_isQueue 2 (Option.some FieldType.boolean) 1 := ⟨gw_171, gw_173, gw_0, gw_36, gw_174, rfl, by decide +kernel, by decide +kernel, by decide +kernel⟩
theorem zv_MQ_43 : ZV GT "MonitorQueues" 43 "MonitorQueues$Queue" y_Qu_admits b_Qu_admits 2 (Option.some FieldType.boolean) 1 := ⟨gw_175, gw_176, gw_177, gw_38, gw_178, rfl, by decide +kernel, by decide +kernel, by decide +kernel⟩
theorem zs_Qu_26 : ZS GT "MonitorQueues$Queue" 26 y_Qu_isTransientKind b_Qu_isTransientKind 1 (Option.some FieldType.boolean) 1 := ⟨gw_179, gw_180, gw_38, gw_181, by decide +kernel, by decide +kernel, by decide +kernel⟩
theorem zv_MQ_46 : ZV GT "MonitorQueues" 46 "MonitorQueues$Queue" y_Qu_isLocked b_Qu_isLocked 1 (Option.some FieldType.boolean) 0 := ⟨gw_182, gw_183, gw_184, gw_38, gw_185, rfl, by decide +kernel, by decide +kernel, by decide +kernel⟩
theorem zv_MQ_53 : ZV GT "MonitorQueues" 53 "MonitorQueues" y_MQ_allItems b_MQ_allItems 3 (Option.some FieldType.int) 0 := ⟨gw_186, gw_188, gw_1, gw_36, gw_189, rfl, by decide +kernel, by decide +kernel, by decide +kernel⟩
theorem zv_MQ_151 : ZV GT "MonitorQueues" 151 "java/util/ArrayList" y_AL_size b_AL_size 1 (Option.some FieldType.int) 0 := ⟨gw_190, gw_191, gw_192, gw_41, gw_193, rfl, by decide +kernel, by decide +kernel, by decide +kernel⟩
theorem zv_MQ_61 : ZV GT "MonitorQueues" 61 "MonitorQueues$Queue" y_Qu_touch b_Qu_touch 3 none 1 := ⟨gw_194, gw_195, gw_196, gw_38, gw_197, rfl, by decide +kernel, by decide +kernel, by decide +kernel⟩
theorem zv_MQ_65 : ZV GT "MonitorQueues" 65 "MonitorQueues$Queue" y_Qu_append b_Qu_append 5 (Option.some FieldType.int) 3 := ⟨gw_198, gw_199, gw_200, gw_38, gw_201, rfl, by decide +kernel, by decide +kernel, by decide +kernel⟩
theorem zi_Qu_47 : ZI GT "MonitorQueues$Queue" 47 y_It_init b_It_init 3 1 := ⟨gw_204, gw_205, gw_43, gw_206, rfl, by decide +kernel, by decide +kernel, by decide +kernel⟩
theorem zv_Qu_50 : ZV GT "MonitorQueues$Queue" 50 "java/util/ArrayList" y_AL_add b_AL_add 2 (Option.some FieldType.boolean) 1 := ⟨gw_214, gw_215, gw_216, gw_41, gw_217, rfl, by decide +kernel, by decide +kernel, by decide +kernel⟩
theorem zv_AL_131 : ZV GT "java/util/ArrayList" 131 "java/util/ArrayList" y_AL_add2 b_AL_add2 4 none 3 := ⟨gw_218, gw_220, gw_2, gw_41, gw_221, rfl, by decide +kernel, by decide +kernel, by decide +kernel⟩
theorem zv_AL_129 : ZV GT "java/util/ArrayList" 129 "java/util/ArrayList" y_AL_grow b_AL_grow 1 (Option.some (FieldType.array (FieldType.object "java/lang/Object"))) 0 := ⟨gw_222, gw_224, gw_3, gw_41, gw_225, rfl, by decide +kernel, by decide +kernel, by decide +kernel⟩
theorem zv_AL_69 : ZV GT "java/util/ArrayList" 69 "java/util/ArrayList" y_AL_grow2 b_AL_grow2 4 (Option.some (FieldType.array (FieldType.object "java/lang/Object"))) 1 := ⟨gw_226, gw_228, gw_4, gw_41, gw_229, rfl, by decide +kernel, by decide +kernel, by decide +kernel⟩
theorem zs_AL_73 : ZS GT "java/util/ArrayList" 73 y_AS_newLength b_AS_newLength 4 (Option.some FieldType.int) 3 := ⟨gw_230, gw_231, gw_44, gw_232, by decide +kernel, by decide +kernel, by decide +kernel⟩
theorem zs_AS_194 : ZS GT "jdk/internal/util/ArraysSupport" 194 y_Ma_max b_Ma_max 2 (Option.some FieldType.int) 2 := ⟨gw_233, gw_68, gw_37, gw_69, by decide +kernel, by decide +kernel, by decide +kernel⟩
theorem zs_AS_201 : ZS GT "jdk/internal/util/ArraysSupport" 201 y_AS_hugeLength b_AS_hugeLength 3 (Option.some FieldType.int) 2 := ⟨gw_235, gw_236, gw_44, gw_237, by decide +kernel, by decide +kernel, by decide +kernel⟩
theorem zs_AL_66 : ZS GT "java/util/ArrayList" 66 y_Ar_copyOf b_Ar_copyOf 2 (Option.some (FieldType.array (FieldType.object "java/lang/Object"))) 2 := ⟨gw_238, gw_239, gw_45, gw_240, by decide +kernel, by decide +kernel, by decide +kernel⟩
theorem zs_Ar_300 : ZS GT "java/util/Arrays" 300 y_Ar_copyOf2 b_Ar_copyOf2 4 (Option.some (FieldType.array (FieldType.object "java/lang/Object"))) 3 := ⟨gw_254, gw_255, gw_45, gw_256, by decide +kernel, by decide +kernel, by decide +kernel⟩
theorem zs_Ar_304 : ZS GT "java/util/Arrays" 304 y_Ma_min b_Ma_min 2 (Option.some FieldType.int) 2 := ⟨gw_260, gw_65, gw_37, gw_66, by decide +kernel, by decide +kernel, by decide +kernel⟩
theorem zs_AL_79 : ZS GT "java/util/ArrayList" 79 y_Ma_max b_Ma_max 2 (Option.some FieldType.int) 2 := ⟨gw_264, gw_68, gw_37, gw_69, by decide +kernel, by decide +kernel, by decide +kernel⟩
theorem zs_Qu_54 : ZS GT "MonitorQueues$Queue" 54 y_Qu_isProtectedKind b_Qu_isProtectedKind 1 (Option.some FieldType.boolean) 1 := ⟨gw_266, gw_267, gw_38, gw_268, by decide +kernel, by decide +kernel, by decide +kernel⟩
theorem zv_Qu_60 : ZV GT "MonitorQueues$Queue" 60 "MonitorQueues$Queue" y_Qu_isTransient b_Qu_isTransient 1 (Option.some FieldType.boolean) 0 := ⟨gw_269, gw_270, gw_271, gw_38, gw_272, rfl, by decide +kernel, by decide +kernel, by decide +kernel⟩
theorem zv_Qu_33 : ZV GT "MonitorQueues$Queue" 33 "java/util/ArrayList" y_AL_size b_AL_size 1 (Option.some FieldType.int) 0 := ⟨gw_273, gw_191, gw_192, gw_41, gw_193, rfl, by decide +kernel, by decide +kernel, by decide +kernel⟩
theorem zv_MQ_69 : ZV GT "MonitorQueues" 69 "MonitorQueues" y_MQ_lookAtTriggers b_MQ_lookAtTriggers 3 none 0 := ⟨gw_274, gw_276, gw_5, gw_36, gw_277, rfl, by decide +kernel, by decide +kernel, by decide +kernel⟩
theorem zv_MQ_117 : ZV GT "MonitorQueues" 117 "MonitorQueues$Queue" y_Qu_standing b_Qu_standing 1 (Option.some FieldType.int) 0 := ⟨gw_278, gw_279, gw_280, gw_38, gw_281, rfl, by decide +kernel, by decide +kernel, by decide +kernel⟩
theorem zv_MQ_205 : ZV GT "MonitorQueues" 205 "MonitorQueues" y_MQ_look b_MQ_look 3 none 2 := ⟨gw_282, gw_284, gw_6, gw_36, gw_285, rfl, by decide +kernel, by decide +kernel, by decide +kernel⟩
theorem zv_MQ_215 : ZV GT "MonitorQueues" 215 "MonitorQueues" y_MQ_beginFor b_MQ_beginFor 2 (Option.some FieldType.int) 1 := ⟨gw_286, gw_288, gw_7, gw_36, gw_289, rfl, by decide +kernel, by decide +kernel, by decide +kernel⟩
theorem zv_MQ_196 : ZV GT "MonitorQueues" 196 "MonitorQueues" y_MQ_begin b_MQ_begin 2 (Option.some FieldType.int) 1 := ⟨gw_290, gw_292, gw_8, gw_36, gw_293, rfl, by decide +kernel, by decide +kernel, by decide +kernel⟩
theorem zi_MQ_188 : ZI GT "MonitorQueues" 188 y_Ta_init b_Ta_init 2 1 := ⟨gw_296, gw_297, gw_47, gw_298, rfl, by decide +kernel, by decide +kernel, by decide +kernel⟩
theorem zv_MQ_191 : ZV GT "MonitorQueues" 191 "java/util/ArrayList" y_AL_add b_AL_add 2 (Option.some FieldType.boolean) 1 := ⟨gw_309, gw_215, gw_216, gw_41, gw_217, rfl, by decide +kernel, by decide +kernel, by decide +kernel⟩
theorem zv_La_42 : ZV GT "MonitorQueuesLaw" 42 "MonitorQueues" y_MQ_next b_MQ_next 5 (Option.some FieldType.int) 2 := ⟨gw_310, gw_311, gw_312, gw_36, gw_313, rfl, by decide +kernel, by decide +kernel, by decide +kernel⟩
theorem zv_MQ_107 : ZV GT "MonitorQueues" 107 "MonitorQueues$Queue" y_Qu_isTransient b_Qu_isTransient 1 (Option.some FieldType.boolean) 0 := ⟨gw_314, gw_270, gw_271, gw_38, gw_272, rfl, by decide +kernel, by decide +kernel, by decide +kernel⟩
theorem zv_MQ_82 : ZV GT "MonitorQueues" 82 "MonitorQueues$Queue" y_Qu_holds b_Qu_holds 2 (Option.some FieldType.boolean) 1 := ⟨gw_315, gw_316, gw_317, gw_38, gw_318, rfl, by decide +kernel, by decide +kernel, by decide +kernel⟩
theorem zv_La_47 : ZV GT "MonitorQueuesLaw" 47 "MonitorQueues" y_MQ_take b_MQ_take 4 (Option.some FieldType.int) 1 := ⟨gw_319, gw_320, gw_321, gw_36, gw_322, rfl, by decide +kernel, by decide +kernel, by decide +kernel⟩
theorem zv_MQ_79 : ZV GT "MonitorQueues" 79 "MonitorQueues$Queue" y_Qu_isTemporary b_Qu_isTemporary 1 (Option.some FieldType.boolean) 0 := ⟨gw_323, gw_324, gw_325, gw_38, gw_326, rfl, by decide +kernel, by decide +kernel, by decide +kernel⟩
theorem zv_MQ_114 : ZV GT "MonitorQueues" 114 "java/util/ArrayList" y_AL_isEmpty b_AL_isEmpty 1 (Option.some FieldType.boolean) 0 := ⟨gw_327, gw_328, gw_329, gw_41, gw_330, rfl, by decide +kernel, by decide +kernel, by decide +kernel⟩
theorem zv_MQ_120 : ZV GT "MonitorQueues" 120 "MonitorQueues$Queue" y_Qu_removeFirst b_Qu_removeFirst 1 (Option.some FieldType.int) 0 := ⟨gw_331, gw_332, gw_333, gw_38, gw_334, rfl, by decide +kernel, by decide +kernel, by decide +kernel⟩
theorem zv_Qu_67 : ZV GT "MonitorQueues$Queue" 67 "java/util/ArrayList" y_AL_isEmpty b_AL_isEmpty 1 (Option.some FieldType.boolean) 0 := ⟨gw_335, gw_328, gw_329, gw_41, gw_330, rfl, by decide +kernel, by decide +kernel, by decide +kernel⟩
theorem zv_Qu_73 : ZV GT "MonitorQueues$Queue" 73 "java/util/ArrayList" y_AL_get b_AL_get 2 (Option.some (FieldType.object "java/lang/Object")) 1 := ⟨gw_336, gw_337, gw_338, gw_41, gw_339, rfl, by decide +kernel, by decide +kernel, by decide +kernel⟩
theorem zs_AL_118 : ZS GT "java/util/ArrayList" 118 y_Ob_checkIndex b_Ob_checkIndex 2 (Option.some FieldType.int) 2 := ⟨gw_340, gw_341, gw_52, gw_342, by decide +kernel, by decide +kernel, by decide +kernel⟩
theorem zs_Ob_105 : ZS GT "java/util/Objects" 105 y_Pr_checkIndex b_Pr_checkIndex 3 (Option.some FieldType.int) 3 := ⟨gw_343, gw_344, gw_53, gw_345, by decide +kernel, by decide +kernel, by decide +kernel⟩
theorem zv_AL_123 : ZV GT "java/util/ArrayList" 123 "java/util/ArrayList" y_AL_elementData b_AL_elementData 2 (Option.some (FieldType.object "java/lang/Object")) 1 := ⟨gw_346, gw_347, gw_348, gw_41, gw_349, rfl, by decide +kernel, by decide +kernel, by decide +kernel⟩
theorem zv_Qu_83 : ZV GT "MonitorQueues$Queue" 83 "java/util/ArrayList" y_AL_remove b_AL_remove 4 (Option.some (FieldType.object "java/lang/Object")) 1 := ⟨gw_350, gw_351, gw_352, gw_41, gw_353, rfl, by decide +kernel, by decide +kernel, by decide +kernel⟩
theorem zv_AL_144 : ZV GT "java/util/ArrayList" 144 "java/util/ArrayList" y_AL_fastRemove b_AL_fastRemove 4 none 2 := ⟨gw_354, gw_356, gw_9, gw_41, gw_357, rfl, by decide +kernel, by decide +kernel, by decide +kernel⟩
theorem zv_Qu_92 : ZV GT "MonitorQueues$Queue" 92 "MonitorQueues$Queue" y_Qu_becomeEmpty b_Qu_becomeEmpty 1 none 0 := ⟨gw_359, gw_360, gw_361, gw_38, gw_362, rfl, by decide +kernel, by decide +kernel, by decide +kernel⟩
theorem zv_Qu_99 : ZV GT "MonitorQueues$Queue" 99 "java/util/ArrayList" y_AL_clear b_AL_clear 4 none 0 := ⟨gw_363, gw_364, gw_365, gw_41, gw_366, rfl, by decide +kernel, by decide +kernel, by decide +kernel⟩
theorem zs_Qu_102 : ZS GT "MonitorQueues$Queue" 102 y_Ar_fill b_Ar_fill 4 none 2 := ⟨gw_367, gw_368, gw_45, gw_369, by decide +kernel, by decide +kernel, by decide +kernel⟩
theorem zv_La_52 : ZV GT "MonitorQueuesLaw" 52 "MonitorQueues" y_MQ_trigger b_MQ_trigger 5 (Option.some FieldType.int) 3 := ⟨gw_370, gw_371, gw_372, gw_36, gw_373, rfl, by decide +kernel, by decide +kernel, by decide +kernel⟩
theorem zi_MQ_125 : ZI GT "MonitorQueues" 125 y_Tr_init b_Tr_init 3 2 := ⟨gw_376, gw_377, gw_54, gw_378, rfl, by decide +kernel, by decide +kernel, by decide +kernel⟩
theorem zv_La_57 : ZV GT "MonitorQueuesLaw" 57 "MonitorQueues" y_MQ_started b_MQ_started 2 (Option.some FieldType.int) 1 := ⟨gw_400, gw_401, gw_402, gw_36, gw_403, rfl, by decide +kernel, by decide +kernel, by decide +kernel⟩
theorem zv_MQ_132 : ZV GT "MonitorQueues" 132 "MonitorQueues" y_MQ_isTask b_MQ_isTask 2 (Option.some FieldType.boolean) 1 := ⟨gw_404, gw_406, gw_10, gw_36, gw_407, rfl, by decide +kernel, by decide +kernel, by decide +kernel⟩
theorem zv_MQ_90 : ZV GT "MonitorQueues" 90 "java/util/ArrayList" y_AL_get b_AL_get 2 (Option.some (FieldType.object "java/lang/Object")) 1 := ⟨gw_408, gw_337, gw_338, gw_41, gw_339, rfl, by decide +kernel, by decide +kernel, by decide +kernel⟩
theorem zv_La_61 : ZV GT "MonitorQueuesLaw" 61 "MonitorQueues" y_MQ_end b_MQ_end 4 (Option.some FieldType.int) 1 := ⟨gw_409, gw_410, gw_411, gw_36, gw_412, rfl, by decide +kernel, by decide +kernel, by decide +kernel⟩
theorem zv_MQ_147 : ZV GT "MonitorQueues" 147 "MonitorQueues" y_MQ_beginAgain b_MQ_beginAgain 5 (Option.some FieldType.int) 1 := ⟨gw_413, gw_415, gw_11, gw_36, gw_416, rfl, by decide +kernel, by decide +kernel, by decide +kernel⟩
theorem zv_La_65 : ZV GT "MonitorQueuesLaw" 65 "MonitorQueues" y_MQ_rewrite b_MQ_rewrite 6 (Option.some FieldType.int) 3 := ⟨gw_417, gw_418, gw_419, gw_36, gw_420, rfl, by decide +kernel, by decide +kernel, by decide +kernel⟩
theorem zv_La_70 : ZV GT "MonitorQueuesLaw" 70 "MonitorQueues" y_MQ_delay b_MQ_delay 4 (Option.some FieldType.int) 2 := ⟨gw_422, gw_423, gw_424, gw_36, gw_425, rfl, by decide +kernel, by decide +kernel, by decide +kernel⟩
theorem zi_MQ_159 : ZI GT "MonitorQueues" 159 y_De_init b_De_init 5 3 := ⟨gw_428, gw_429, gw_55, gw_430, rfl, by decide +kernel, by decide +kernel, by decide +kernel⟩
theorem zv_MQ_162 : ZV GT "MonitorQueues" 162 "MonitorQueues" y_MQ_keepWaiting b_MQ_keepWaiting 3 none 1 := ⟨gw_445, gw_447, gw_12, gw_36, gw_448, rfl, by decide +kernel, by decide +kernel, by decide +kernel⟩
theorem zv_MQ_222 : ZV GT "MonitorQueues" 222 "java/util/ArrayList" y_AL_add3 b_AL_add3 5 none 2 := ⟨gw_449, gw_450, gw_451, gw_41, gw_452, rfl, by decide +kernel, by decide +kernel, by decide +kernel⟩
theorem zv_AL_135 : ZV GT "java/util/ArrayList" 135 "java/util/ArrayList" y_AL_rangeCheckForAdd b_AL_rangeCheckForAdd 2 none 1 := ⟨gw_453, gw_455, gw_13, gw_41, gw_456, rfl, by decide +kernel, by decide +kernel, by decide +kernel⟩
theorem zv_MQ_166 : ZV GT "MonitorQueues" 166 "MonitorQueues" y_MQ_postDue b_MQ_postDue 2 (Option.some FieldType.int) 0 := ⟨gw_457, gw_459, gw_14, gw_36, gw_460, rfl, by decide +kernel, by decide +kernel, by decide +kernel⟩
theorem zv_MQ_172 : ZV GT "MonitorQueues" 172 "java/util/ArrayList" y_AL_remove b_AL_remove 4 (Option.some (FieldType.object "java/lang/Object")) 1 := ⟨gw_461, gw_351, gw_352, gw_41, gw_353, rfl, by decide +kernel, by decide +kernel, by decide +kernel⟩
theorem zv_La_75 : ZV GT "MonitorQueuesLaw" 75 "MonitorQueues" y_MQ_cancel b_MQ_cancel 3 (Option.some FieldType.int) 1 := ⟨gw_462, gw_463, gw_464, gw_36, gw_465, rfl, by decide +kernel, by decide +kernel, by decide +kernel⟩
theorem zv_La_79 : ZV GT "MonitorQueuesLaw" 79 "MonitorQueues" y_MQ_tick b_MQ_tick 3 (Option.some FieldType.int) 1 := ⟨gw_466, gw_467, gw_468, gw_36, gw_469, rfl, by decide +kernel, by decide +kernel, by decide +kernel⟩
theorem zv_La_84 : ZV GT "MonitorQueuesLaw" 84 "MonitorQueues" y_MQ_unit b_MQ_unit 6 (Option.some FieldType.int) 2 := ⟨gw_470, gw_471, gw_472, gw_36, gw_473, rfl, by decide +kernel, by decide +kernel, by decide +kernel⟩
theorem zv_MQ_175 : ZV GT "MonitorQueues" 175 "MonitorQueues$Queue" y_Qu_endPending b_Qu_endPending 3 (Option.some FieldType.int) 1 := ⟨gw_474, gw_475, gw_476, gw_38, gw_477, rfl, by decide +kernel, by decide +kernel, by decide +kernel⟩
theorem zv_Qu_95 : ZV GT "MonitorQueues$Queue" 95 "MonitorQueues$Queue" y_Qu_dropLast b_Qu_dropLast 3 none 1 := ⟨gw_478, gw_479, gw_480, gw_38, gw_481, rfl, by decide +kernel, by decide +kernel, by decide +kernel⟩
theorem zv_La_89 : ZV GT "MonitorQueuesLaw" 89 "MonitorQueues" y_MQ_age b_MQ_age 6 (Option.some FieldType.int) 1 := ⟨gw_482, gw_483, gw_484, gw_36, gw_485, rfl, by decide +kernel, by decide +kernel, by decide +kernel⟩
theorem zv_MQ_182 : ZV GT "MonitorQueues" 182 "MonitorQueues$Queue" y_Qu_becomeEmpty b_Qu_becomeEmpty 1 none 0 := ⟨gw_486, gw_360, gw_361, gw_38, gw_362, rfl, by decide +kernel, by decide +kernel, by decide +kernel⟩
theorem zv_La_93 : ZV GT "MonitorQueuesLaw" 93 "MonitorQueues" y_MQ_count b_MQ_count 2 (Option.some FieldType.int) 1 := ⟨gw_487, gw_488, gw_489, gw_36, gw_490, rfl, by decide +kernel, by decide +kernel, by decide +kernel⟩
theorem zs_La_15 : ZS GT "MonitorQueuesLaw" 15 y_La_cell b_La_cell 2 (Option.some FieldType.int) 2 := ⟨gw_491, gw_492, gw_35, gw_493, by decide +kernel, by decide +kernel, by decide +kernel⟩
theorem zv_La_7 : ZV GT "MonitorQueuesLaw" 7 "MonitorQueues" y_MQ_get b_MQ_get 4 (Option.some FieldType.long) 2 := ⟨gw_498, gw_499, gw_500, gw_36, gw_501, rfl, by decide +kernel, by decide +kernel, by decide +kernel⟩
theorem zi_MQ_76 : ZI GT "MonitorQueues" 76 y_Ne_init b_Ne_init 2 1 := ⟨gw_542, gw_543, gw_51, gw_544, rfl, by decide +kernel, by decide +kernel, by decide +kernel⟩
theorem zi_Ne_13 : ZI GT "java/util/NoSuchElementException" 13 y_Re_init b_Re_init 2 1 := ⟨gw_545, gw_546, gw_50, gw_547, rfl, by decide +kernel, by decide +kernel, by decide +kernel⟩
theorem zi_Re_7 : ZI GT "java/lang/RuntimeException" 7 y_Ex_init b_Ex_init 2 1 := ⟨gw_548, gw_549, gw_49, gw_550, rfl, by decide +kernel, by decide +kernel, by decide +kernel⟩
theorem zi_Ex_7 : ZI GT "java/lang/Exception" 7 y_Th_init2 b_Th_init2 2 1 := ⟨gw_551, gw_552, gw_48, gw_553, rfl, by decide +kernel, by decide +kernel, by decide +kernel⟩
theorem zi_La_26 : ZI GT "MonitorQueuesLaw" 26 y_Mo_init b_Mo_init 3 1 := ⟨gw_572, gw_573, gw_42, gw_574, rfl, by decide +kernel, by decide +kernel, by decide +kernel⟩
theorem zv_La_38 : ZV GT "MonitorQueuesLaw" 38 "MonitorQueuesModel" y_Mo_thrown b_Mo_thrown 1 (Option.some FieldType.int) 0 := ⟨gw_663, gw_664, gw_665, gw_42, gw_666, rfl, by decide +kernel, by decide +kernel, by decide +kernel⟩
theorem zv_La_33 : ZV GT "MonitorQueuesLaw" 33 "MonitorQueuesModel" y_Mo_put b_Mo_put 6 (Option.some FieldType.int) 4 := ⟨gw_667, gw_668, gw_669, gw_42, gw_670, rfl, by decide +kernel, by decide +kernel, by decide +kernel⟩
theorem zv_Mo_116 : ZV GT "MonitorQueuesModel" 116 "MonitorQueuesModel" y_Mo_putting b_Mo_putting 7 (Option.some FieldType.int) 4 := ⟨gw_671, gw_673, gw_16, gw_42, gw_674, rfl, by decide +kernel, by decide +kernel, by decide +kernel⟩
theorem zs_Mo_105 : ZS GT "MonitorQueuesModel" 105 y_Mo_isQueue b_Mo_isQueue 1 (Option.some FieldType.boolean) 1 := ⟨gw_675, gw_676, gw_42, gw_677, by decide +kernel, by decide +kernel, by decide +kernel⟩
theorem zv_Mo_109 : ZV GT "MonitorQueuesModel" 109 "MonitorQueuesModel" y_Mo_lockOf b_Mo_lockOf 4 (Option.some FieldType.int) 1 := ⟨gw_678, gw_680, gw_17, gw_42, gw_681, rfl, by decide +kernel, by decide +kernel, by decide +kernel⟩
theorem zv_Mo_82 : ZV GT "MonitorQueuesModel" 82 "MonitorQueuesModel" y_Mo_many b_Mo_many 4 (Option.some FieldType.int) 1 := ⟨gw_682, gw_684, gw_18, gw_42, gw_685, rfl, by decide +kernel, by decide +kernel, by decide +kernel⟩
theorem zv_Mo_120 : ZV GT "MonitorQueuesModel" 120 "MonitorQueuesModel" y_Mo_answer b_Mo_answer 2 (Option.some FieldType.int) 1 := ⟨gw_686, gw_688, gw_19, gw_42, gw_689, rfl, by decide +kernel, by decide +kernel, by decide +kernel⟩
theorem zv_Mo_102 : ZV GT "MonitorQueuesModel" 102 "MonitorQueuesModel" y_Mo_look b_Mo_look 3 none 0 := ⟨gw_690, gw_692, gw_20, gw_42, gw_693, rfl, by decide +kernel, by decide +kernel, by decide +kernel⟩
theorem zv_Mo_96 : ZV GT "MonitorQueuesModel" 96 "MonitorQueuesModel" y_Mo_standing b_Mo_standing 4 (Option.some FieldType.int) 1 := ⟨gw_694, gw_696, gw_21, gw_42, gw_697, rfl, by decide +kernel, by decide +kernel, by decide +kernel⟩
theorem zv_Mo_99 : ZV GT "MonitorQueuesModel" 99 "MonitorQueuesModel" y_Mo_task b_Mo_task 2 (Option.some FieldType.int) 1 := ⟨gw_698, gw_700, gw_22, gw_42, gw_701, rfl, by decide +kernel, by decide +kernel, by decide +kernel⟩
theorem zv_La_37 : ZV GT "MonitorQueuesLaw" 37 "MonitorQueuesModel" y_Mo_get b_Mo_get 4 (Option.some FieldType.long) 2 := ⟨gw_702, gw_703, gw_704, gw_42, gw_705, rfl, by decide +kernel, by decide +kernel, by decide +kernel⟩
theorem zv_Mo_123 : ZV GT "MonitorQueuesModel" 123 "MonitorQueuesModel" y_Mo_isTemporary b_Mo_isTemporary 2 (Option.some FieldType.boolean) 1 := ⟨gw_706, gw_708, gw_23, gw_42, gw_709, rfl, by decide +kernel, by decide +kernel, by decide +kernel⟩
theorem zv_Mo_126 : ZV GT "MonitorQueuesModel" 126 "MonitorQueuesModel" y_Mo_placeOf b_Mo_placeOf 5 (Option.some FieldType.int) 2 := ⟨gw_710, gw_712, gw_24, gw_42, gw_713, rfl, by decide +kernel, by decide +kernel, by decide +kernel⟩
theorem zv_La_46 : ZV GT "MonitorQueuesLaw" 46 "MonitorQueuesModel" y_Mo_next b_Mo_next 3 (Option.some FieldType.int) 2 := ⟨gw_714, gw_715, gw_716, gw_42, gw_717, rfl, by decide +kernel, by decide +kernel, by decide +kernel⟩
theorem zv_Mo_133 : ZV GT "MonitorQueuesModel" 133 "MonitorQueuesModel" y_Mo_nexting b_Mo_nexting 4 (Option.some FieldType.int) 2 := ⟨gw_718, gw_720, gw_25, gw_42, gw_721, rfl, by decide +kernel, by decide +kernel, by decide +kernel⟩
theorem zv_Mo_130 : ZV GT "MonitorQueuesModel" 130 "MonitorQueuesModel" y_Mo_isTransient b_Mo_isTransient 2 (Option.some FieldType.boolean) 1 := ⟨gw_722, gw_724, gw_26, gw_42, gw_725, rfl, by decide +kernel, by decide +kernel, by decide +kernel⟩
theorem zv_La_51 : ZV GT "MonitorQueuesLaw" 51 "MonitorQueuesModel" y_Mo_take b_Mo_take 2 (Option.some FieldType.int) 1 := ⟨gw_726, gw_727, gw_728, gw_42, gw_729, rfl, by decide +kernel, by decide +kernel, by decide +kernel⟩
theorem zv_Mo_139 : ZV GT "MonitorQueuesModel" 139 "MonitorQueuesModel" y_Mo_taking b_Mo_taking 3 (Option.some FieldType.int) 1 := ⟨gw_730, gw_732, gw_27, gw_42, gw_733, rfl, by decide +kernel, by decide +kernel, by decide +kernel⟩
theorem zv_Mo_136 : ZV GT "MonitorQueuesModel" 136 "MonitorQueuesModel" y_Mo_remove b_Mo_remove 4 none 1 := ⟨gw_734, gw_736, gw_28, gw_42, gw_737, rfl, by decide +kernel, by decide +kernel, by decide +kernel⟩
theorem zv_Mo_86 : ZV GT "MonitorQueuesModel" 86 "MonitorQueuesModel" y_Mo_emptied b_Mo_emptied 3 none 1 := ⟨gw_738, gw_740, gw_29, gw_42, gw_741, rfl, by decide +kernel, by decide +kernel, by decide +kernel⟩
theorem zv_La_56 : ZV GT "MonitorQueuesLaw" 56 "MonitorQueuesModel" y_Mo_trigger b_Mo_trigger 4 (Option.some FieldType.int) 3 := ⟨gw_742, gw_743, gw_744, gw_42, gw_745, rfl, by decide +kernel, by decide +kernel, by decide +kernel⟩
theorem zv_Mo_142 : ZV GT "MonitorQueuesModel" 142 "MonitorQueuesModel" y_Mo_triggers b_Mo_triggers 4 (Option.some FieldType.int) 3 := ⟨gw_746, gw_748, gw_30, gw_42, gw_749, rfl, by decide +kernel, by decide +kernel, by decide +kernel⟩
theorem zv_La_60 : ZV GT "MonitorQueuesLaw" 60 "MonitorQueuesModel" y_Mo_started b_Mo_started 2 (Option.some FieldType.int) 1 := ⟨gw_750, gw_751, gw_752, gw_42, gw_753, rfl, by decide +kernel, by decide +kernel, by decide +kernel⟩
theorem zv_La_64 : ZV GT "MonitorQueuesLaw" 64 "MonitorQueuesModel" y_Mo_end b_Mo_end 2 (Option.some FieldType.int) 1 := ⟨gw_754, gw_755, gw_756, gw_42, gw_757, rfl, by decide +kernel, by decide +kernel, by decide +kernel⟩
theorem zv_Mo_146 : ZV GT "MonitorQueuesModel" 146 "MonitorQueuesModel" y_Mo_ending b_Mo_ending 4 (Option.some FieldType.int) 1 := ⟨gw_758, gw_760, gw_31, gw_42, gw_761, rfl, by decide +kernel, by decide +kernel, by decide +kernel⟩
theorem zv_La_69 : ZV GT "MonitorQueuesLaw" 69 "MonitorQueuesModel" y_Mo_rewrite b_Mo_rewrite 5 (Option.some FieldType.int) 3 := ⟨gw_762, gw_763, gw_764, gw_42, gw_765, rfl, by decide +kernel, by decide +kernel, by decide +kernel⟩
theorem zv_Mo_149 : ZV GT "MonitorQueuesModel" 149 "MonitorQueuesModel" y_Mo_rewriting b_Mo_rewriting 6 (Option.some FieldType.int) 3 := ⟨gw_766, gw_768, gw_32, gw_42, gw_769, rfl, by decide +kernel, by decide +kernel, by decide +kernel⟩
theorem zv_La_74 : ZV GT "MonitorQueuesLaw" 74 "MonitorQueuesModel" y_Mo_delay b_Mo_delay 4 (Option.some FieldType.int) 2 := ⟨gw_770, gw_771, gw_772, gw_42, gw_773, rfl, by decide +kernel, by decide +kernel, by decide +kernel⟩
theorem zv_La_78 : ZV GT "MonitorQueuesLaw" 78 "MonitorQueuesModel" y_Mo_cancel b_Mo_cancel 4 (Option.some FieldType.int) 1 := ⟨gw_774, gw_775, gw_776, gw_42, gw_777, rfl, by decide +kernel, by decide +kernel, by decide +kernel⟩
theorem zv_Mo_159 : ZV GT "MonitorQueuesModel" 159 "MonitorQueuesModel" y_Mo_drop b_Mo_drop 3 none 1 := ⟨gw_778, gw_780, gw_33, gw_42, gw_781, rfl, by decide +kernel, by decide +kernel, by decide +kernel⟩
theorem zv_La_83 : ZV GT "MonitorQueuesLaw" 83 "MonitorQueuesModel" y_Mo_tick b_Mo_tick 7 (Option.some FieldType.int) 1 := ⟨gw_782, gw_783, gw_784, gw_42, gw_785, rfl, by decide +kernel, by decide +kernel, by decide +kernel⟩
theorem zv_La_88 : ZV GT "MonitorQueuesLaw" 88 "MonitorQueuesModel" y_Mo_unit b_Mo_unit 3 (Option.some FieldType.int) 2 := ⟨gw_786, gw_787, gw_788, gw_42, gw_789, rfl, by decide +kernel, by decide +kernel, by decide +kernel⟩
theorem zv_Mo_162 : ZV GT "MonitorQueuesModel" 162 "MonitorQueuesModel" y_Mo_unitEnds b_Mo_unitEnds 6 (Option.some FieldType.int) 2 := ⟨gw_790, gw_792, gw_34, gw_42, gw_793, rfl, by decide +kernel, by decide +kernel, by decide +kernel⟩
theorem zv_La_92 : ZV GT "MonitorQueuesLaw" 92 "MonitorQueuesModel" y_Mo_age b_Mo_age 5 (Option.some FieldType.int) 1 := ⟨gw_794, gw_795, gw_796, gw_42, gw_797, rfl, by decide +kernel, by decide +kernel, by decide +kernel⟩
theorem zv_La_96 : ZV GT "MonitorQueuesLaw" 96 "MonitorQueuesModel" y_Mo_count b_Mo_count 2 (Option.some FieldType.int) 1 := ⟨gw_798, gw_799, gw_800, gw_42, gw_801, rfl, by decide +kernel, by decide +kernel, by decide +kernel⟩
end
section
def zcopy (vs0 vs1 : List Value) (sp dp n : Nat) : List Value := (List.range vs1.length).map (fun j => if dp ≤ j ∧ j < dp + n then vs0.getD (sp + (j - dp)) .null else vs1.getD j .null)
theorem zcopy_len (vs0 vs1 : List Value) (sp dp n : Nat) : (zcopy vs0 vs1 sp dp n).length = vs1.length := by simp [zcopy]
theorem zarrV_congr {c : ClassId} {N : Nat} {f f' : Nat → Value} (h : ∀ j, j < N → f j = f' j) : arrV c N f = arrV c N f' := by
  unfold arrV
  congr 1
  apply Array.ext
  · simp
  · intro i h1 h2
    simp only [Array.getElem_ofFn]
    exact h i (by simpa using h1)
theorem zcopied (c0 c1 : ClassId) (vs0 vs1 : List Value) {sp dp n : Nat} (hs : sp + n ≤ vs0.length) : (zarr c1 vs1).storeRun dp ((zarr c0 vs0).stretch sp n) = zarr c1 (zcopy vs0 vs1 sp dp n) := by
  rw [zarr_arrV c1 vs1, zarr_arrV c0 vs0, zarr_arrV c1 (zcopy vs0 vs1 sp dp n), zcopy_len]
  refine (va_copied (fun v : Value => v) c0 c1 (fun j => vs0.getD j .null) (fun j => vs1.getD j .null) hs).trans (zarrV_congr fun j hj => ?_)
  simp only [va_cpy, zcopy, List.getD_eq_getElem?_getD, List.getElem?_map]
  rw [List.getElem?_range hj]
  rfl
theorem znn (z : Nat) (h : z < 2 ^ 31) : (nI z).toInt = (z : Int) := nI_toInt h
section ZJ
variable {cl : List vw_C} {tl : List FieldType} {Ts : List Cond} {own : String} {cc : ByteArray} {nL : Nat} {ret : Option FieldType} {nm : String} {R : Room} {g : ZG} {k : ZK} {post : Option Value → ZM → Prop} {Qz : State → Prop} {L L' : List (Option Value)} {pc : Nat} {st : List Value} {M : ZM} {n1 n2 : Nat}
def zElems (cl : List vw_C) (M : ZM) (vs : List Value) : Prop := ∀ v ∈ vs, v = .null ∨ ∃ (b ci : Nat) (fs : List Value) (r : vw_C), v = .ref b ∧ M b = some (.inr (ci, fs)) ∧ cl[ci]? = some r ∧ (r.1, "java/lang/Object") ∈ zCa
theorem z_copy {a0 a1 ix sp dp n : Nat} {vs0 vs1 : List Value} (hd : decode cc pc = .ok (.invokestatic ix, 3)) (hlk : Cond.methodLink own ix arraycopyName ∈ Ts) (hnat : Cond.native arraycopyName ∈ Ts) (hstat : Cond.static arraycopyName ∈ Ts) (hini : Cond.initialized "java/lang/System" ∈ Ts) (ht : tl[0]? = some (.object "java/lang/Object")) (hM0 : M a0 = some (.inl (0, vs0))) (hM1 : M a1 = some (.inl (0, vs1))) (h4 : sp + n ≤ vs0.length) (h5 : dp + n ≤ vs1.length) (h6 : vs0.length < 2 ^ 31) (h7 : vs1.length < 2 ^ 31) (h8 : 0 < vs1.length) (hel : zElems cl M vs0) (hf : 1 ≤ R.frames) (hlo : (st.map fun v => v.category).sum + (nativeFrameWords "java/lang/System" "arraycopy" 5 + 11) ≤ R.locals)
    (h : ZU cl tl Ts own cc nL ret nm R g k Qz L (pc + 3) st (zset M a1 (.inl (0, zcopy vs0 vs1 sp dp n))) n1 n2) : ZU cl tl Ts own cc nL ret nm R g k Qz L pc (.int (nI n) :: .int (nI dp) :: .ref a1 :: .int (nI sp) :: .ref a0 :: st) M n1 n2 := by
  intro X ls H locs hl hL hP hS
  have hts := X.2.2.2.2.1
  obtain ⟨ce0, hc0, hcls0, hsl0, hns0, hun0⟩ := hP.cellW hM0
  have hc1 : H[a1]? = some (zarr (g.2.1 0) vs1) := hP.cell hM1 h8
  obtain ⟨hz, hA⟩ := hP.arr hM1 h8
  obtain ⟨r0, kA, comp, r1, r2, r3, r4⟩ := X.2.2.2.2.2.2.2.2.1.2.1 0 _ ht
  obtain ⟨kE, hkE, -⟩ := Vm.findClass_spec r3
  have hcs : (nI sp).toNatClampNeg = sp := nI_clamp (by omega)
  have hcd : (nI dp).toNatClampNeg = dp := nI_clamp (by omega)
  have hcn : (nI n).toNatClampNeg = n := nI_clamp (by omega)
  intro T hT Y
  obtain ⟨vm', Y', step⟩ := Y.arraycopy X.1 X.2.2.2.1 (hts _ hlk) (hts _ hnat) (hts _ hstat) (hts _ hini) (src := a0) (dst := a1) (cs := ce0) (cd := zarr (g.2.1 0) vs1) (srcPos := nI sp) (destPos := nI dp) (n := nI n) (by rw [hT]; exact hc0) (by rw [hT]; exact hc1)
    hns0 (fun _ h => by cases h) hun0 (fun h => by cases h) (by rw [hcls0]; exact r1) r1 r2 r2 rfl (nI_pos (by omega)) (nI_pos (by omega)) (nI_pos (by omega))
    (by rw [znn sp (by omega), znn n (by omega), hsl0]; simp; omega)
    (by rw [znn dp (by omega), znn n (by omega)]; simp [zarr]; omega)
    (fun vm₁ hal i hi => by
      rw [hcn] at hi
      rw [hcs]
      have hlt : sp + i < vs0.length := by omega
      have e : ce0.slots.getD (sp + i) .null = vs0[sp + i] := by
        rw [hsl0]
        simp [Array.getD, hlt]
      rw [e]
      rcases hel _ (List.getElem_mem hlt) with q | ⟨b, ci, fs, r, q, qM, qc, qa⟩
      · rw [q]
        exact ⟨rfl, trivial⟩
      · rw [q]
        obtain ⟨cellV, g1, g2, g3⟩ := hP.recv X.2.2.2.2.2.2.2.2.1 qM qc
        obtain ⟨kC, hkC, -⟩ := Vm.findClass_spec g3
        obtain ⟨kC', hkC', -⟩ := hal.2.2 _ _ hkC
        obtain ⟨kE', hkE', -⟩ := hal.2.2 _ _ hkE
        refine ⟨rfl, cellV, (show T.heap[b]? = some cellV by rw [hT]; exact g1), (fun q h => by rw [h] at g2; cases g2), ⟨kC', hkC'⟩, ⟨kE', hkE'⟩, ?_⟩
        show vm₁.assignable _ _ = true
        rw [hal.assignable]
        obtain ⟨c0, t1, f1, f2, f3⟩ := Cond.castable_spec (va_Nw.use (A := k.2.2.2.2.2.1) rfl (X.2.2.2.2.2.2.2.2.1.2.2.2.1 _ qa))
        cases g3.symm.trans f1
        cases r3.symm.trans f2
        exact f3)
    (g := F0 k.2.2.2.2.1 pc ls (.int (nI n) :: .int (nI dp) :: .ref a1 :: .int (nI sp) :: .ref a0 :: st)) rfl (by rw [X.2.2.1]; show ls.size = nL; rw [hl.2.1, hL]) (rest := st) rfl (by rw [X.2.1]; exact hd) hf (by show 2 * 0 + _ + _ ≤ _; omega)
  have e1 : copied ce0 (zarr (g.2.1 0) vs1) (nI sp) (nI dp) (nI n) = zarr (g.2.1 0) (zcopy vs0 vs1 sp dp n) := by
    have := zcopied (g.2.1 0) (g.2.1 0) vs0 vs1 (dp := dp) h4
    rw [← this]
    show (zarr (g.2.1 0) vs1).storeRun (nI dp).toNatClampNeg (ce0.stretch (nI sp).toNatClampNeg (nI n).toNatClampNeg) = _
    rw [hcs, hcd, hcn]
    have est : ce0.stretch sp n = (zarr (g.2.1 0) vs0).stretch sp n := by
      unfold Cell.stretch
      rw [hsl0]
      rfl
    rw [est]
  rw [e1] at Y' step
  have hlt : a1 < H.size := (Array.getElem?_eq_some_iff.mp hc1).1
  have hheap : ((T.setVm vm').setCell a1 (zarr (g.2.1 0) (zcopy vs0 vs1 sp dp n))).heap = H.setIfInBounds a1 (zarr (g.2.1 0) (zcopy vs0 vs1 sp dp n)) := by rw [← hT]; rfl
  have oq : ∀ q : Nat, q ≠ a1 → (H.setIfInBounds a1 (zarr (g.2.1 0) (zcopy vs0 vs1 sp dp n)))[q]? = H[q]? := fun q hq => by simp [Array.getElem?_setIfInBounds, Ne.symm hq]
  obtain ⟨t, b1, b2⟩ := h X ls _ _ hl hL (hP.set hz hA ⟨_, (show (H.setIfInBounds a1 _)[a1]? = some (zarr _ _) by simp [Array.getElem?_setIfInBounds, hlt]), Or.inl rfl⟩ (fun q hq _ => oq q hq)) ⟨by simp; exact hS.1, fun q g1 g2 => by
      rw [oq q (fun e => g2 (by rw [e]; exact hA))]
      exact hS.2.1 q g1 g2, fun q hq => by
      rcases List.mem_append.mp hq with h | h
      · exact hS.2.2 q h
      · obtain ⟨z, -, hz⟩ := List.mem_map.mp h
        rw [← hz]
        exact hA⟩ _ hheap Y'
  exact ⟨t, step t b1, b2⟩
theorem z_mmax {x y : Int32} {ix : Nat} (hd : decode cc pc = .ok (.invokestatic ix, 3)) (hlk : Cond.methodLink own ix Lib.Math.max.name ∈ Ts) (hst : Cond.static Lib.Math.max.name ∈ Ts) (hini : Cond.initialized "java/lang/Math" ∈ Ts) (hco : Cond.code Lib.Math.max.name Lib.Math.max.code 2 (some .int) ∈ Ts) (hf : 1 ≤ R.frames) (hlo : (st.map fun v => v.category).sum + 13 ≤ R.locals) (hc1 : n1 ≤ R.cells) (hc2 : n2 ≤ R.slots) (h : ZU cl tl Ts own cc nL ret nm R g k Qz L (pc + 3) (.int (if x < y then y else x) :: st) M n1 n2) : ZU cl tl Ts own cc nL ret nm R g k Qz L pc (.int y :: .int x :: st) M n1 n2 := by
  intro X ls H locs hl hL hP hS
  have hts := X.2.2.2.2.1
  exact va_mmax X.1 X.2.1 (by rw [X.2.2.1, hl.2.1, hL]) X.2.2.2.1 (hts _ hlk) (hts _ hst) (hts _ hini) (hts _ hco) hf hlo hc1 hc2 hd (h X ls H locs hl hL hP hS)
theorem z_mmin {x y : Int32} {ix : Nat} (hd : decode cc pc = .ok (.invokestatic ix, 3)) (hlk : Cond.methodLink own ix Lib.Math.min.name ∈ Ts) (hst : Cond.static Lib.Math.min.name ∈ Ts) (hini : Cond.initialized "java/lang/Math" ∈ Ts) (hco : Cond.code Lib.Math.min.name Lib.Math.min.code 2 (some .int) ∈ Ts) (hf : 1 ≤ R.frames) (hlo : (st.map fun v => v.category).sum + 13 ≤ R.locals) (hc1 : n1 ≤ R.cells) (hc2 : n2 ≤ R.slots) (h : ZU cl tl Ts own cc nL ret nm R g k Qz L (pc + 3) (.int (if y < x then y else x) :: st) M n1 n2) : ZU cl tl Ts own cc nL ret nm R g k Qz L pc (.int y :: .int x :: st) M n1 n2 := by
  intro X ls H locs hl hL hP hS
  have hts := X.2.2.2.2.1
  exact va_mmin X.1 X.2.1 (by rw [X.2.2.1, hl.2.1, hL]) X.2.2.2.1 (hts _ hlk) (hts _ hst) (hts _ hini) (hts _ hco) hf hlo hc1 hc2 hd (h X ls H locs hl hL hP hS)
/-- the array's own Class object, the same twice -/
theorem z_getC {a ix : Nat} {vs : List Value} (hd : decode cc pc = .ok (.invokevirtual ix, 3)) (hlk : Cond.methodLink own ix ⟨"java/lang/Object", "getClass", "()Ljava/lang/Class;"⟩ ∈ Ts) (hsel : Cond.selects "[Ljava/lang/Object;" ⟨"java/lang/Object", "getClass", "()Ljava/lang/Class;"⟩ ⟨"java/lang/Object", "getClass", "()Ljava/lang/Class;"⟩ ∈ Ts) (hin : Cond.instanceMethod ⟨"java/lang/Object", "getClass", "()Ljava/lang/Class;"⟩ ∈ Ts) (hnat : Cond.native ⟨"java/lang/Object", "getClass", "()Ljava/lang/Class;"⟩ ∈ Ts) (hM : M a = some (.inl (0, vs))) (ht : tl[0]? = some (.object "java/lang/Object")) (hf : 1 ≤ R.frames) (hlo : (st.map fun v => v.category).sum + 14 ≤ R.locals)
    (h : ZU cl tl Ts own cc nL ret nm R g k Qz L (pc + 3) (.ref g.2.2.2.2.1 :: st) M n1 n2) : ZU cl tl Ts own cc nL ret nm R g k Qz L pc (.ref a :: st) M n1 n2 := by
  intro X ls H locs hl hL hP hS
  have hts := X.2.2.2.2.1
  have hmi := X.2.2.2.2.2.2.2.2.1.2.2.2.2.2
  have hra := (X.2.2.2.2.2.2.2.2.1.2.1 0 _ ht).2
  obtain ⟨ce, c1, c2, c3, c4, c5⟩ := hP.cellW hM
  have c4' : ce.vm.isStatics = false := by
    cases hv : ce.vm with
    | statics q => exact absurd hv (c4 q)
    | _ => rfl
  exact va_getC X.1 X.2.1 (by rw [X.2.2.1, hl.2.1, hL]) X.2.2.2.1 (hts _ hlk) (va_Dc.use X.2.2.2.2.2.2.2.2.1.2.2.2.2.1) (hts _ hsel) (hts _ hin) (hts _ hnat) hmi ⟨ce, c1, c4', by rw [c2]; exact va_nmO hra (by decide)⟩ hf hlo hd (h X ls H locs hl hL hP hS)
theorem z_ldcM {ix : Nat} (hd : decode cc pc = .ok (.ldc ix, 2)) (hlk : Cond.classLink own ix "[Ljava/lang/Object;" ∈ Ts) (h : ZU cl tl Ts own cc nL ret nm R g k Qz L (pc + 2) (.ref g.2.2.2.2.1 :: st) M n1 n2) : ZU cl tl Ts own cc nL ret nm R g k Qz L pc st M n1 n2 :=
  fun X ls H locs hl hL hP hS => va_ldcM X.1 X.2.1 X.2.2.2.1 (X.2.2.2.2.1 _ hlk) X.2.2.2.2.2.2.2.2.1.2.2.2.2.2 hd (h X ls H locs hl hL hP hS)
theorem z_irem {x y : Int32} (hd : decode cc pc = .ok (.irem, 1)) (hne : ¬ y = 0) (h : ZU cl tl Ts own cc nL ret nm R g k Qz L (pc + 1) (.int (x - x / y * y) :: st) M n1 n2) : ZU cl tl Ts own cc nL ret nm R g k Qz L pc (.int y :: .int x :: st) M n1 n2 :=
  fun X ls H locs hl hL hP hS => lv_irem X.1 X.2.1 hd hne (h X ls H locs hl hL hP hS)
theorem z_zast {a t j : Nat} {vs : List Value} {x : Int32} (hd : decode cc pc = .ok (.bastore, 1)) (hM : M a = some (.inl (t, vs))) (ht : tl[t]? = some .boolean) (hj : j < 2 ^ 31) (hlt : j < vs.length) (hx : narrow .boolean (.int x) = .int x) (h : ZU cl tl Ts own cc nL ret nm R g k Qz L (pc + 1) st (zset M a (.inl (t, vs.set j (.int x)))) n1 n2) : ZU cl tl Ts own cc nL ret nm R g k Qz L pc (.int x :: .int (nI j) :: .ref a :: st) M n1 n2 := by
  intro X ls H locs hl hL hP hS
  exact W.zast X.1 X.2.1 (hP.cell hM hlt) (zarr_of (X.2.2.2.2.2.2.2.2.1.2.1 t _ ht).1 vs) (fun q => by cases q) (zinb hj hlt) rfl rfl hd fun H' e1 e2 e3 => h X ls H' _ hl hL (hP.setA hM hlt hj (by rw [← hx]; exact e1) e3) (hS.put e2 e3 (hP.arr hM hlt).2)
theorem z_tableOut {dflt lo hi : Int} {offs : Array Int} {len : Nat} {x : Int32} {tgt : Nat} (hd : decode cc pc = .ok (.tableswitch dflt lo hi offs, len)) (hx : x.toInt < lo ∨ hi < x.toInt) (ht : (pc : Int) + dflt = (tgt : Int)) (h : ZU cl tl Ts own cc nL ret nm R g k Qz L tgt st M n1 n2) : ZU cl tl Ts own cc nL ret nm R g k Qz L pc (.int x :: st) M n1 n2 :=
  fun X ls H locs hl hL hP hS => lv_tableOut X.1 X.2.1 hd hx ht (h X ls H locs hl hL hP hS)
theorem z_tableIn {dflt lo hi : Int} {offs : Array Int} {len : Nat} {x : Int32} {off : Int} {tgt : Nat} (hd : decode cc pc = .ok (.tableswitch dflt lo hi offs, len)) (h1 : ¬ x.toInt < lo) (h2 : ¬ hi < x.toInt) (ho : offs[(x.toInt - lo).toNat]? = some off) (ht : (pc : Int) + off = (tgt : Int)) (h : ZU cl tl Ts own cc nL ret nm R g k Qz L tgt st M n1 n2) : ZU cl tl Ts own cc nL ret nm R g k Qz L pc (.int x :: st) M n1 n2 :=
  fun X ls H locs hl hL hP hS => lv_tableIn X.1 X.2.1 hd h1 h2 ho ht (h X ls H locs hl hL hP hS)
theorem z_acmpR_eq {x y : Nat} {off : Int} {tgt : Nat} (hd : decode cc pc = .ok (.if_acmp .eq off, 3)) (ht : (pc : Int) + off = (tgt : Int)) (h1 : x = y → ZU cl tl Ts own cc nL ret nm R g k Qz L tgt st M n1 n2) (h2 : ¬ x = y → ZU cl tl Ts own cc nL ret nm R g k Qz L (pc + 3) st M n1 n2) : ZU cl tl Ts own cc nL ret nm R g k Qz L pc (.ref y :: .ref x :: st) M n1 n2 :=
  z_acmp_eq (x := some x) (y := some y) hd ht (fun q => h1 (Option.some.inj q)) (fun q => h2 (fun e => q (congrArg some e)))
theorem z_acmpR_ne {x y : Nat} {off : Int} {tgt : Nat} (hd : decode cc pc = .ok (.if_acmp .ne off, 3)) (ht : (pc : Int) + off = (tgt : Int)) (h1 : ¬ x = y → ZU cl tl Ts own cc nL ret nm R g k Qz L tgt st M n1 n2) (h2 : x = y → ZU cl tl Ts own cc nL ret nm R g k Qz L (pc + 3) st M n1 n2) : ZU cl tl Ts own cc nL ret nm R g k Qz L pc (.ref y :: .ref x :: st) M n1 n2 :=
  z_acmp_ne (x := some x) (y := some y) hd ht (fun q => h1 (fun e => q (congrArg some e))) (fun q => h2 (Option.some.inj q))
end ZJ
end
section
theorem nI_max {x y : Nat} (hx : x < 2 ^ 31) (hy : y < 2 ^ 31) : (if nI x < nI y then nI y else nI x) = nI (max x y) := by
  by_cases h : x < y
  · rw [if_pos (nI_lt h hy), Nat.max_eq_right (by omega)]
  · rw [if_neg (nI_nlt (by omega) hx), Nat.max_eq_left (by omega)]
theorem nI_min {x y : Nat} (hx : x < 2 ^ 31) (hy : y < 2 ^ 31) : (if nI y < nI x then nI y else nI x) = nI (min x y) := by
  by_cases h : y < x
  · rw [if_pos (nI_lt h hx), Nat.min_eq_right (by omega)]
  · rw [if_neg (nI_nlt (by omega) hy), Nat.min_eq_left (by omega)]
theorem nI_gt0 {n : Nat} (h0 : 0 < n) (h : n < 2 ^ 31) : (0 : Int32) < nI n := by
  have := nI_lt h0 h
  rwa [nI_0] at this
theorem nI_half {n : Nat} (h : n < 2 ^ 31) : nI n >>> ((1 : Int32) &&& 31) = nI (n / 2) := by
  have k := pk_shrN (n := n) h ((1 : Int32) &&& 31) 1 (by decide)
  rw [Nat.pow_one] at k
  exact k
theorem zElems.fresh {cl : List vw_C} {M : ZM} {vs : List Value} {q : Nat} {e : ZE} (h : zElems cl M vs) (hq : M q = none) : zElems cl (zset M q e) vs := by
  intro v hv
  rcases h v hv with h | ⟨b, ci, fs, r, h1, h2, h3⟩
  · exact Or.inl h
  · refine Or.inr ⟨b, ci, fs, r, h1, ?_, h3⟩
    rw [zset_ne]
    · exact h2
    · intro hbq
      rw [hbq, hq] at h2
      cases h2
theorem zfresh_ne {M : ZM} {a q : Nat} {e : ZE} (ha : M a = some e) (hq : M q = none) : a ≠ q := by
  intro h
  rw [h, hq] at ha
  cases ha
theorem zcopy_grow (vs : List Value) {m : Nat} (h : vs.length ≤ m) : zcopy vs (List.replicate m .null) 0 0 vs.length = vs ++ List.replicate (m - vs.length) .null := by
  apply List.ext_getElem
  · simp [zcopy]
    omega
  · intro i h1 h2
    simp [zcopy] at h1
    simp only [zcopy, List.getElem_map, List.getElem_range]
    by_cases hi : i < vs.length
    · rw [if_pos ⟨Nat.zero_le _, by omega⟩, List.getElem_append_left hi]
      simp [hi]
    · rw [if_neg (by omega), List.getElem_append_right (by omega)]
      simp [h1]
/-- how many places a list's array has behind an add -/
def capA (n cap : Nat) : Nat := if n < cap then cap else if cap = 0 then 10 else cap + max 1 (cap / 2)
theorem capA_gt {n cap : Nat} (h : n ≤ cap) : n < capA n cap := by
  unfold capA
  split
  · omega
  · split <;> omega
theorem capA_ge {n cap : Nat} (h : n ≤ cap) : cap ≤ capA n cap := by
  unfold capA
  split
  · omega
  · split <;> omega
end
