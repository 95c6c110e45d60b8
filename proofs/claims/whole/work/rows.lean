section
-- ===== PART A: goes FIRST, ahead of the names: the tables' words, and 'selects' of the private methods out of them =====
/-- a private method of a class that the tables say can be made, by its rows of tables_1 -/
def lw_okq (q : MethodName × Nat) : Prop := (q.1.cls ≠ "java/lang/invoke/MethodHandle" ∧ q.1.cls ≠ "java/lang/invoke/VarHandle") ∧ Cond.instantiable q.1.cls q.2 ∈ tables_1 ∧ Cond.privateMethod q.1 ∈ tables_1 ∧ Cond.instanceMethod q.1 ∈ tables_1
theorem lw_p0 : lw_okq (⟨"MonitorQueues", "isQueue", "(I)Z"⟩, 7) := ⟨⟨by decide +kernel, by decide +kernel⟩, List.mem_of_getElem? (i := 22) (by decide +kernel), List.mem_of_getElem? (i := 137) (by decide +kernel), List.mem_of_getElem? (i := 138) (by decide +kernel)⟩
theorem lw_p1 : lw_okq (⟨"MonitorQueues", "allItems", "()I"⟩, 7) := ⟨⟨by decide +kernel, by decide +kernel⟩, List.mem_of_getElem? (i := 22) (by decide +kernel), List.mem_of_getElem? (i := 152) (by decide +kernel), List.mem_of_getElem? (i := 153) (by decide +kernel)⟩
theorem lw_p2 : lw_okq (⟨"java/util/ArrayList", "add", "(Ljava/lang/Object;[Ljava/lang/Object;I)V"⟩, 3) := ⟨⟨by decide +kernel, by decide +kernel⟩, List.mem_of_getElem? (i := 43) (by decide +kernel), List.mem_of_getElem? (i := 184) (by decide +kernel), List.mem_of_getElem? (i := 185) (by decide +kernel)⟩
theorem lw_p3 : lw_okq (⟨"java/util/ArrayList", "grow", "()[Ljava/lang/Object;"⟩, 3) := ⟨⟨by decide +kernel, by decide +kernel⟩, List.mem_of_getElem? (i := 43) (by decide +kernel), List.mem_of_getElem? (i := 188) (by decide +kernel), List.mem_of_getElem? (i := 189) (by decide +kernel)⟩
theorem lw_p4 : lw_okq (⟨"java/util/ArrayList", "grow", "(I)[Ljava/lang/Object;"⟩, 3) := ⟨⟨by decide +kernel, by decide +kernel⟩, List.mem_of_getElem? (i := 43) (by decide +kernel), List.mem_of_getElem? (i := 192) (by decide +kernel), List.mem_of_getElem? (i := 193) (by decide +kernel)⟩
theorem lw_p5 : lw_okq (⟨"MonitorQueues", "lookAtTriggers", "()V"⟩, 7) := ⟨⟨by decide +kernel, by decide +kernel⟩, List.mem_of_getElem? (i := 22) (by decide +kernel), List.mem_of_getElem? (i := 240) (by decide +kernel), List.mem_of_getElem? (i := 241) (by decide +kernel)⟩
theorem lw_p6 : lw_okq (⟨"MonitorQueues", "look", "(LMonitorQueues$Trigger;I)V"⟩, 7) := ⟨⟨by decide +kernel, by decide +kernel⟩, List.mem_of_getElem? (i := 22) (by decide +kernel), List.mem_of_getElem? (i := 248) (by decide +kernel), List.mem_of_getElem? (i := 249) (by decide +kernel)⟩
theorem lw_p7 : lw_okq (⟨"MonitorQueues", "beginFor", "(LMonitorQueues$Trigger;)I"⟩, 7) := ⟨⟨by decide +kernel, by decide +kernel⟩, List.mem_of_getElem? (i := 22) (by decide +kernel), List.mem_of_getElem? (i := 252) (by decide +kernel), List.mem_of_getElem? (i := 253) (by decide +kernel)⟩
theorem lw_p8 : lw_okq (⟨"MonitorQueues", "begin", "(I)I"⟩, 7) := ⟨⟨by decide +kernel, by decide +kernel⟩, List.mem_of_getElem? (i := 22) (by decide +kernel), List.mem_of_getElem? (i := 256) (by decide +kernel), List.mem_of_getElem? (i := 257) (by decide +kernel)⟩
theorem lw_p9 : lw_okq (⟨"java/util/ArrayList", "fastRemove", "([Ljava/lang/Object;I)V"⟩, 3) := ⟨⟨by decide +kernel, by decide +kernel⟩, List.mem_of_getElem? (i := 43) (by decide +kernel), List.mem_of_getElem? (i := 320) (by decide +kernel), List.mem_of_getElem? (i := 321) (by decide +kernel)⟩
theorem lw_p10 : lw_okq (⟨"MonitorQueues", "isTask", "(I)Z"⟩, 7) := ⟨⟨by decide +kernel, by decide +kernel⟩, List.mem_of_getElem? (i := 22) (by decide +kernel), List.mem_of_getElem? (i := 370) (by decide +kernel), List.mem_of_getElem? (i := 371) (by decide +kernel)⟩
theorem lw_p11 : lw_okq (⟨"MonitorQueues", "beginAgain", "(I)I"⟩, 7) := ⟨⟨by decide +kernel, by decide +kernel⟩, List.mem_of_getElem? (i := 22) (by decide +kernel), List.mem_of_getElem? (i := 379) (by decide +kernel), List.mem_of_getElem? (i := 380) (by decide +kernel)⟩
theorem lw_p12 : lw_okq (⟨"MonitorQueues", "keepWaiting", "(LMonitorQueues$Delay;)V"⟩, 7) := ⟨⟨by decide +kernel, by decide +kernel⟩, List.mem_of_getElem? (i := 22) (by decide +kernel), List.mem_of_getElem? (i := 411) (by decide +kernel), List.mem_of_getElem? (i := 412) (by decide +kernel)⟩
theorem lw_p13 : lw_okq (⟨"java/util/ArrayList", "rangeCheckForAdd", "(I)V"⟩, 3) := ⟨⟨by decide +kernel, by decide +kernel⟩, List.mem_of_getElem? (i := 43) (by decide +kernel), List.mem_of_getElem? (i := 419) (by decide +kernel), List.mem_of_getElem? (i := 420) (by decide +kernel)⟩
theorem lw_p14 : lw_okq (⟨"MonitorQueues", "postDue", "()I"⟩, 7) := ⟨⟨by decide +kernel, by decide +kernel⟩, List.mem_of_getElem? (i := 22) (by decide +kernel), List.mem_of_getElem? (i := 423) (by decide +kernel), List.mem_of_getElem? (i := 424) (by decide +kernel)⟩
theorem lw_p15 : lw_okq (⟨"java/lang/Throwable", "fillInStackTrace", "(I)Ljava/lang/Throwable;"⟩, 6) := ⟨⟨by decide +kernel, by decide +kernel⟩, List.mem_of_getElem? (i := 504) (by decide +kernel), List.mem_of_getElem? (i := 502) (by decide +kernel), List.mem_of_getElem? (i := 503) (by decide +kernel)⟩
def lw_privs_1 : List (MethodName × Nat) := [(⟨"MonitorQueues", "isQueue", "(I)Z"⟩, 7), (⟨"MonitorQueues", "allItems", "()I"⟩, 7), (⟨"java/util/ArrayList", "add", "(Ljava/lang/Object;[Ljava/lang/Object;I)V"⟩, 3), (⟨"java/util/ArrayList", "grow", "()[Ljava/lang/Object;"⟩, 3), (⟨"java/util/ArrayList", "grow", "(I)[Ljava/lang/Object;"⟩, 3), (⟨"MonitorQueues", "lookAtTriggers", "()V"⟩, 7), (⟨"MonitorQueues", "look", "(LMonitorQueues$Trigger;I)V"⟩, 7), (⟨"MonitorQueues", "beginFor", "(LMonitorQueues$Trigger;)I"⟩, 7), (⟨"MonitorQueues", "begin", "(I)I"⟩, 7), (⟨"java/util/ArrayList", "fastRemove", "([Ljava/lang/Object;I)V"⟩, 3), (⟨"MonitorQueues", "isTask", "(I)Z"⟩, 7), (⟨"MonitorQueues", "beginAgain", "(I)I"⟩, 7), (⟨"MonitorQueues", "keepWaiting", "(LMonitorQueues$Delay;)V"⟩, 7), (⟨"java/util/ArrayList", "rangeCheckForAdd", "(I)V"⟩, 3), (⟨"MonitorQueues", "postDue", "()I"⟩, 7), (⟨"java/lang/Throwable", "fillInStackTrace", "(I)Ljava/lang/Throwable;"⟩, 6)]
theorem lw_r1 : ∀ q ∈ lw_privs_1, lw_okq q := List.forall_mem_cons.mpr ⟨lw_p0, List.forall_mem_cons.mpr ⟨lw_p1, List.forall_mem_cons.mpr ⟨lw_p2, List.forall_mem_cons.mpr ⟨lw_p3, List.forall_mem_cons.mpr ⟨lw_p4, List.forall_mem_cons.mpr ⟨lw_p5, List.forall_mem_cons.mpr ⟨lw_p6, List.forall_mem_cons.mpr ⟨lw_p7, List.forall_mem_cons.mpr ⟨lw_p8, List.forall_mem_cons.mpr ⟨lw_p9, List.forall_mem_cons.mpr ⟨lw_p10, List.forall_mem_cons.mpr ⟨lw_p11, List.forall_mem_cons.mpr ⟨lw_p12, List.forall_mem_cons.mpr ⟨lw_p13, List.forall_mem_cons.mpr ⟨lw_p14, List.forall_mem_cons.mpr ⟨lw_p15, fun _ h => absurd h List.not_mem_nil⟩⟩⟩⟩⟩⟩⟩⟩⟩⟩⟩⟩⟩⟩⟩⟩
theorem lw_p16 : lw_okq (⟨"MonitorQueuesModel", "putting", "(IIJI)I"⟩, 28) := ⟨⟨by decide +kernel, by decide +kernel⟩, List.mem_of_getElem? (i := 536) (by decide +kernel), List.mem_of_getElem? (i := 637) (by decide +kernel), List.mem_of_getElem? (i := 638) (by decide +kernel)⟩
theorem lw_p17 : lw_okq (⟨"MonitorQueuesModel", "lockOf", "(I)I"⟩, 28) := ⟨⟨by decide +kernel, by decide +kernel⟩, List.mem_of_getElem? (i := 536) (by decide +kernel), List.mem_of_getElem? (i := 644) (by decide +kernel), List.mem_of_getElem? (i := 645) (by decide +kernel)⟩
theorem lw_p18 : lw_okq (⟨"MonitorQueuesModel", "many", "(I)I"⟩, 28) := ⟨⟨by decide +kernel, by decide +kernel⟩, List.mem_of_getElem? (i := 536) (by decide +kernel), List.mem_of_getElem? (i := 648) (by decide +kernel), List.mem_of_getElem? (i := 649) (by decide +kernel)⟩
theorem lw_p19 : lw_okq (⟨"MonitorQueuesModel", "answer", "(I)I"⟩, 28) := ⟨⟨by decide +kernel, by decide +kernel⟩, List.mem_of_getElem? (i := 536) (by decide +kernel), List.mem_of_getElem? (i := 652) (by decide +kernel), List.mem_of_getElem? (i := 653) (by decide +kernel)⟩
theorem lw_p20 : lw_okq (⟨"MonitorQueuesModel", "look", "()V"⟩, 28) := ⟨⟨by decide +kernel, by decide +kernel⟩, List.mem_of_getElem? (i := 536) (by decide +kernel), List.mem_of_getElem? (i := 656) (by decide +kernel), List.mem_of_getElem? (i := 657) (by decide +kernel)⟩
theorem lw_p21 : lw_okq (⟨"MonitorQueuesModel", "standing", "(I)I"⟩, 28) := ⟨⟨by decide +kernel, by decide +kernel⟩, List.mem_of_getElem? (i := 536) (by decide +kernel), List.mem_of_getElem? (i := 660) (by decide +kernel), List.mem_of_getElem? (i := 661) (by decide +kernel)⟩
theorem lw_p22 : lw_okq (⟨"MonitorQueuesModel", "task", "(I)I"⟩, 28) := ⟨⟨by decide +kernel, by decide +kernel⟩, List.mem_of_getElem? (i := 536) (by decide +kernel), List.mem_of_getElem? (i := 664) (by decide +kernel), List.mem_of_getElem? (i := 665) (by decide +kernel)⟩
theorem lw_p23 : lw_okq (⟨"MonitorQueuesModel", "isTemporary", "(I)Z"⟩, 28) := ⟨⟨by decide +kernel, by decide +kernel⟩, List.mem_of_getElem? (i := 536) (by decide +kernel), List.mem_of_getElem? (i := 672) (by decide +kernel), List.mem_of_getElem? (i := 673) (by decide +kernel)⟩
theorem lw_p24 : lw_okq (⟨"MonitorQueuesModel", "placeOf", "(II)I"⟩, 28) := ⟨⟨by decide +kernel, by decide +kernel⟩, List.mem_of_getElem? (i := 536) (by decide +kernel), List.mem_of_getElem? (i := 676) (by decide +kernel), List.mem_of_getElem? (i := 677) (by decide +kernel)⟩
theorem lw_p25 : lw_okq (⟨"MonitorQueuesModel", "nexting", "(II)I"⟩, 28) := ⟨⟨by decide +kernel, by decide +kernel⟩, List.mem_of_getElem? (i := 536) (by decide +kernel), List.mem_of_getElem? (i := 684) (by decide +kernel), List.mem_of_getElem? (i := 685) (by decide +kernel)⟩
theorem lw_p26 : lw_okq (⟨"MonitorQueuesModel", "isTransient", "(I)Z"⟩, 28) := ⟨⟨by decide +kernel, by decide +kernel⟩, List.mem_of_getElem? (i := 536) (by decide +kernel), List.mem_of_getElem? (i := 688) (by decide +kernel), List.mem_of_getElem? (i := 689) (by decide +kernel)⟩
theorem lw_p27 : lw_okq (⟨"MonitorQueuesModel", "taking", "(I)I"⟩, 28) := ⟨⟨by decide +kernel, by decide +kernel⟩, List.mem_of_getElem? (i := 536) (by decide +kernel), List.mem_of_getElem? (i := 696) (by decide +kernel), List.mem_of_getElem? (i := 697) (by decide +kernel)⟩
theorem lw_p28 : lw_okq (⟨"MonitorQueuesModel", "remove", "(I)V"⟩, 28) := ⟨⟨by decide +kernel, by decide +kernel⟩, List.mem_of_getElem? (i := 536) (by decide +kernel), List.mem_of_getElem? (i := 700) (by decide +kernel), List.mem_of_getElem? (i := 701) (by decide +kernel)⟩
theorem lw_p29 : lw_okq (⟨"MonitorQueuesModel", "emptied", "(I)V"⟩, 28) := ⟨⟨by decide +kernel, by decide +kernel⟩, List.mem_of_getElem? (i := 536) (by decide +kernel), List.mem_of_getElem? (i := 704) (by decide +kernel), List.mem_of_getElem? (i := 705) (by decide +kernel)⟩
theorem lw_p30 : lw_okq (⟨"MonitorQueuesModel", "triggers", "(III)I"⟩, 28) := ⟨⟨by decide +kernel, by decide +kernel⟩, List.mem_of_getElem? (i := 536) (by decide +kernel), List.mem_of_getElem? (i := 712) (by decide +kernel), List.mem_of_getElem? (i := 713) (by decide +kernel)⟩
theorem lw_p31 : lw_okq (⟨"MonitorQueuesModel", "ending", "(I)I"⟩, 28) := ⟨⟨by decide +kernel, by decide +kernel⟩, List.mem_of_getElem? (i := 536) (by decide +kernel), List.mem_of_getElem? (i := 724) (by decide +kernel), List.mem_of_getElem? (i := 725) (by decide +kernel)⟩
def lw_privs_2 : List (MethodName × Nat) := [(⟨"MonitorQueuesModel", "putting", "(IIJI)I"⟩, 28), (⟨"MonitorQueuesModel", "lockOf", "(I)I"⟩, 28), (⟨"MonitorQueuesModel", "many", "(I)I"⟩, 28), (⟨"MonitorQueuesModel", "answer", "(I)I"⟩, 28), (⟨"MonitorQueuesModel", "look", "()V"⟩, 28), (⟨"MonitorQueuesModel", "standing", "(I)I"⟩, 28), (⟨"MonitorQueuesModel", "task", "(I)I"⟩, 28), (⟨"MonitorQueuesModel", "isTemporary", "(I)Z"⟩, 28), (⟨"MonitorQueuesModel", "placeOf", "(II)I"⟩, 28), (⟨"MonitorQueuesModel", "nexting", "(II)I"⟩, 28), (⟨"MonitorQueuesModel", "isTransient", "(I)Z"⟩, 28), (⟨"MonitorQueuesModel", "taking", "(I)I"⟩, 28), (⟨"MonitorQueuesModel", "remove", "(I)V"⟩, 28), (⟨"MonitorQueuesModel", "emptied", "(I)V"⟩, 28), (⟨"MonitorQueuesModel", "triggers", "(III)I"⟩, 28), (⟨"MonitorQueuesModel", "ending", "(I)I"⟩, 28)]
theorem lw_r2 : ∀ q ∈ lw_privs_2, lw_okq q := List.forall_mem_cons.mpr ⟨lw_p16, List.forall_mem_cons.mpr ⟨lw_p17, List.forall_mem_cons.mpr ⟨lw_p18, List.forall_mem_cons.mpr ⟨lw_p19, List.forall_mem_cons.mpr ⟨lw_p20, List.forall_mem_cons.mpr ⟨lw_p21, List.forall_mem_cons.mpr ⟨lw_p22, List.forall_mem_cons.mpr ⟨lw_p23, List.forall_mem_cons.mpr ⟨lw_p24, List.forall_mem_cons.mpr ⟨lw_p25, List.forall_mem_cons.mpr ⟨lw_p26, List.forall_mem_cons.mpr ⟨lw_p27, List.forall_mem_cons.mpr ⟨lw_p28, List.forall_mem_cons.mpr ⟨lw_p29, List.forall_mem_cons.mpr ⟨lw_p30, List.forall_mem_cons.mpr ⟨lw_p31, fun _ h => absurd h List.not_mem_nil⟩⟩⟩⟩⟩⟩⟩⟩⟩⟩⟩⟩⟩⟩⟩⟩
theorem lw_p32 : lw_okq (⟨"MonitorQueuesModel", "rewriting", "(IIJ)I"⟩, 28) := ⟨⟨by decide +kernel, by decide +kernel⟩, List.mem_of_getElem? (i := 536) (by decide +kernel), List.mem_of_getElem? (i := 732) (by decide +kernel), List.mem_of_getElem? (i := 733) (by decide +kernel)⟩
theorem lw_p33 : lw_okq (⟨"MonitorQueuesModel", "drop", "(I)V"⟩, 28) := ⟨⟨by decide +kernel, by decide +kernel⟩, List.mem_of_getElem? (i := 536) (by decide +kernel), List.mem_of_getElem? (i := 744) (by decide +kernel), List.mem_of_getElem? (i := 745) (by decide +kernel)⟩
theorem lw_p34 : lw_okq (⟨"MonitorQueuesModel", "unitEnds", "(IZ)I"⟩, 28) := ⟨⟨by decide +kernel, by decide +kernel⟩, List.mem_of_getElem? (i := 536) (by decide +kernel), List.mem_of_getElem? (i := 756) (by decide +kernel), List.mem_of_getElem? (i := 757) (by decide +kernel)⟩
def lw_privs_3 : List (MethodName × Nat) := [(⟨"MonitorQueuesModel", "rewriting", "(IIJ)I"⟩, 28), (⟨"MonitorQueuesModel", "drop", "(I)V"⟩, 28), (⟨"MonitorQueuesModel", "unitEnds", "(IZ)I"⟩, 28)]
theorem lw_r3 : ∀ q ∈ lw_privs_3, lw_okq q := List.forall_mem_cons.mpr ⟨lw_p32, List.forall_mem_cons.mpr ⟨lw_p33, List.forall_mem_cons.mpr ⟨lw_p34, fun _ h => absurd h List.not_mem_nil⟩⟩⟩
def lw_privs : List (MethodName × Nat) := lw_privs_1 ++ (lw_privs_2 ++ (lw_privs_3))
def lw_tbl : List Cond := k2_sels lw_privs ++ tables_1
theorem lw_privs_ok : ∀ q ∈ lw_privs, lw_okq q := by
  show ∀ q ∈ lw_privs_1 ++ (lw_privs_2 ++ (lw_privs_3)), lw_okq q
  exact List.forall_mem_append.mpr ⟨lw_r1, List.forall_mem_append.mpr ⟨lw_r2, lw_r3⟩⟩
end
section
abbrev b_MQ_init : ByteArray := prog_1_method_1_code
def y_MQ_init : MethodName := ⟨"MonitorQueues", "<init>", "(I)V"⟩
abbrev b_Oj_init : ByteArray := object_method_1_code
def y_Oj_init : MethodName := ⟨"java/lang/Object", "<init>", "()V"⟩
abbrev b_Ma_min : ByteArray := prog_13_method_69_code
def y_Ma_min : MethodName := ⟨"java/lang/Math", "min", "(II)I"⟩
abbrev b_Ma_max : ByteArray := prog_13_method_65_code
def y_Ma_max : MethodName := ⟨"java/lang/Math", "max", "(II)I"⟩
abbrev b_Qu_init : ByteArray := prog_4_method_1_code
def y_Qu_init : MethodName := ⟨"MonitorQueues$Queue", "<init>", "()V"⟩
abbrev b_AL_init : ByteArray := prog_20_method_2_code
def y_AL_init : MethodName := ⟨"java/util/ArrayList", "<init>", "()V"⟩
abbrev b_AB_init : ByteArray := prog_19_method_1_code
def y_AB_init : MethodName := ⟨"java/util/AbstractList", "<init>", "()V"⟩
abbrev b_AC_init : ByteArray := prog_18_method_1_code
def y_AC_init : MethodName := ⟨"java/util/AbstractCollection", "<init>", "()V"⟩
abbrev b_MQ_put : ByteArray := prog_1_method_2_code
def y_MQ_put : MethodName := ⟨"MonitorQueues", "put", "(IIJI)I"⟩
abbrev b_MQ_isQueue : ByteArray := prog_1_method_16_code
def y_MQ_isQueue : MethodName := ⟨"MonitorQueues", "isQueue", "(I)Z"⟩
abbrev b_Qu_admits : ByteArray := prog_4_method_9_code
def y_Qu_admits : MethodName := ⟨"MonitorQueues$Queue", "admits", "(I)Z"⟩
abbrev b_Qu_isTransientKind : ByteArray := prog_4_method_2_code
def y_Qu_isTransientKind : MethodName := ⟨"MonitorQueues$Queue", "isTransientKind", "(I)Z"⟩
abbrev b_Qu_isLocked : ByteArray := prog_4_method_6_code
def y_Qu_isLocked : MethodName := ⟨"MonitorQueues$Queue", "isLocked", "()Z"⟩
abbrev b_MQ_allItems : ByteArray := prog_1_method_18_code
def y_MQ_allItems : MethodName := ⟨"MonitorQueues", "allItems", "()I"⟩
abbrev b_AL_size : ByteArray := prog_20_method_8_code
def y_AL_size : MethodName := ⟨"java/util/ArrayList", "size", "()I"⟩
abbrev b_Qu_touch : ByteArray := prog_4_method_10_code
def y_Qu_touch : MethodName := ⟨"MonitorQueues$Queue", "touch", "(J)V"⟩
abbrev b_Qu_append : ByteArray := prog_4_method_11_code
def y_Qu_append : MethodName := ⟨"MonitorQueues$Queue", "append", "(IJI)I"⟩
abbrev b_It_init : ByteArray := prog_3_method_1_code
def y_It_init : MethodName := ⟨"MonitorQueues$Item", "<init>", "(J)V"⟩
abbrev b_AL_add : ByteArray := prog_20_method_25_code
def y_AL_add : MethodName := ⟨"java/util/ArrayList", "add", "(Ljava/lang/Object;)Z"⟩
abbrev b_AL_add2 : ByteArray := prog_20_method_24_code
def y_AL_add2 : MethodName := ⟨"java/util/ArrayList", "add", "(Ljava/lang/Object;[Ljava/lang/Object;I)V"⟩
abbrev b_AL_add3 : ByteArray := prog_20_method_26_code
def y_AL_add3 : MethodName := ⟨"java/util/ArrayList", "add", "(ILjava/lang/Object;)V"⟩
abbrev b_AL_grow : ByteArray := prog_20_method_7_code
def y_AL_grow : MethodName := ⟨"java/util/ArrayList", "grow", "()[Ljava/lang/Object;"⟩
abbrev b_AL_grow2 : ByteArray := prog_20_method_6_code
def y_AL_grow2 : MethodName := ⟨"java/util/ArrayList", "grow", "(I)[Ljava/lang/Object;"⟩
abbrev b_AS_newLength : ByteArray := prog_28_method_27_code
def y_AS_newLength : MethodName := ⟨"jdk/internal/util/ArraysSupport", "newLength", "(III)I"⟩
abbrev b_AS_hugeLength : ByteArray := prog_28_method_28_code
def y_AS_hugeLength : MethodName := ⟨"jdk/internal/util/ArraysSupport", "hugeLength", "(II)I"⟩
abbrev b_Ar_copyOf : ByteArray := prog_21_method_119_code
def y_Ar_copyOf : MethodName := ⟨"java/util/Arrays", "copyOf", "([Ljava/lang/Object;I)[Ljava/lang/Object;"⟩
abbrev b_Ar_copyOf2 : ByteArray := prog_21_method_120_code
def y_Ar_copyOf2 : MethodName := ⟨"java/util/Arrays", "copyOf", "([Ljava/lang/Object;ILjava/lang/Class;)[Ljava/lang/Object;"⟩
abbrev b_Qu_isProtectedKind : ByteArray := prog_4_method_3_code
def y_Qu_isProtectedKind : MethodName := ⟨"MonitorQueues$Queue", "isProtectedKind", "(I)Z"⟩
abbrev b_Qu_isTransient : ByteArray := prog_4_method_4_code
def y_Qu_isTransient : MethodName := ⟨"MonitorQueues$Queue", "isTransient", "()Z"⟩
abbrev b_MQ_lookAtTriggers : ByteArray := prog_1_method_21_code
def y_MQ_lookAtTriggers : MethodName := ⟨"MonitorQueues", "lookAtTriggers", "()V"⟩
abbrev b_Qu_standing : ByteArray := prog_4_method_7_code
def y_Qu_standing : MethodName := ⟨"MonitorQueues$Queue", "standing", "()I"⟩
abbrev b_MQ_look : ByteArray := prog_1_method_22_code
def y_MQ_look : MethodName := ⟨"MonitorQueues", "look", "(LMonitorQueues$Trigger;I)V"⟩
abbrev b_MQ_beginFor : ByteArray := prog_1_method_20_code
def y_MQ_beginFor : MethodName := ⟨"MonitorQueues", "beginFor", "(LMonitorQueues$Trigger;)I"⟩
abbrev b_MQ_begin : ByteArray := prog_1_method_19_code
def y_MQ_begin : MethodName := ⟨"MonitorQueues", "begin", "(I)I"⟩
abbrev b_Ta_init : ByteArray := prog_5_method_1_code
def y_Ta_init : MethodName := ⟨"MonitorQueues$Task", "<init>", "(I)V"⟩
abbrev b_MQ_next : ByteArray := prog_1_method_4_code
def y_MQ_next : MethodName := ⟨"MonitorQueues", "next", "(II)I"⟩
abbrev b_Qu_holds : ByteArray := prog_4_method_8_code
def y_Qu_holds : MethodName := ⟨"MonitorQueues$Queue", "holds", "(I)Z"⟩
abbrev b_MQ_take : ByteArray := prog_1_method_5_code
def y_MQ_take : MethodName := ⟨"MonitorQueues", "take", "(I)I"⟩
abbrev b_Qu_isTemporary : ByteArray := prog_4_method_5_code
def y_Qu_isTemporary : MethodName := ⟨"MonitorQueues$Queue", "isTemporary", "()Z"⟩
abbrev b_AL_isEmpty : ByteArray := prog_20_method_9_code
def y_AL_isEmpty : MethodName := ⟨"java/util/ArrayList", "isEmpty", "()Z"⟩
abbrev b_Qu_removeFirst : ByteArray := prog_4_method_12_code
def y_Qu_removeFirst : MethodName := ⟨"MonitorQueues$Queue", "removeFirst", "()I"⟩
abbrev b_AL_get : ByteArray := prog_20_method_20_code
def y_AL_get : MethodName := ⟨"java/util/ArrayList", "get", "(I)Ljava/lang/Object;"⟩
abbrev b_Ob_checkIndex : ByteArray := prog_25_method_17_code
def y_Ob_checkIndex : MethodName := ⟨"java/util/Objects", "checkIndex", "(II)I"⟩
abbrev b_Pr_checkIndex : ByteArray := prog_29_method_11_code
def y_Pr_checkIndex : MethodName := ⟨"jdk/internal/util/Preconditions", "checkIndex", "(IILjava/util/function/BiFunction;)I"⟩
abbrev b_AL_elementData : ByteArray := prog_20_method_18_code
def y_AL_elementData : MethodName := ⟨"java/util/ArrayList", "elementData", "(I)Ljava/lang/Object;"⟩
abbrev b_AL_remove : ByteArray := prog_20_method_29_code
def y_AL_remove : MethodName := ⟨"java/util/ArrayList", "remove", "(I)Ljava/lang/Object;"⟩
abbrev b_AL_fastRemove : ByteArray := prog_20_method_39_code
def y_AL_fastRemove : MethodName := ⟨"java/util/ArrayList", "fastRemove", "([Ljava/lang/Object;I)V"⟩
abbrev b_Qu_becomeEmpty : ByteArray := prog_4_method_15_code
def y_Qu_becomeEmpty : MethodName := ⟨"MonitorQueues$Queue", "becomeEmpty", "()V"⟩
abbrev b_AL_clear : ByteArray := prog_20_method_40_code
def y_AL_clear : MethodName := ⟨"java/util/ArrayList", "clear", "()V"⟩
abbrev b_Ar_fill : ByteArray := prog_21_method_103_code
def y_Ar_fill : MethodName := ⟨"java/util/Arrays", "fill", "([II)V"⟩
abbrev b_MQ_trigger : ByteArray := prog_1_method_6_code
def y_MQ_trigger : MethodName := ⟨"MonitorQueues", "trigger", "(III)I"⟩
abbrev b_Tr_init : ByteArray := prog_6_method_1_code
def y_Tr_init : MethodName := ⟨"MonitorQueues$Trigger", "<init>", "(II)V"⟩
abbrev b_MQ_started : ByteArray := prog_1_method_7_code
def y_MQ_started : MethodName := ⟨"MonitorQueues", "started", "(I)I"⟩
abbrev b_MQ_isTask : ByteArray := prog_1_method_17_code
def y_MQ_isTask : MethodName := ⟨"MonitorQueues", "isTask", "(I)Z"⟩
abbrev b_MQ_end : ByteArray := prog_1_method_8_code
def y_MQ_end : MethodName := ⟨"MonitorQueues", "end", "(I)I"⟩
abbrev b_MQ_beginAgain : ByteArray := prog_1_method_23_code
def y_MQ_beginAgain : MethodName := ⟨"MonitorQueues", "beginAgain", "(I)I"⟩
abbrev b_MQ_rewrite : ByteArray := prog_1_method_9_code
def y_MQ_rewrite : MethodName := ⟨"MonitorQueues", "rewrite", "(IIJ)I"⟩
abbrev b_MQ_delay : ByteArray := prog_1_method_10_code
def y_MQ_delay : MethodName := ⟨"MonitorQueues", "delay", "(IJ)I"⟩
abbrev b_De_init : ByteArray := prog_2_method_1_code
def y_De_init : MethodName := ⟨"MonitorQueues$Delay", "<init>", "(IIJ)V"⟩
abbrev b_MQ_keepWaiting : ByteArray := prog_1_method_24_code
def y_MQ_keepWaiting : MethodName := ⟨"MonitorQueues", "keepWaiting", "(LMonitorQueues$Delay;)V"⟩
abbrev b_AL_rangeCheckForAdd : ByteArray := prog_20_method_45_code
def y_AL_rangeCheckForAdd : MethodName := ⟨"java/util/ArrayList", "rangeCheckForAdd", "(I)V"⟩
abbrev b_MQ_postDue : ByteArray := prog_1_method_25_code
def y_MQ_postDue : MethodName := ⟨"MonitorQueues", "postDue", "()I"⟩
abbrev b_MQ_cancel : ByteArray := prog_1_method_11_code
def y_MQ_cancel : MethodName := ⟨"MonitorQueues", "cancel", "(I)I"⟩
abbrev b_MQ_tick : ByteArray := prog_1_method_12_code
def y_MQ_tick : MethodName := ⟨"MonitorQueues", "tick", "(J)I"⟩
abbrev b_MQ_unit : ByteArray := prog_1_method_13_code
def y_MQ_unit : MethodName := ⟨"MonitorQueues", "unit", "(IZ)I"⟩
abbrev b_Qu_endPending : ByteArray := prog_4_method_13_code
def y_Qu_endPending : MethodName := ⟨"MonitorQueues$Queue", "endPending", "(Z)I"⟩
abbrev b_Qu_dropLast : ByteArray := prog_4_method_14_code
def y_Qu_dropLast : MethodName := ⟨"MonitorQueues$Queue", "dropLast", "(I)V"⟩
abbrev b_MQ_age : ByteArray := prog_1_method_14_code
def y_MQ_age : MethodName := ⟨"MonitorQueues", "age", "(J)I"⟩
abbrev b_MQ_count : ByteArray := prog_1_method_15_code
def y_MQ_count : MethodName := ⟨"MonitorQueues", "count", "(I)I"⟩
abbrev b_La_cell : ByteArray := method_2_code
def y_La_cell : MethodName := ⟨"MonitorQueuesLaw", "cell", "([II)I"⟩
abbrev b_La_get : ByteArray := method_3_code
def y_La_get : MethodName := ⟨"MonitorQueuesLaw", "get", "(LMonitorQueues;II[J)I"⟩
abbrev b_MQ_get : ByteArray := prog_1_method_3_code
def y_MQ_get : MethodName := ⟨"MonitorQueues", "get", "(II)J"⟩
abbrev b_Th_init : ByteArray := prog_17_method_1_code
def y_Th_init : MethodName := ⟨"java/lang/Throwable", "<init>", "()V"⟩
abbrev b_Th_init2 : ByteArray := prog_17_method_2_code
def y_Th_init2 : MethodName := ⟨"java/lang/Throwable", "<init>", "(Ljava/lang/String;)V"⟩
abbrev b_Th_fillInStackTrace : ByteArray := prog_17_method_18_code
def y_Th_fillInStackTrace : MethodName := ⟨"java/lang/Throwable", "fillInStackTrace", "()Ljava/lang/Throwable;"⟩
abbrev b_Ne_init : ByteArray := prog_24_method_4_code
def y_Ne_init : MethodName := ⟨"java/util/NoSuchElementException", "<init>", "(Ljava/lang/String;)V"⟩
abbrev b_Re_init : ByteArray := prog_14_method_2_code
def y_Re_init : MethodName := ⟨"java/lang/RuntimeException", "<init>", "(Ljava/lang/String;)V"⟩
abbrev b_Ex_init : ByteArray := prog_11_method_2_code
def y_Ex_init : MethodName := ⟨"java/lang/Exception", "<init>", "(Ljava/lang/String;)V"⟩
abbrev b_Mo_init : ByteArray := prog_8_method_1_code
def y_Mo_init : MethodName := ⟨"MonitorQueuesModel", "<init>", "(I)V"⟩
abbrev b_Mo_thrown : ByteArray := prog_8_method_2_code
def y_Mo_thrown : MethodName := ⟨"MonitorQueuesModel", "thrown", "()I"⟩
abbrev b_Mo_put : ByteArray := prog_8_method_16_code
def y_Mo_put : MethodName := ⟨"MonitorQueuesModel", "put", "(IIJI)I"⟩
abbrev b_Mo_putting : ByteArray := prog_8_method_15_code
def y_Mo_putting : MethodName := ⟨"MonitorQueuesModel", "putting", "(IIJI)I"⟩
abbrev b_Mo_isQueue : ByteArray := prog_8_method_3_code
def y_Mo_isQueue : MethodName := ⟨"MonitorQueuesModel", "isQueue", "(I)Z"⟩
abbrev b_Mo_lockOf : ByteArray := prog_8_method_7_code
def y_Mo_lockOf : MethodName := ⟨"MonitorQueuesModel", "lockOf", "(I)I"⟩
abbrev b_Mo_many : ByteArray := prog_8_method_4_code
def y_Mo_many : MethodName := ⟨"MonitorQueuesModel", "many", "(I)I"⟩
abbrev b_Mo_answer : ByteArray := prog_8_method_14_code
def y_Mo_answer : MethodName := ⟨"MonitorQueuesModel", "answer", "(I)I"⟩
abbrev b_Mo_look : ByteArray := prog_8_method_13_code
def y_Mo_look : MethodName := ⟨"MonitorQueuesModel", "look", "()V"⟩
abbrev b_Mo_standing : ByteArray := prog_8_method_5_code
def y_Mo_standing : MethodName := ⟨"MonitorQueuesModel", "standing", "(I)I"⟩
abbrev b_Mo_task : ByteArray := prog_8_method_12_code
def y_Mo_task : MethodName := ⟨"MonitorQueuesModel", "task", "(I)I"⟩
abbrev b_Mo_get : ByteArray := prog_8_method_17_code
def y_Mo_get : MethodName := ⟨"MonitorQueuesModel", "get", "(II)J"⟩
abbrev b_Mo_isTemporary : ByteArray := prog_8_method_10_code
def y_Mo_isTemporary : MethodName := ⟨"MonitorQueuesModel", "isTemporary", "(I)Z"⟩
abbrev b_Mo_placeOf : ByteArray := prog_8_method_6_code
def y_Mo_placeOf : MethodName := ⟨"MonitorQueuesModel", "placeOf", "(II)I"⟩
abbrev b_Mo_next : ByteArray := prog_8_method_19_code
def y_Mo_next : MethodName := ⟨"MonitorQueuesModel", "next", "(II)I"⟩
abbrev b_Mo_nexting : ByteArray := prog_8_method_18_code
def y_Mo_nexting : MethodName := ⟨"MonitorQueuesModel", "nexting", "(II)I"⟩
abbrev b_Mo_isTransient : ByteArray := prog_8_method_11_code
def y_Mo_isTransient : MethodName := ⟨"MonitorQueuesModel", "isTransient", "(I)Z"⟩
abbrev b_Mo_take : ByteArray := prog_8_method_21_code
def y_Mo_take : MethodName := ⟨"MonitorQueuesModel", "take", "(I)I"⟩
abbrev b_Mo_taking : ByteArray := prog_8_method_20_code
def y_Mo_taking : MethodName := ⟨"MonitorQueuesModel", "taking", "(I)I"⟩
abbrev b_Mo_remove : ByteArray := prog_8_method_8_code
def y_Mo_remove : MethodName := ⟨"MonitorQueuesModel", "remove", "(I)V"⟩
abbrev b_Mo_emptied : ByteArray := prog_8_method_9_code
def y_Mo_emptied : MethodName := ⟨"MonitorQueuesModel", "emptied", "(I)V"⟩
abbrev b_Mo_trigger : ByteArray := prog_8_method_23_code
def y_Mo_trigger : MethodName := ⟨"MonitorQueuesModel", "trigger", "(III)I"⟩
abbrev b_Mo_triggers : ByteArray := prog_8_method_22_code
def y_Mo_triggers : MethodName := ⟨"MonitorQueuesModel", "triggers", "(III)I"⟩
abbrev b_Mo_started : ByteArray := prog_8_method_24_code
def y_Mo_started : MethodName := ⟨"MonitorQueuesModel", "started", "(I)I"⟩
abbrev b_Mo_end : ByteArray := prog_8_method_26_code
def y_Mo_end : MethodName := ⟨"MonitorQueuesModel", "end", "(I)I"⟩
abbrev b_Mo_ending : ByteArray := prog_8_method_25_code
def y_Mo_ending : MethodName := ⟨"MonitorQueuesModel", "ending", "(I)I"⟩
abbrev b_Mo_rewrite : ByteArray := prog_8_method_28_code
def y_Mo_rewrite : MethodName := ⟨"MonitorQueuesModel", "rewrite", "(IIJ)I"⟩
abbrev b_Mo_rewriting : ByteArray := prog_8_method_27_code
def y_Mo_rewriting : MethodName := ⟨"MonitorQueuesModel", "rewriting", "(IIJ)I"⟩
abbrev b_Mo_delay : ByteArray := prog_8_method_29_code
def y_Mo_delay : MethodName := ⟨"MonitorQueuesModel", "delay", "(IJ)I"⟩
abbrev b_Mo_cancel : ByteArray := prog_8_method_31_code
def y_Mo_cancel : MethodName := ⟨"MonitorQueuesModel", "cancel", "(I)I"⟩
abbrev b_Mo_drop : ByteArray := prog_8_method_30_code
def y_Mo_drop : MethodName := ⟨"MonitorQueuesModel", "drop", "(I)V"⟩
abbrev b_Mo_tick : ByteArray := prog_8_method_32_code
def y_Mo_tick : MethodName := ⟨"MonitorQueuesModel", "tick", "(J)I"⟩
abbrev b_Mo_unit : ByteArray := prog_8_method_34_code
def y_Mo_unit : MethodName := ⟨"MonitorQueuesModel", "unit", "(IZ)I"⟩
abbrev b_Mo_unitEnds : ByteArray := prog_8_method_33_code
def y_Mo_unitEnds : MethodName := ⟨"MonitorQueuesModel", "unitEnds", "(IZ)I"⟩
abbrev b_Mo_age : ByteArray := prog_8_method_35_code
def y_Mo_age : MethodName := ⟨"MonitorQueuesModel", "age", "(J)I"⟩
abbrev b_Mo_count : ByteArray := prog_8_method_36_code
def y_Mo_count : MethodName := ⟨"MonitorQueuesModel", "count", "(I)I"⟩
def GT : List Cond := lw_tbl.filter goodWord
theorem gt_good : GoodIn GT GT := fun w hw => ⟨hw, good_of_word (List.mem_filter.mp hw).2⟩
theorem gt_t {w : Cond} (h : w ∈ tables_1) (hg : goodWord w = true) : w ∈ GT := List.mem_filter.mpr ⟨List.mem_append_right _ h, hg⟩
theorem gt_1 {w : Cond} (i : Nat) (h : tables_1_1[i]? = some w) : w ∈ tables_1 := List.mem_append_left _ (List.mem_of_getElem? h)
theorem gt_2 {w : Cond} (i : Nat) (h : tables_1_2[i]? = some w) : w ∈ tables_1 := List.mem_append_right _ (List.mem_append_left _ (List.mem_of_getElem? h))
theorem gt_3 {w : Cond} (i : Nat) (h : tables_1_3[i]? = some w) : w ∈ tables_1 := List.mem_append_right _ (List.mem_append_right _ (List.mem_append_left _ (List.mem_of_getElem? h)))
theorem gt_4 {w : Cond} (i : Nat) (h : tables_1_4[i]? = some w) : w ∈ tables_1 := List.mem_append_right _ (List.mem_append_right _ (List.mem_append_right _ (List.mem_of_getElem? h)))
theorem gt_s {w : Cond} (i : Nat) (h : (k2_sels lw_privs)[i]? = some w) (hg : goodWord w = true) : w ∈ GT := List.mem_filter.mpr ⟨List.mem_append_left _ (List.mem_of_getElem? h), hg⟩
theorem gw_0 : (Cond.selects "MonitorQueues" ⟨"MonitorQueues", "isQueue", "(I)Z"⟩ ⟨"MonitorQueues", "isQueue", "(I)Z"⟩) ∈ GT := gt_s 0 (by decide +kernel) rfl
theorem gw_1 : (Cond.selects "MonitorQueues" ⟨"MonitorQueues", "allItems", "()I"⟩ ⟨"MonitorQueues", "allItems", "()I"⟩) ∈ GT := gt_s 1 (by decide +kernel) rfl
theorem gw_2 : (Cond.selects "java/util/ArrayList" ⟨"java/util/ArrayList", "add", "(Ljava/lang/Object;[Ljava/lang/Object;I)V"⟩ ⟨"java/util/ArrayList", "add", "(Ljava/lang/Object;[Ljava/lang/Object;I)V"⟩) ∈ GT := gt_s 2 (by decide +kernel) rfl
theorem gw_3 : (Cond.selects "java/util/ArrayList" ⟨"java/util/ArrayList", "grow", "()[Ljava/lang/Object;"⟩ ⟨"java/util/ArrayList", "grow", "()[Ljava/lang/Object;"⟩) ∈ GT := gt_s 3 (by decide +kernel) rfl
theorem gw_4 : (Cond.selects "java/util/ArrayList" ⟨"java/util/ArrayList", "grow", "(I)[Ljava/lang/Object;"⟩ ⟨"java/util/ArrayList", "grow", "(I)[Ljava/lang/Object;"⟩) ∈ GT := gt_s 4 (by decide +kernel) rfl
theorem gw_5 : (Cond.selects "MonitorQueues" ⟨"MonitorQueues", "lookAtTriggers", "()V"⟩ ⟨"MonitorQueues", "lookAtTriggers", "()V"⟩) ∈ GT := gt_s 5 (by decide +kernel) rfl
theorem gw_6 : (Cond.selects "MonitorQueues" ⟨"MonitorQueues", "look", "(LMonitorQueues$Trigger;I)V"⟩ ⟨"MonitorQueues", "look", "(LMonitorQueues$Trigger;I)V"⟩) ∈ GT := gt_s 6 (by decide +kernel) rfl
theorem gw_7 : (Cond.selects "MonitorQueues" ⟨"MonitorQueues", "beginFor", "(LMonitorQueues$Trigger;)I"⟩ ⟨"MonitorQueues", "beginFor", "(LMonitorQueues$Trigger;)I"⟩) ∈ GT := gt_s 7 (by decide +kernel) rfl
theorem gw_8 : (Cond.selects "MonitorQueues" ⟨"MonitorQueues", "begin", "(I)I"⟩ ⟨"MonitorQueues", "begin", "(I)I"⟩) ∈ GT := gt_s 8 (by decide +kernel) rfl
theorem gw_9 : (Cond.selects "java/util/ArrayList" ⟨"java/util/ArrayList", "fastRemove", "([Ljava/lang/Object;I)V"⟩ ⟨"java/util/ArrayList", "fastRemove", "([Ljava/lang/Object;I)V"⟩) ∈ GT := gt_s 9 (by decide +kernel) rfl
theorem gw_10 : (Cond.selects "MonitorQueues" ⟨"MonitorQueues", "isTask", "(I)Z"⟩ ⟨"MonitorQueues", "isTask", "(I)Z"⟩) ∈ GT := gt_s 10 (by decide +kernel) rfl
theorem gw_11 : (Cond.selects "MonitorQueues" ⟨"MonitorQueues", "beginAgain", "(I)I"⟩ ⟨"MonitorQueues", "beginAgain", "(I)I"⟩) ∈ GT := gt_s 11 (by decide +kernel) rfl
theorem gw_12 : (Cond.selects "MonitorQueues" ⟨"MonitorQueues", "keepWaiting", "(LMonitorQueues$Delay;)V"⟩ ⟨"MonitorQueues", "keepWaiting", "(LMonitorQueues$Delay;)V"⟩) ∈ GT := gt_s 12 (by decide +kernel) rfl
theorem gw_13 : (Cond.selects "java/util/ArrayList" ⟨"java/util/ArrayList", "rangeCheckForAdd", "(I)V"⟩ ⟨"java/util/ArrayList", "rangeCheckForAdd", "(I)V"⟩) ∈ GT := gt_s 13 (by decide +kernel) rfl
theorem gw_14 : (Cond.selects "MonitorQueues" ⟨"MonitorQueues", "postDue", "()I"⟩ ⟨"MonitorQueues", "postDue", "()I"⟩) ∈ GT := gt_s 14 (by decide +kernel) rfl
theorem gw_16 : (Cond.selects "MonitorQueuesModel" ⟨"MonitorQueuesModel", "putting", "(IIJI)I"⟩ ⟨"MonitorQueuesModel", "putting", "(IIJI)I"⟩) ∈ GT := gt_s 16 (by decide +kernel) rfl
theorem gw_17 : (Cond.selects "MonitorQueuesModel" ⟨"MonitorQueuesModel", "lockOf", "(I)I"⟩ ⟨"MonitorQueuesModel", "lockOf", "(I)I"⟩) ∈ GT := gt_s 17 (by decide +kernel) rfl
theorem gw_18 : (Cond.selects "MonitorQueuesModel" ⟨"MonitorQueuesModel", "many", "(I)I"⟩ ⟨"MonitorQueuesModel", "many", "(I)I"⟩) ∈ GT := gt_s 18 (by decide +kernel) rfl
theorem gw_19 : (Cond.selects "MonitorQueuesModel" ⟨"MonitorQueuesModel", "answer", "(I)I"⟩ ⟨"MonitorQueuesModel", "answer", "(I)I"⟩) ∈ GT := gt_s 19 (by decide +kernel) rfl
theorem gw_20 : (Cond.selects "MonitorQueuesModel" ⟨"MonitorQueuesModel", "look", "()V"⟩ ⟨"MonitorQueuesModel", "look", "()V"⟩) ∈ GT := gt_s 20 (by decide +kernel) rfl
theorem gw_21 : (Cond.selects "MonitorQueuesModel" ⟨"MonitorQueuesModel", "standing", "(I)I"⟩ ⟨"MonitorQueuesModel", "standing", "(I)I"⟩) ∈ GT := gt_s 21 (by decide +kernel) rfl
theorem gw_22 : (Cond.selects "MonitorQueuesModel" ⟨"MonitorQueuesModel", "task", "(I)I"⟩ ⟨"MonitorQueuesModel", "task", "(I)I"⟩) ∈ GT := gt_s 22 (by decide +kernel) rfl
theorem gw_23 : (Cond.selects "MonitorQueuesModel" ⟨"MonitorQueuesModel", "isTemporary", "(I)Z"⟩ ⟨"MonitorQueuesModel", "isTemporary", "(I)Z"⟩) ∈ GT := gt_s 23 (by decide +kernel) rfl
theorem gw_24 : (Cond.selects "MonitorQueuesModel" ⟨"MonitorQueuesModel", "placeOf", "(II)I"⟩ ⟨"MonitorQueuesModel", "placeOf", "(II)I"⟩) ∈ GT := gt_s 24 (by decide +kernel) rfl
theorem gw_25 : (Cond.selects "MonitorQueuesModel" ⟨"MonitorQueuesModel", "nexting", "(II)I"⟩ ⟨"MonitorQueuesModel", "nexting", "(II)I"⟩) ∈ GT := gt_s 25 (by decide +kernel) rfl
theorem gw_26 : (Cond.selects "MonitorQueuesModel" ⟨"MonitorQueuesModel", "isTransient", "(I)Z"⟩ ⟨"MonitorQueuesModel", "isTransient", "(I)Z"⟩) ∈ GT := gt_s 26 (by decide +kernel) rfl
theorem gw_27 : (Cond.selects "MonitorQueuesModel" ⟨"MonitorQueuesModel", "taking", "(I)I"⟩ ⟨"MonitorQueuesModel", "taking", "(I)I"⟩) ∈ GT := gt_s 27 (by decide +kernel) rfl
theorem gw_28 : (Cond.selects "MonitorQueuesModel" ⟨"MonitorQueuesModel", "remove", "(I)V"⟩ ⟨"MonitorQueuesModel", "remove", "(I)V"⟩) ∈ GT := gt_s 28 (by decide +kernel) rfl
theorem gw_29 : (Cond.selects "MonitorQueuesModel" ⟨"MonitorQueuesModel", "emptied", "(I)V"⟩ ⟨"MonitorQueuesModel", "emptied", "(I)V"⟩) ∈ GT := gt_s 29 (by decide +kernel) rfl
theorem gw_30 : (Cond.selects "MonitorQueuesModel" ⟨"MonitorQueuesModel", "triggers", "(III)I"⟩ ⟨"MonitorQueuesModel", "triggers", "(III)I"⟩) ∈ GT := gt_s 30 (by decide +kernel) rfl
theorem gw_31 : (Cond.selects "MonitorQueuesModel" ⟨"MonitorQueuesModel", "ending", "(I)I"⟩ ⟨"MonitorQueuesModel", "ending", "(I)I"⟩) ∈ GT := gt_s 31 (by decide +kernel) rfl
theorem gw_32 : (Cond.selects "MonitorQueuesModel" ⟨"MonitorQueuesModel", "rewriting", "(IIJ)I"⟩ ⟨"MonitorQueuesModel", "rewriting", "(IIJ)I"⟩) ∈ GT := gt_s 32 (by decide +kernel) rfl
theorem gw_33 : (Cond.selects "MonitorQueuesModel" ⟨"MonitorQueuesModel", "drop", "(I)V"⟩ ⟨"MonitorQueuesModel", "drop", "(I)V"⟩) ∈ GT := gt_s 33 (by decide +kernel) rfl
theorem gw_34 : (Cond.selects "MonitorQueuesModel" ⟨"MonitorQueuesModel", "unitEnds", "(IZ)I"⟩ ⟨"MonitorQueuesModel", "unitEnds", "(IZ)I"⟩) ∈ GT := gt_s 34 (by decide +kernel) rfl
theorem gw_35 : (Cond.initialized "MonitorQueuesLaw") ∈ GT := gt_t (gt_1 0 (by decide +kernel)) rfl
theorem gw_36 : (Cond.initialized "MonitorQueues") ∈ GT := gt_t (gt_1 1 (by decide +kernel)) rfl
theorem gw_37 : (Cond.initialized "java/lang/Math") ∈ GT := gt_t (gt_1 2 (by decide +kernel)) rfl
theorem gw_38 : (Cond.initialized "MonitorQueues$Queue") ∈ GT := gt_t (gt_1 3 (by decide +kernel)) rfl
theorem gw_39 : (Cond.initialized "java/util/AbstractCollection") ∈ GT := gt_t (gt_1 4 (by decide +kernel)) rfl
theorem gw_40 : (Cond.initialized "java/util/AbstractList") ∈ GT := gt_t (gt_1 5 (by decide +kernel)) rfl
theorem gw_41 : (Cond.initialized "java/util/ArrayList") ∈ GT := gt_t (gt_1 6 (by decide +kernel)) rfl
theorem gw_42 : (Cond.initialized "MonitorQueuesModel") ∈ GT := gt_t (gt_1 7 (by decide +kernel)) rfl
theorem gw_43 : (Cond.initialized "MonitorQueues$Item") ∈ GT := gt_t (gt_1 8 (by decide +kernel)) rfl
theorem gw_44 : (Cond.initialized "jdk/internal/util/ArraysSupport") ∈ GT := gt_t (gt_1 9 (by decide +kernel)) rfl
theorem gw_45 : (Cond.initialized "java/util/Arrays") ∈ GT := gt_t (gt_1 10 (by decide +kernel)) rfl
theorem gw_46 : (Cond.initialized "java/lang/System") ∈ GT := gt_t (gt_1 11 (by decide +kernel)) rfl
theorem gw_47 : (Cond.initialized "MonitorQueues$Task") ∈ GT := gt_t (gt_1 12 (by decide +kernel)) rfl
theorem gw_48 : (Cond.initialized "java/lang/Throwable") ∈ GT := gt_t (gt_1 13 (by decide +kernel)) rfl
theorem gw_49 : (Cond.initialized "java/lang/Exception") ∈ GT := gt_t (gt_1 14 (by decide +kernel)) rfl
theorem gw_50 : (Cond.initialized "java/lang/RuntimeException") ∈ GT := gt_t (gt_1 15 (by decide +kernel)) rfl
theorem gw_51 : (Cond.initialized "java/util/NoSuchElementException") ∈ GT := gt_t (gt_1 16 (by decide +kernel)) rfl
theorem gw_52 : (Cond.initialized "java/util/Objects") ∈ GT := gt_t (gt_1 17 (by decide +kernel)) rfl
theorem gw_53 : (Cond.initialized "jdk/internal/util/Preconditions") ∈ GT := gt_t (gt_1 18 (by decide +kernel)) rfl
theorem gw_54 : (Cond.initialized "MonitorQueues$Trigger") ∈ GT := gt_t (gt_1 19 (by decide +kernel)) rfl
theorem gw_55 : (Cond.initialized "MonitorQueues$Delay") ∈ GT := gt_t (gt_1 20 (by decide +kernel)) rfl
theorem gw_56 : (Cond.classLink "MonitorQueuesLaw" 8 "MonitorQueues") ∈ GT := gt_t (gt_1 21 (by decide +kernel)) rfl
theorem gw_57 : (Cond.instantiable "MonitorQueues" 7) ∈ GT := gt_t (gt_1 22 (by decide +kernel)) rfl
theorem gw_58 : (Cond.methodLink "MonitorQueuesLaw" 21 ⟨"MonitorQueues", "<init>", "(I)V"⟩) ∈ GT := gt_t (gt_1 23 (by decide +kernel)) rfl
theorem gw_59 : (Cond.instanceMethod ⟨"MonitorQueues", "<init>", "(I)V"⟩) ∈ GT := gt_t (gt_1 24 (by decide +kernel)) rfl
theorem gw_60 : (Cond.code ⟨"MonitorQueues", "<init>", "(I)V"⟩ prog_1_method_1_code 3 none) ∈ GT := gt_t (gt_1 25 (by decide +kernel)) rfl
theorem gw_61 : (Cond.methodLink "MonitorQueues" 3 ⟨"java/lang/Object", "<init>", "()V"⟩) ∈ GT := gt_t (gt_1 26 (by decide +kernel)) rfl
theorem gw_62 : (Cond.instanceMethod ⟨"java/lang/Object", "<init>", "()V"⟩) ∈ GT := gt_t (gt_1 27 (by decide +kernel)) rfl
theorem gw_63 : (Cond.code ⟨"java/lang/Object", "<init>", "()V"⟩ object_method_1_code 1 none) ∈ GT := gt_t (gt_1 28 (by decide +kernel)) rfl
theorem gw_64 : (Cond.methodLink "MonitorQueues" 9 ⟨"java/lang/Math", "min", "(II)I"⟩) ∈ GT := gt_t (gt_1 29 (by decide +kernel)) rfl
theorem gw_65 : (Cond.static ⟨"java/lang/Math", "min", "(II)I"⟩) ∈ GT := gt_t (gt_1 30 (by decide +kernel)) rfl
theorem gw_66 : (Cond.code ⟨"java/lang/Math", "min", "(II)I"⟩ prog_13_method_69_code 2 (Option.some FieldType.int)) ∈ GT := gt_t (gt_1 31 (by decide +kernel)) rfl
theorem gw_67 : (Cond.methodLink "MonitorQueues" 15 ⟨"java/lang/Math", "max", "(II)I"⟩) ∈ GT := gt_t (gt_1 32 (by decide +kernel)) rfl
theorem gw_68 : (Cond.static ⟨"java/lang/Math", "max", "(II)I"⟩) ∈ GT := gt_t (gt_1 33 (by decide +kernel)) rfl
theorem gw_69 : (Cond.code ⟨"java/lang/Math", "max", "(II)I"⟩ prog_13_method_65_code 2 (Option.some FieldType.int)) ∈ GT := gt_t (gt_1 34 (by decide +kernel)) rfl
theorem gw_70 : (Cond.classLink "MonitorQueues" 22 "MonitorQueues$Queue") ∈ GT := gt_t (gt_1 35 (by decide +kernel)) rfl
theorem gw_71 : (Cond.arrayOver (FieldType.object "MonitorQueues$Queue")) ∈ tables_1 := gt_1 36 (by decide +kernel)
theorem gw_72 : (Cond.instantiable "MonitorQueues$Queue" 10) ∈ GT := gt_t (gt_1 37 (by decide +kernel)) rfl
theorem gw_73 : (Cond.methodLink "MonitorQueues" 28 ⟨"MonitorQueues$Queue", "<init>", "()V"⟩) ∈ GT := gt_t (gt_1 38 (by decide +kernel)) rfl
theorem gw_74 : (Cond.instanceMethod ⟨"MonitorQueues$Queue", "<init>", "()V"⟩) ∈ GT := gt_t (gt_1 39 (by decide +kernel)) rfl
theorem gw_75 : (Cond.code ⟨"MonitorQueues$Queue", "<init>", "()V"⟩ prog_4_method_1_code 1 none) ∈ GT := gt_t (gt_1 40 (by decide +kernel)) rfl
theorem gw_76 : (Cond.methodLink "MonitorQueues$Queue" 3 ⟨"java/lang/Object", "<init>", "()V"⟩) ∈ GT := gt_t (gt_1 41 (by decide +kernel)) rfl
theorem gw_77 : (Cond.classLink "MonitorQueues$Queue" 9 "java/util/ArrayList") ∈ GT := gt_t (gt_1 42 (by decide +kernel)) rfl
theorem gw_78 : (Cond.instantiable "java/util/ArrayList" 3) ∈ GT := gt_t (gt_1 43 (by decide +kernel)) rfl
theorem gw_79 : (Cond.methodLink "MonitorQueues$Queue" 11 ⟨"java/util/ArrayList", "<init>", "()V"⟩) ∈ GT := gt_t (gt_1 44 (by decide +kernel)) rfl
theorem gw_80 : (Cond.instanceMethod ⟨"java/util/ArrayList", "<init>", "()V"⟩) ∈ GT := gt_t (gt_1 45 (by decide +kernel)) rfl
theorem gw_81 : (Cond.code ⟨"java/util/ArrayList", "<init>", "()V"⟩ prog_20_method_2_code 1 none) ∈ GT := gt_t (gt_1 46 (by decide +kernel)) rfl
theorem gw_82 : (Cond.methodLink "java/util/ArrayList" 1 ⟨"java/util/AbstractList", "<init>", "()V"⟩) ∈ GT := gt_t (gt_1 47 (by decide +kernel)) rfl
theorem gw_83 : (Cond.instanceMethod ⟨"java/util/AbstractList", "<init>", "()V"⟩) ∈ GT := gt_t (gt_1 48 (by decide +kernel)) rfl
theorem gw_84 : (Cond.code ⟨"java/util/AbstractList", "<init>", "()V"⟩ prog_19_method_1_code 1 none) ∈ GT := gt_t (gt_1 49 (by decide +kernel)) rfl
theorem gw_85 : (Cond.methodLink "java/util/AbstractList" 1 ⟨"java/util/AbstractCollection", "<init>", "()V"⟩) ∈ GT := gt_t (gt_1 50 (by decide +kernel)) rfl
theorem gw_86 : (Cond.instanceMethod ⟨"java/util/AbstractCollection", "<init>", "()V"⟩) ∈ GT := gt_t (gt_1 51 (by decide +kernel)) rfl
theorem gw_87 : (Cond.code ⟨"java/util/AbstractCollection", "<init>", "()V"⟩ prog_18_method_1_code 1 none) ∈ GT := gt_t (gt_1 52 (by decide +kernel)) rfl
theorem gw_88 : (Cond.methodLink "java/util/AbstractCollection" 1 ⟨"java/lang/Object", "<init>", "()V"⟩) ∈ GT := gt_t (gt_1 53 (by decide +kernel)) rfl
theorem gw_91 : (Cond.fieldLink "java/util/ArrayList" 9 "java/util/ArrayList" "elementData" "[Ljava/lang/Object;") ∈ GT := gt_t (gt_1 56 (by decide +kernel)) rfl
theorem gw_92 : (Cond.fieldLink "java/util/ArrayList" 48 "java/util/ArrayList" "size" "I") ∈ GT := gt_t (gt_1 57 (by decide +kernel)) rfl
theorem gw_93 : (Cond.fieldLink "java/util/AbstractList" 7 "java/util/AbstractList" "modCount" "I") ∈ GT := gt_t (gt_1 58 (by decide +kernel)) rfl
theorem gw_94 : (Cond.fieldLink "java/util/ArrayList" 63 "java/util/ArrayList" "modCount" "I") ∈ GT := gt_t (gt_1 59 (by decide +kernel)) rfl
theorem gw_95 : (Cond.sameField "java/util/ArrayList" "java/util/AbstractList" "modCount" "I") ∈ GT := gt_t (gt_1 60 (by decide +kernel)) rfl
theorem gw_96 : (Cond.lays "java/util/ArrayList" "java/util/ArrayList" "elementData" "[Ljava/lang/Object;") ∈ GT := gt_t (gt_1 61 (by decide +kernel)) rfl
theorem gw_98 : (Cond.lays "java/util/ArrayList" "java/util/ArrayList" "size" "I") ∈ GT := gt_t (gt_1 63 (by decide +kernel)) rfl
theorem gw_100 : (Cond.lays "java/util/ArrayList" "java/util/AbstractList" "modCount" "I") ∈ GT := gt_t (gt_1 65 (by decide +kernel)) rfl
theorem gw_103 : (Cond.fieldLink "MonitorQueues$Queue" 12 "MonitorQueues$Queue" "items" "Ljava/util/ArrayList;") ∈ GT := gt_t (gt_1 68 (by decide +kernel)) rfl
theorem gw_104 : (Cond.fieldLink "MonitorQueues" 87 "MonitorQueues$Queue" "items" "Ljava/util/ArrayList;") ∈ GT := gt_t (gt_1 69 (by decide +kernel)) rfl
theorem gw_105 : (Cond.fieldLink "MonitorQueues$Queue" 18 "MonitorQueues$Queue" "places" "[I") ∈ GT := gt_t (gt_1 70 (by decide +kernel)) rfl
theorem gw_106 : (Cond.fieldLink "MonitorQueues" 110 "MonitorQueues$Queue" "places" "[I") ∈ GT := gt_t (gt_1 71 (by decide +kernel)) rfl
theorem gw_107 : (Cond.fieldLink "MonitorQueues$Queue" 22 "MonitorQueues$Queue" "kind" "I") ∈ GT := gt_t (gt_1 72 (by decide +kernel)) rfl
theorem gw_108 : (Cond.fieldLink "MonitorQueues" 185 "MonitorQueues$Queue" "kind" "I") ∈ GT := gt_t (gt_1 73 (by decide +kernel)) rfl
theorem gw_109 : (Cond.fieldLink "MonitorQueues$Queue" 30 "MonitorQueues$Queue" "pending" "I") ∈ GT := gt_t (gt_1 74 (by decide +kernel)) rfl
theorem gw_110 : (Cond.fieldLink "MonitorQueues" 50 "MonitorQueues$Queue" "holder" "I") ∈ GT := gt_t (gt_1 75 (by decide +kernel)) rfl
theorem gw_111 : (Cond.fieldLink "MonitorQueues$Queue" 57 "MonitorQueues$Queue" "holder" "I") ∈ GT := gt_t (gt_1 76 (by decide +kernel)) rfl
theorem gw_112 : (Cond.fieldLink "MonitorQueues$Queue" 41 "MonitorQueues$Queue" "lastUse" "J") ∈ GT := gt_t (gt_1 77 (by decide +kernel)) rfl
theorem gw_113 : (Cond.fieldLink "MonitorQueues" 179 "MonitorQueues$Queue" "lastUse" "J") ∈ GT := gt_t (gt_1 78 (by decide +kernel)) rfl
theorem gw_114 : (Cond.fieldLink "MonitorQueues$Queue" 64 "MonitorQueues$Queue" "lastNumber" "I") ∈ GT := gt_t (gt_1 79 (by decide +kernel)) rfl
theorem gw_115 : (Cond.fieldLink "MonitorQueues" 99 "MonitorQueues$Queue" "takenNumber" "I") ∈ GT := gt_t (gt_1 80 (by decide +kernel)) rfl
theorem gw_116 : (Cond.fieldLink "MonitorQueues$Queue" 70 "MonitorQueues$Queue" "takenNumber" "I") ∈ GT := gt_t (gt_1 81 (by decide +kernel)) rfl
theorem gw_117 : (Cond.fieldLink "MonitorQueues" 104 "MonitorQueues$Queue" "takenValue" "J") ∈ GT := gt_t (gt_1 82 (by decide +kernel)) rfl
theorem gw_118 : (Cond.fieldLink "MonitorQueues$Queue" 80 "MonitorQueues$Queue" "takenValue" "J") ∈ GT := gt_t (gt_1 83 (by decide +kernel)) rfl
theorem gw_119 : (Cond.fieldLink "MonitorQueues" 128 "MonitorQueues$Queue" "trigger" "LMonitorQueues$Trigger;") ∈ GT := gt_t (gt_1 84 (by decide +kernel)) rfl
theorem gw_120 : (Cond.fieldLink "MonitorQueues$Queue" 37 "MonitorQueues$Queue" "trigger" "LMonitorQueues$Trigger;") ∈ GT := gt_t (gt_1 85 (by decide +kernel)) rfl
theorem gw_121 : (Cond.laysFinal "MonitorQueues$Queue" "MonitorQueues$Queue" "items" "Ljava/util/ArrayList;") ∈ GT := gt_t (gt_1 86 (by decide +kernel)) rfl
theorem gw_123 : (Cond.laysFinal "MonitorQueues$Queue" "MonitorQueues$Queue" "places" "[I") ∈ GT := gt_t (gt_1 88 (by decide +kernel)) rfl
theorem gw_125 : (Cond.lays "MonitorQueues$Queue" "MonitorQueues$Queue" "kind" "I") ∈ GT := gt_t (gt_1 90 (by decide +kernel)) rfl
theorem gw_127 : (Cond.lays "MonitorQueues$Queue" "MonitorQueues$Queue" "pending" "I") ∈ GT := gt_t (gt_1 92 (by decide +kernel)) rfl
theorem gw_129 : (Cond.lays "MonitorQueues$Queue" "MonitorQueues$Queue" "holder" "I") ∈ GT := gt_t (gt_1 94 (by decide +kernel)) rfl
theorem gw_131 : (Cond.lays "MonitorQueues$Queue" "MonitorQueues$Queue" "lastUse" "J") ∈ GT := gt_t (gt_1 96 (by decide +kernel)) rfl
theorem gw_133 : (Cond.lays "MonitorQueues$Queue" "MonitorQueues$Queue" "lastNumber" "I") ∈ GT := gt_t (gt_1 98 (by decide +kernel)) rfl
theorem gw_135 : (Cond.lays "MonitorQueues$Queue" "MonitorQueues$Queue" "takenNumber" "I") ∈ GT := gt_t (gt_1 100 (by decide +kernel)) rfl
theorem gw_137 : (Cond.lays "MonitorQueues$Queue" "MonitorQueues$Queue" "takenValue" "J") ∈ GT := gt_t (gt_1 102 (by decide +kernel)) rfl
theorem gw_139 : (Cond.lays "MonitorQueues$Queue" "MonitorQueues$Queue" "trigger" "LMonitorQueues$Trigger;") ∈ GT := gt_t (gt_1 104 (by decide +kernel)) rfl
theorem gw_142 : (Cond.arrayClass FieldType.int) ∈ GT := gt_t (gt_1 107 (by decide +kernel)) rfl
theorem gw_143 : (Cond.classLink "MonitorQueues" 29 "java/util/ArrayList") ∈ GT := gt_t (gt_1 108 (by decide +kernel)) rfl
theorem gw_144 : (Cond.methodLink "MonitorQueues" 31 ⟨"java/util/ArrayList", "<init>", "()V"⟩) ∈ GT := gt_t (gt_1 109 (by decide +kernel)) rfl
theorem gw_145 : (Cond.fieldLink "MonitorQueues" 18 "MonitorQueues" "room" "I") ∈ GT := gt_t (gt_1 110 (by decide +kernel)) rfl
theorem gw_146 : (Cond.fieldLink "MonitorQueues" 24 "MonitorQueues" "queues" "[LMonitorQueues$Queue;") ∈ GT := gt_t (gt_1 111 (by decide +kernel)) rfl
theorem gw_147 : (Cond.fieldLink "MonitorQueues" 32 "MonitorQueues" "tasks" "Ljava/util/ArrayList;") ∈ GT := gt_t (gt_1 112 (by decide +kernel)) rfl
theorem gw_148 : (Cond.fieldLink "MonitorQueues" 36 "MonitorQueues" "waiting" "Ljava/util/ArrayList;") ∈ GT := gt_t (gt_1 113 (by decide +kernel)) rfl
theorem gw_149 : (Cond.fieldLink "MonitorQueues" 144 "MonitorQueues" "tasksGoing" "I") ∈ GT := gt_t (gt_1 114 (by decide +kernel)) rfl
theorem gw_150 : (Cond.fieldLink "MonitorQueues" 154 "MonitorQueues" "lastDelay" "I") ∈ GT := gt_t (gt_1 115 (by decide +kernel)) rfl
theorem gw_151 : (Cond.fieldLink "MonitorQueues" 57 "MonitorQueues" "now" "J") ∈ GT := gt_t (gt_1 116 (by decide +kernel)) rfl
theorem gw_152 : (Cond.laysFinal "MonitorQueues" "MonitorQueues" "room" "I") ∈ GT := gt_t (gt_1 117 (by decide +kernel)) rfl
theorem gw_154 : (Cond.laysFinal "MonitorQueues" "MonitorQueues" "queues" "[LMonitorQueues$Queue;") ∈ GT := gt_t (gt_1 119 (by decide +kernel)) rfl
theorem gw_156 : (Cond.laysFinal "MonitorQueues" "MonitorQueues" "tasks" "Ljava/util/ArrayList;") ∈ GT := gt_t (gt_1 121 (by decide +kernel)) rfl
theorem gw_158 : (Cond.laysFinal "MonitorQueues" "MonitorQueues" "waiting" "Ljava/util/ArrayList;") ∈ GT := gt_t (gt_1 123 (by decide +kernel)) rfl
theorem gw_160 : (Cond.lays "MonitorQueues" "MonitorQueues" "tasksGoing" "I") ∈ GT := gt_t (gt_1 125 (by decide +kernel)) rfl
theorem gw_162 : (Cond.lays "MonitorQueues" "MonitorQueues" "lastDelay" "I") ∈ GT := gt_t (gt_1 127 (by decide +kernel)) rfl
theorem gw_164 : (Cond.lays "MonitorQueues" "MonitorQueues" "now" "J") ∈ GT := gt_t (gt_1 129 (by decide +kernel)) rfl
theorem gw_167 : (Cond.methodLink "MonitorQueuesLaw" 29 ⟨"MonitorQueues", "put", "(IIJI)I"⟩) ∈ GT := gt_t (gt_1 132 (by decide +kernel)) rfl
theorem gw_168 : (Cond.instanceMethod ⟨"MonitorQueues", "put", "(IIJI)I"⟩) ∈ GT := gt_t (gt_1 133 (by decide +kernel)) rfl
theorem gw_169 : (Cond.selects "MonitorQueues" ⟨"MonitorQueues", "put", "(IIJI)I"⟩ ⟨"MonitorQueues", "put", "(IIJI)I"⟩) ∈ GT := gt_t (gt_1 134 (by decide +kernel)) rfl
theorem gw_170 : (Cond.code ⟨"MonitorQueues", "put", "(IIJI)I"⟩ prog_1_method_2_code 8 (Option.some FieldType.int)) ∈ GT := gt_t (gt_1 135 (by decide +kernel)) rfl
theorem gw_171 : (Cond.methodLink "MonitorQueues" 39 ⟨"MonitorQueues", "isQueue", "(I)Z"⟩) ∈ GT := gt_t (gt_1 136 (by decide +kernel)) rfl
theorem gw_173 : (Cond.instanceMethod ⟨"MonitorQueues", "isQueue", "(I)Z"⟩) ∈ GT := gt_t (gt_1 138 (by decide +kernel)) rfl
theorem gw_174 : (Cond.code ⟨"MonitorQueues", "isQueue", "(I)Z"⟩ prog_1_method_16_code 2 (Option.some FieldType.boolean)) ∈ GT := gt_t (gt_1 139 (by decide +kernel)) rfl
theorem gw_175 : (Cond.methodLink "MonitorQueues" 43 ⟨"MonitorQueues$Queue", "admits", "(I)Z"⟩) ∈ GT := gt_t (gt_1 140 (by decide +kernel)) rfl
theorem gw_176 : (Cond.instanceMethod ⟨"MonitorQueues$Queue", "admits", "(I)Z"⟩) ∈ GT := gt_t (gt_1 141 (by decide +kernel)) rfl
theorem gw_177 : (Cond.selects "MonitorQueues$Queue" ⟨"MonitorQueues$Queue", "admits", "(I)Z"⟩ ⟨"MonitorQueues$Queue", "admits", "(I)Z"⟩) ∈ GT := gt_t (gt_1 142 (by decide +kernel)) rfl
theorem gw_178 : (Cond.code ⟨"MonitorQueues$Queue", "admits", "(I)Z"⟩ prog_4_method_9_code 2 (Option.some FieldType.boolean)) ∈ GT := gt_t (gt_1 143 (by decide +kernel)) rfl
theorem gw_179 : (Cond.methodLink "MonitorQueues$Queue" 26 ⟨"MonitorQueues$Queue", "isTransientKind", "(I)Z"⟩) ∈ GT := gt_t (gt_1 144 (by decide +kernel)) rfl
theorem gw_180 : (Cond.static ⟨"MonitorQueues$Queue", "isTransientKind", "(I)Z"⟩) ∈ GT := gt_t (gt_1 145 (by decide +kernel)) rfl
theorem gw_181 : (Cond.code ⟨"MonitorQueues$Queue", "isTransientKind", "(I)Z"⟩ prog_4_method_2_code 1 (Option.some FieldType.boolean)) ∈ GT := gt_t (gt_1 146 (by decide +kernel)) rfl
theorem gw_182 : (Cond.methodLink "MonitorQueues" 46 ⟨"MonitorQueues$Queue", "isLocked", "()Z"⟩) ∈ GT := gt_t (gt_1 147 (by decide +kernel)) rfl
theorem gw_183 : (Cond.instanceMethod ⟨"MonitorQueues$Queue", "isLocked", "()Z"⟩) ∈ GT := gt_t (gt_1 148 (by decide +kernel)) rfl
theorem gw_184 : (Cond.selects "MonitorQueues$Queue" ⟨"MonitorQueues$Queue", "isLocked", "()Z"⟩ ⟨"MonitorQueues$Queue", "isLocked", "()Z"⟩) ∈ GT := gt_t (gt_1 149 (by decide +kernel)) rfl
theorem gw_185 : (Cond.code ⟨"MonitorQueues$Queue", "isLocked", "()Z"⟩ prog_4_method_6_code 1 (Option.some FieldType.boolean)) ∈ GT := gt_t (gt_1 150 (by decide +kernel)) rfl
theorem gw_186 : (Cond.methodLink "MonitorQueues" 53 ⟨"MonitorQueues", "allItems", "()I"⟩) ∈ GT := gt_t (gt_1 151 (by decide +kernel)) rfl
theorem gw_188 : (Cond.instanceMethod ⟨"MonitorQueues", "allItems", "()I"⟩) ∈ GT := gt_t (gt_1 153 (by decide +kernel)) rfl
theorem gw_189 : (Cond.code ⟨"MonitorQueues", "allItems", "()I"⟩ prog_1_method_18_code 3 (Option.some FieldType.int)) ∈ GT := gt_t (gt_1 154 (by decide +kernel)) rfl
theorem gw_190 : (Cond.methodLink "MonitorQueues" 151 ⟨"java/util/ArrayList", "size", "()I"⟩) ∈ GT := gt_t (gt_1 155 (by decide +kernel)) rfl
theorem gw_191 : (Cond.instanceMethod ⟨"java/util/ArrayList", "size", "()I"⟩) ∈ GT := gt_t (gt_1 156 (by decide +kernel)) rfl
theorem gw_192 : (Cond.selects "java/util/ArrayList" ⟨"java/util/ArrayList", "size", "()I"⟩ ⟨"java/util/ArrayList", "size", "()I"⟩) ∈ GT := gt_t (gt_1 157 (by decide +kernel)) rfl
theorem gw_193 : (Cond.code ⟨"java/util/ArrayList", "size", "()I"⟩ prog_20_method_8_code 1 (Option.some FieldType.int)) ∈ GT := gt_t (gt_1 158 (by decide +kernel)) rfl
theorem gw_194 : (Cond.methodLink "MonitorQueues" 61 ⟨"MonitorQueues$Queue", "touch", "(J)V"⟩) ∈ GT := gt_t (gt_1 159 (by decide +kernel)) rfl
theorem gw_195 : (Cond.instanceMethod ⟨"MonitorQueues$Queue", "touch", "(J)V"⟩) ∈ GT := gt_t (gt_1 160 (by decide +kernel)) rfl
theorem gw_196 : (Cond.selects "MonitorQueues$Queue" ⟨"MonitorQueues$Queue", "touch", "(J)V"⟩ ⟨"MonitorQueues$Queue", "touch", "(J)V"⟩) ∈ GT := gt_t (gt_1 161 (by decide +kernel)) rfl
theorem gw_197 : (Cond.code ⟨"MonitorQueues$Queue", "touch", "(J)V"⟩ prog_4_method_10_code 3 none) ∈ GT := gt_t (gt_1 162 (by decide +kernel)) rfl
theorem gw_198 : (Cond.methodLink "MonitorQueues" 65 ⟨"MonitorQueues$Queue", "append", "(IJI)I"⟩) ∈ GT := gt_t (gt_1 163 (by decide +kernel)) rfl
theorem gw_199 : (Cond.instanceMethod ⟨"MonitorQueues$Queue", "append", "(IJI)I"⟩) ∈ GT := gt_t (gt_1 164 (by decide +kernel)) rfl
theorem gw_200 : (Cond.selects "MonitorQueues$Queue" ⟨"MonitorQueues$Queue", "append", "(IJI)I"⟩ ⟨"MonitorQueues$Queue", "append", "(IJI)I"⟩) ∈ GT := gt_t (gt_1 165 (by decide +kernel)) rfl
theorem gw_201 : (Cond.code ⟨"MonitorQueues$Queue", "append", "(IJI)I"⟩ prog_4_method_11_code 5 (Option.some FieldType.int)) ∈ GT := gt_t (gt_1 166 (by decide +kernel)) rfl
theorem gw_202 : (Cond.classLink "MonitorQueues$Queue" 45 "MonitorQueues$Item") ∈ GT := gt_t (gt_1 167 (by decide +kernel)) rfl
theorem gw_203 : (Cond.instantiable "MonitorQueues$Item" 1) ∈ GT := gt_t (gt_1 168 (by decide +kernel)) rfl
theorem gw_204 : (Cond.methodLink "MonitorQueues$Queue" 47 ⟨"MonitorQueues$Item", "<init>", "(J)V"⟩) ∈ GT := gt_t (gt_1 169 (by decide +kernel)) rfl
theorem gw_205 : (Cond.instanceMethod ⟨"MonitorQueues$Item", "<init>", "(J)V"⟩) ∈ GT := gt_t (gt_1 170 (by decide +kernel)) rfl
theorem gw_206 : (Cond.code ⟨"MonitorQueues$Item", "<init>", "(J)V"⟩ prog_3_method_1_code 3 none) ∈ GT := gt_t (gt_1 171 (by decide +kernel)) rfl
theorem gw_207 : (Cond.methodLink "MonitorQueues$Item" 1 ⟨"java/lang/Object", "<init>", "()V"⟩) ∈ GT := gt_t (gt_1 172 (by decide +kernel)) rfl
theorem gw_208 : (Cond.fieldLink "MonitorQueues$Item" 7 "MonitorQueues$Item" "value" "J") ∈ GT := gt_t (gt_1 173 (by decide +kernel)) rfl
theorem gw_209 : (Cond.fieldLink "MonitorQueues" 96 "MonitorQueues$Item" "value" "J") ∈ GT := gt_t (gt_1 174 (by decide +kernel)) rfl
theorem gw_210 : (Cond.fieldLink "MonitorQueues$Queue" 77 "MonitorQueues$Item" "value" "J") ∈ GT := gt_t (gt_1 175 (by decide +kernel)) rfl
theorem gw_211 : (Cond.lays "MonitorQueues$Item" "MonitorQueues$Item" "value" "J") ∈ GT := gt_t (gt_1 176 (by decide +kernel)) rfl
theorem gw_214 : (Cond.methodLink "MonitorQueues$Queue" 50 ⟨"java/util/ArrayList", "add", "(Ljava/lang/Object;)Z"⟩) ∈ GT := gt_t (gt_1 179 (by decide +kernel)) rfl
theorem gw_215 : (Cond.instanceMethod ⟨"java/util/ArrayList", "add", "(Ljava/lang/Object;)Z"⟩) ∈ GT := gt_t (gt_1 180 (by decide +kernel)) rfl
theorem gw_216 : (Cond.selects "java/util/ArrayList" ⟨"java/util/ArrayList", "add", "(Ljava/lang/Object;)Z"⟩ ⟨"java/util/ArrayList", "add", "(Ljava/lang/Object;)Z"⟩) ∈ GT := gt_t (gt_1 181 (by decide +kernel)) rfl
theorem gw_217 : (Cond.code ⟨"java/util/ArrayList", "add", "(Ljava/lang/Object;)Z"⟩ prog_20_method_25_code 2 (Option.some FieldType.boolean)) ∈ GT := gt_t (gt_1 182 (by decide +kernel)) rfl
theorem gw_218 : (Cond.methodLink "java/util/ArrayList" 131 ⟨"java/util/ArrayList", "add", "(Ljava/lang/Object;[Ljava/lang/Object;I)V"⟩) ∈ GT := gt_t (gt_1 183 (by decide +kernel)) rfl
theorem gw_220 : (Cond.instanceMethod ⟨"java/util/ArrayList", "add", "(Ljava/lang/Object;[Ljava/lang/Object;I)V"⟩) ∈ GT := gt_t (gt_1 185 (by decide +kernel)) rfl
theorem gw_221 : (Cond.code ⟨"java/util/ArrayList", "add", "(Ljava/lang/Object;[Ljava/lang/Object;I)V"⟩ prog_20_method_24_code 4 none) ∈ GT := gt_t (gt_1 186 (by decide +kernel)) rfl
theorem gw_222 : (Cond.methodLink "java/util/ArrayList" 129 ⟨"java/util/ArrayList", "grow", "()[Ljava/lang/Object;"⟩) ∈ GT := gt_t (gt_1 187 (by decide +kernel)) rfl
theorem gw_224 : (Cond.instanceMethod ⟨"java/util/ArrayList", "grow", "()[Ljava/lang/Object;"⟩) ∈ GT := gt_t (gt_1 189 (by decide +kernel)) rfl
theorem gw_225 : (Cond.code ⟨"java/util/ArrayList", "grow", "()[Ljava/lang/Object;"⟩ prog_20_method_7_code 1 (Option.some (FieldType.array (FieldType.object "java/lang/Object")))) ∈ GT := gt_t (gt_1 190 (by decide +kernel)) rfl
theorem gw_226 : (Cond.methodLink "java/util/ArrayList" 69 ⟨"java/util/ArrayList", "grow", "(I)[Ljava/lang/Object;"⟩) ∈ GT := gt_t (gt_1 191 (by decide +kernel)) rfl
theorem gw_228 : (Cond.instanceMethod ⟨"java/util/ArrayList", "grow", "(I)[Ljava/lang/Object;"⟩) ∈ GT := gt_t (gt_1 193 (by decide +kernel)) rfl
theorem gw_229 : (Cond.code ⟨"java/util/ArrayList", "grow", "(I)[Ljava/lang/Object;"⟩ prog_20_method_6_code 4 (Option.some (FieldType.array (FieldType.object "java/lang/Object")))) ∈ GT := gt_t (gt_1 194 (by decide +kernel)) rfl
theorem gw_230 : (Cond.methodLink "java/util/ArrayList" 73 ⟨"jdk/internal/util/ArraysSupport", "newLength", "(III)I"⟩) ∈ GT := gt_t (gt_1 195 (by decide +kernel)) rfl
theorem gw_231 : (Cond.static ⟨"jdk/internal/util/ArraysSupport", "newLength", "(III)I"⟩) ∈ GT := gt_t (gt_1 196 (by decide +kernel)) rfl
theorem gw_232 : (Cond.code ⟨"jdk/internal/util/ArraysSupport", "newLength", "(III)I"⟩ prog_28_method_27_code 4 (Option.some FieldType.int)) ∈ GT := gt_t (gt_1 197 (by decide +kernel)) rfl
theorem gw_233 : (Cond.methodLink "jdk/internal/util/ArraysSupport" 194 ⟨"java/lang/Math", "max", "(II)I"⟩) ∈ GT := gt_t (gt_1 198 (by decide +kernel)) rfl
theorem gw_234 : (Cond.constant "jdk/internal/util/ArraysSupport" 200 (2147483639)) ∈ GT := gt_t (gt_1 199 (by decide +kernel)) rfl
theorem gw_235 : (Cond.methodLink "jdk/internal/util/ArraysSupport" 201 ⟨"jdk/internal/util/ArraysSupport", "hugeLength", "(II)I"⟩) ∈ GT := gt_t (gt_1 200 (by decide +kernel)) rfl
theorem gw_236 : (Cond.static ⟨"jdk/internal/util/ArraysSupport", "hugeLength", "(II)I"⟩) ∈ GT := gt_t (gt_1 201 (by decide +kernel)) rfl
theorem gw_237 : (Cond.code ⟨"jdk/internal/util/ArraysSupport", "hugeLength", "(II)I"⟩ prog_28_method_28_code 3 (Option.some FieldType.int)) ∈ GT := gt_t (gt_1 202 (by decide +kernel)) rfl
theorem gw_238 : (Cond.methodLink "java/util/ArrayList" 66 ⟨"java/util/Arrays", "copyOf", "([Ljava/lang/Object;I)[Ljava/lang/Object;"⟩) ∈ GT := gt_t (gt_1 203 (by decide +kernel)) rfl
theorem gw_239 : (Cond.static ⟨"java/util/Arrays", "copyOf", "([Ljava/lang/Object;I)[Ljava/lang/Object;"⟩) ∈ GT := gt_t (gt_1 204 (by decide +kernel)) rfl
theorem gw_240 : (Cond.code ⟨"java/util/Arrays", "copyOf", "([Ljava/lang/Object;I)[Ljava/lang/Object;"⟩ prog_21_method_119_code 2 (Option.some (FieldType.array (FieldType.object "java/lang/Object")))) ∈ GT := gt_t (gt_1 205 (by decide +kernel)) rfl
theorem gw_241 : (Cond.methodLink "java/util/Arrays" 86 ⟨"java/lang/Object", "getClass", "()Ljava/lang/Class;"⟩) ∈ GT := gt_t (gt_1 206 (by decide +kernel)) rfl
theorem gw_242 : (Cond.instanceMethod ⟨"java/lang/Object", "getClass", "()Ljava/lang/Class;"⟩) ∈ GT := gt_t (gt_1 207 (by decide +kernel)) rfl
theorem gw_243 : (Cond.sameMethod "java/lang/Object" "java/lang/Object" "getClass" "()Ljava/lang/Class;") ∈ GT := gt_t (gt_1 208 (by decide +kernel)) rfl
theorem gw_244 : (Cond.selects "MonitorQueues" ⟨"java/lang/Object", "getClass", "()Ljava/lang/Class;"⟩ ⟨"java/lang/Object", "getClass", "()Ljava/lang/Class;"⟩) ∈ GT := gt_t (gt_1 209 (by decide +kernel)) rfl
theorem gw_245 : (Cond.selects "MonitorQueues$Delay" ⟨"java/lang/Object", "getClass", "()Ljava/lang/Class;"⟩ ⟨"java/lang/Object", "getClass", "()Ljava/lang/Class;"⟩) ∈ GT := gt_t (gt_1 210 (by decide +kernel)) rfl
theorem gw_246 : (Cond.selects "MonitorQueues$Item" ⟨"java/lang/Object", "getClass", "()Ljava/lang/Class;"⟩ ⟨"java/lang/Object", "getClass", "()Ljava/lang/Class;"⟩) ∈ GT := gt_t (gt_1 211 (by decide +kernel)) rfl
theorem gw_247 : (Cond.selects "MonitorQueues$Queue" ⟨"java/lang/Object", "getClass", "()Ljava/lang/Class;"⟩ ⟨"java/lang/Object", "getClass", "()Ljava/lang/Class;"⟩) ∈ GT := gt_t (gt_1 212 (by decide +kernel)) rfl
theorem gw_248 : (Cond.selects "MonitorQueues$Task" ⟨"java/lang/Object", "getClass", "()Ljava/lang/Class;"⟩ ⟨"java/lang/Object", "getClass", "()Ljava/lang/Class;"⟩) ∈ GT := gt_t (gt_1 213 (by decide +kernel)) rfl
theorem gw_249 : (Cond.selects "MonitorQueues$Trigger" ⟨"java/lang/Object", "getClass", "()Ljava/lang/Class;"⟩ ⟨"java/lang/Object", "getClass", "()Ljava/lang/Class;"⟩) ∈ GT := gt_t (gt_1 214 (by decide +kernel)) rfl
theorem gw_250 : (Cond.selects "MonitorQueuesModel" ⟨"java/lang/Object", "getClass", "()Ljava/lang/Class;"⟩ ⟨"java/lang/Object", "getClass", "()Ljava/lang/Class;"⟩) ∈ GT := gt_t (gt_1 215 (by decide +kernel)) rfl
theorem gw_251 : (Cond.selects "java/util/ArrayList" ⟨"java/lang/Object", "getClass", "()Ljava/lang/Class;"⟩ ⟨"java/lang/Object", "getClass", "()Ljava/lang/Class;"⟩) ∈ GT := gt_t (gt_1 216 (by decide +kernel)) rfl
theorem gw_252 : (Cond.selects "java/util/NoSuchElementException" ⟨"java/lang/Object", "getClass", "()Ljava/lang/Class;"⟩ ⟨"java/lang/Object", "getClass", "()Ljava/lang/Class;"⟩) ∈ GT := gt_t (gt_1 217 (by decide +kernel)) rfl
theorem gw_253 : (Cond.native ⟨"java/lang/Object", "getClass", "()Ljava/lang/Class;"⟩) ∈ GT := gt_t (gt_1 218 (by decide +kernel)) rfl
theorem gw_254 : (Cond.methodLink "java/util/Arrays" 300 ⟨"java/util/Arrays", "copyOf", "([Ljava/lang/Object;ILjava/lang/Class;)[Ljava/lang/Object;"⟩) ∈ GT := gt_t (gt_1 219 (by decide +kernel)) rfl
theorem gw_255 : (Cond.static ⟨"java/util/Arrays", "copyOf", "([Ljava/lang/Object;ILjava/lang/Class;)[Ljava/lang/Object;"⟩) ∈ GT := gt_t (gt_1 220 (by decide +kernel)) rfl
theorem gw_256 : (Cond.code ⟨"java/util/Arrays", "copyOf", "([Ljava/lang/Object;ILjava/lang/Class;)[Ljava/lang/Object;"⟩ prog_21_method_120_code 4 (Option.some (FieldType.array (FieldType.object "java/lang/Object")))) ∈ GT := gt_t (gt_1 221 (by decide +kernel)) rfl
theorem gw_257 : (Cond.classLink "java/util/Arrays" 110 "[Ljava/lang/Object;") ∈ GT := gt_t (gt_1 222 (by decide +kernel)) rfl
theorem gw_258 : (Cond.arrayOver (FieldType.object "java/lang/Object")) ∈ tables_1 := gt_1 223 (by decide +kernel)
theorem gw_259 : (Cond.classLink "java/util/Arrays" 2 "java/lang/Object") ∈ GT := gt_t (gt_1 224 (by decide +kernel)) rfl
theorem gw_260 : (Cond.methodLink "java/util/Arrays" 304 ⟨"java/lang/Math", "min", "(II)I"⟩) ∈ GT := gt_t (gt_1 225 (by decide +kernel)) rfl
theorem gw_261 : (Cond.methodLink "java/util/Arrays" 150 ⟨"java/lang/System", "arraycopy", "(Ljava/lang/Object;ILjava/lang/Object;II)V"⟩) ∈ GT := gt_t (gt_1 226 (by decide +kernel)) rfl
theorem gw_262 : (Cond.static ⟨"java/lang/System", "arraycopy", "(Ljava/lang/Object;ILjava/lang/Object;II)V"⟩) ∈ GT := gt_t (gt_1 227 (by decide +kernel)) rfl
theorem gw_263 : (Cond.native ⟨"java/lang/System", "arraycopy", "(Ljava/lang/Object;ILjava/lang/Object;II)V"⟩) ∈ GT := gt_t (gt_1 228 (by decide +kernel)) rfl
theorem gw_264 : (Cond.methodLink "java/util/ArrayList" 79 ⟨"java/lang/Math", "max", "(II)I"⟩) ∈ GT := gt_t (gt_1 229 (by decide +kernel)) rfl
theorem gw_265 : (Cond.classLink "java/util/ArrayList" 7 "java/lang/Object") ∈ GT := gt_t (gt_1 230 (by decide +kernel)) rfl
theorem gw_266 : (Cond.methodLink "MonitorQueues$Queue" 54 ⟨"MonitorQueues$Queue", "isProtectedKind", "(I)Z"⟩) ∈ GT := gt_t (gt_1 231 (by decide +kernel)) rfl
theorem gw_267 : (Cond.static ⟨"MonitorQueues$Queue", "isProtectedKind", "(I)Z"⟩) ∈ GT := gt_t (gt_1 232 (by decide +kernel)) rfl
theorem gw_268 : (Cond.code ⟨"MonitorQueues$Queue", "isProtectedKind", "(I)Z"⟩ prog_4_method_3_code 1 (Option.some FieldType.boolean)) ∈ GT := gt_t (gt_1 233 (by decide +kernel)) rfl
theorem gw_269 : (Cond.methodLink "MonitorQueues$Queue" 60 ⟨"MonitorQueues$Queue", "isTransient", "()Z"⟩) ∈ GT := gt_t (gt_1 234 (by decide +kernel)) rfl
theorem gw_270 : (Cond.instanceMethod ⟨"MonitorQueues$Queue", "isTransient", "()Z"⟩) ∈ GT := gt_t (gt_1 235 (by decide +kernel)) rfl
theorem gw_271 : (Cond.selects "MonitorQueues$Queue" ⟨"MonitorQueues$Queue", "isTransient", "()Z"⟩ ⟨"MonitorQueues$Queue", "isTransient", "()Z"⟩) ∈ GT := gt_t (gt_1 236 (by decide +kernel)) rfl
theorem gw_272 : (Cond.code ⟨"MonitorQueues$Queue", "isTransient", "()Z"⟩ prog_4_method_4_code 1 (Option.some FieldType.boolean)) ∈ GT := gt_t (gt_1 237 (by decide +kernel)) rfl
theorem gw_273 : (Cond.methodLink "MonitorQueues$Queue" 33 ⟨"java/util/ArrayList", "size", "()I"⟩) ∈ GT := gt_t (gt_1 238 (by decide +kernel)) rfl
theorem gw_274 : (Cond.methodLink "MonitorQueues" 69 ⟨"MonitorQueues", "lookAtTriggers", "()V"⟩) ∈ GT := gt_t (gt_1 239 (by decide +kernel)) rfl
theorem gw_276 : (Cond.instanceMethod ⟨"MonitorQueues", "lookAtTriggers", "()V"⟩) ∈ GT := gt_t (gt_2 1 (by decide +kernel)) rfl
theorem gw_277 : (Cond.code ⟨"MonitorQueues", "lookAtTriggers", "()V"⟩ prog_1_method_21_code 3 none) ∈ GT := gt_t (gt_2 2 (by decide +kernel)) rfl
theorem gw_278 : (Cond.methodLink "MonitorQueues" 117 ⟨"MonitorQueues$Queue", "standing", "()I"⟩) ∈ GT := gt_t (gt_2 3 (by decide +kernel)) rfl
theorem gw_279 : (Cond.instanceMethod ⟨"MonitorQueues$Queue", "standing", "()I"⟩) ∈ GT := gt_t (gt_2 4 (by decide +kernel)) rfl
theorem gw_280 : (Cond.selects "MonitorQueues$Queue" ⟨"MonitorQueues$Queue", "standing", "()I"⟩ ⟨"MonitorQueues$Queue", "standing", "()I"⟩) ∈ GT := gt_t (gt_2 5 (by decide +kernel)) rfl
theorem gw_281 : (Cond.code ⟨"MonitorQueues$Queue", "standing", "()I"⟩ prog_4_method_7_code 1 (Option.some FieldType.int)) ∈ GT := gt_t (gt_2 6 (by decide +kernel)) rfl
theorem gw_282 : (Cond.methodLink "MonitorQueues" 205 ⟨"MonitorQueues", "look", "(LMonitorQueues$Trigger;I)V"⟩) ∈ GT := gt_t (gt_2 7 (by decide +kernel)) rfl
theorem gw_284 : (Cond.instanceMethod ⟨"MonitorQueues", "look", "(LMonitorQueues$Trigger;I)V"⟩) ∈ GT := gt_t (gt_2 9 (by decide +kernel)) rfl
theorem gw_285 : (Cond.code ⟨"MonitorQueues", "look", "(LMonitorQueues$Trigger;I)V"⟩ prog_1_method_22_code 3 none) ∈ GT := gt_t (gt_2 10 (by decide +kernel)) rfl
theorem gw_286 : (Cond.methodLink "MonitorQueues" 215 ⟨"MonitorQueues", "beginFor", "(LMonitorQueues$Trigger;)I"⟩) ∈ GT := gt_t (gt_2 11 (by decide +kernel)) rfl
theorem gw_288 : (Cond.instanceMethod ⟨"MonitorQueues", "beginFor", "(LMonitorQueues$Trigger;)I"⟩) ∈ GT := gt_t (gt_2 13 (by decide +kernel)) rfl
theorem gw_289 : (Cond.code ⟨"MonitorQueues", "beginFor", "(LMonitorQueues$Trigger;)I"⟩ prog_1_method_20_code 2 (Option.some FieldType.int)) ∈ GT := gt_t (gt_2 14 (by decide +kernel)) rfl
theorem gw_290 : (Cond.methodLink "MonitorQueues" 196 ⟨"MonitorQueues", "begin", "(I)I"⟩) ∈ GT := gt_t (gt_2 15 (by decide +kernel)) rfl
theorem gw_292 : (Cond.instanceMethod ⟨"MonitorQueues", "begin", "(I)I"⟩) ∈ GT := gt_t (gt_2 17 (by decide +kernel)) rfl
theorem gw_293 : (Cond.code ⟨"MonitorQueues", "begin", "(I)I"⟩ prog_1_method_19_code 2 (Option.some FieldType.int)) ∈ GT := gt_t (gt_2 18 (by decide +kernel)) rfl
theorem gw_294 : (Cond.classLink "MonitorQueues" 135 "MonitorQueues$Task") ∈ GT := gt_t (gt_2 19 (by decide +kernel)) rfl
theorem gw_295 : (Cond.instantiable "MonitorQueues$Task" 2) ∈ GT := gt_t (gt_2 20 (by decide +kernel)) rfl
theorem gw_296 : (Cond.methodLink "MonitorQueues" 188 ⟨"MonitorQueues$Task", "<init>", "(I)V"⟩) ∈ GT := gt_t (gt_2 21 (by decide +kernel)) rfl
theorem gw_297 : (Cond.instanceMethod ⟨"MonitorQueues$Task", "<init>", "(I)V"⟩) ∈ GT := gt_t (gt_2 22 (by decide +kernel)) rfl
theorem gw_298 : (Cond.code ⟨"MonitorQueues$Task", "<init>", "(I)V"⟩ prog_5_method_1_code 2 none) ∈ GT := gt_t (gt_2 23 (by decide +kernel)) rfl
theorem gw_299 : (Cond.methodLink "MonitorQueues$Task" 1 ⟨"java/lang/Object", "<init>", "()V"⟩) ∈ GT := gt_t (gt_2 24 (by decide +kernel)) rfl
theorem gw_300 : (Cond.fieldLink "MonitorQueues$Task" 7 "MonitorQueues$Task" "code" "I") ∈ GT := gt_t (gt_2 25 (by decide +kernel)) rfl
theorem gw_301 : (Cond.fieldLink "MonitorQueues" 137 "MonitorQueues$Task" "code" "I") ∈ GT := gt_t (gt_2 26 (by decide +kernel)) rfl
theorem gw_302 : (Cond.fieldLink "MonitorQueues$Task" 13 "MonitorQueues$Task" "goes" "Z") ∈ GT := gt_t (gt_2 27 (by decide +kernel)) rfl
theorem gw_303 : (Cond.fieldLink "MonitorQueues" 140 "MonitorQueues$Task" "goes" "Z") ∈ GT := gt_t (gt_2 28 (by decide +kernel)) rfl
theorem gw_304 : (Cond.laysFinal "MonitorQueues$Task" "MonitorQueues$Task" "code" "I") ∈ GT := gt_t (gt_2 29 (by decide +kernel)) rfl
theorem gw_306 : (Cond.lays "MonitorQueues$Task" "MonitorQueues$Task" "goes" "Z") ∈ GT := gt_t (gt_2 31 (by decide +kernel)) rfl
theorem gw_309 : (Cond.methodLink "MonitorQueues" 191 ⟨"java/util/ArrayList", "add", "(Ljava/lang/Object;)Z"⟩) ∈ GT := gt_t (gt_2 34 (by decide +kernel)) rfl
theorem gw_310 : (Cond.methodLink "MonitorQueuesLaw" 42 ⟨"MonitorQueues", "next", "(II)I"⟩) ∈ GT := gt_t (gt_2 35 (by decide +kernel)) rfl
theorem gw_311 : (Cond.instanceMethod ⟨"MonitorQueues", "next", "(II)I"⟩) ∈ GT := gt_t (gt_2 36 (by decide +kernel)) rfl
theorem gw_312 : (Cond.selects "MonitorQueues" ⟨"MonitorQueues", "next", "(II)I"⟩ ⟨"MonitorQueues", "next", "(II)I"⟩) ∈ GT := gt_t (gt_2 37 (by decide +kernel)) rfl
theorem gw_313 : (Cond.code ⟨"MonitorQueues", "next", "(II)I"⟩ prog_1_method_4_code 5 (Option.some FieldType.int)) ∈ GT := gt_t (gt_2 38 (by decide +kernel)) rfl
theorem gw_314 : (Cond.methodLink "MonitorQueues" 107 ⟨"MonitorQueues$Queue", "isTransient", "()Z"⟩) ∈ GT := gt_t (gt_2 39 (by decide +kernel)) rfl
theorem gw_315 : (Cond.methodLink "MonitorQueues" 82 ⟨"MonitorQueues$Queue", "holds", "(I)Z"⟩) ∈ GT := gt_t (gt_2 40 (by decide +kernel)) rfl
theorem gw_316 : (Cond.instanceMethod ⟨"MonitorQueues$Queue", "holds", "(I)Z"⟩) ∈ GT := gt_t (gt_2 41 (by decide +kernel)) rfl
theorem gw_317 : (Cond.selects "MonitorQueues$Queue" ⟨"MonitorQueues$Queue", "holds", "(I)Z"⟩ ⟨"MonitorQueues$Queue", "holds", "(I)Z"⟩) ∈ GT := gt_t (gt_2 42 (by decide +kernel)) rfl
theorem gw_318 : (Cond.code ⟨"MonitorQueues$Queue", "holds", "(I)Z"⟩ prog_4_method_8_code 2 (Option.some FieldType.boolean)) ∈ GT := gt_t (gt_2 43 (by decide +kernel)) rfl
theorem gw_319 : (Cond.methodLink "MonitorQueuesLaw" 47 ⟨"MonitorQueues", "take", "(I)I"⟩) ∈ GT := gt_t (gt_2 44 (by decide +kernel)) rfl
theorem gw_320 : (Cond.instanceMethod ⟨"MonitorQueues", "take", "(I)I"⟩) ∈ GT := gt_t (gt_2 45 (by decide +kernel)) rfl
theorem gw_321 : (Cond.selects "MonitorQueues" ⟨"MonitorQueues", "take", "(I)I"⟩ ⟨"MonitorQueues", "take", "(I)I"⟩) ∈ GT := gt_t (gt_2 46 (by decide +kernel)) rfl
theorem gw_322 : (Cond.code ⟨"MonitorQueues", "take", "(I)I"⟩ prog_1_method_5_code 4 (Option.some FieldType.int)) ∈ GT := gt_t (gt_2 47 (by decide +kernel)) rfl
theorem gw_323 : (Cond.methodLink "MonitorQueues" 79 ⟨"MonitorQueues$Queue", "isTemporary", "()Z"⟩) ∈ GT := gt_t (gt_2 48 (by decide +kernel)) rfl
theorem gw_324 : (Cond.instanceMethod ⟨"MonitorQueues$Queue", "isTemporary", "()Z"⟩) ∈ GT := gt_t (gt_2 49 (by decide +kernel)) rfl
theorem gw_325 : (Cond.selects "MonitorQueues$Queue" ⟨"MonitorQueues$Queue", "isTemporary", "()Z"⟩ ⟨"MonitorQueues$Queue", "isTemporary", "()Z"⟩) ∈ GT := gt_t (gt_2 50 (by decide +kernel)) rfl
theorem gw_326 : (Cond.code ⟨"MonitorQueues$Queue", "isTemporary", "()Z"⟩ prog_4_method_5_code 1 (Option.some FieldType.boolean)) ∈ GT := gt_t (gt_2 51 (by decide +kernel)) rfl
theorem gw_327 : (Cond.methodLink "MonitorQueues" 114 ⟨"java/util/ArrayList", "isEmpty", "()Z"⟩) ∈ GT := gt_t (gt_2 52 (by decide +kernel)) rfl
theorem gw_328 : (Cond.instanceMethod ⟨"java/util/ArrayList", "isEmpty", "()Z"⟩) ∈ GT := gt_t (gt_2 53 (by decide +kernel)) rfl
theorem gw_329 : (Cond.selects "java/util/ArrayList" ⟨"java/util/ArrayList", "isEmpty", "()Z"⟩ ⟨"java/util/ArrayList", "isEmpty", "()Z"⟩) ∈ GT := gt_t (gt_2 54 (by decide +kernel)) rfl
theorem gw_330 : (Cond.code ⟨"java/util/ArrayList", "isEmpty", "()Z"⟩ prog_20_method_9_code 1 (Option.some FieldType.boolean)) ∈ GT := gt_t (gt_2 55 (by decide +kernel)) rfl
theorem gw_331 : (Cond.methodLink "MonitorQueues" 120 ⟨"MonitorQueues$Queue", "removeFirst", "()I"⟩) ∈ GT := gt_t (gt_2 56 (by decide +kernel)) rfl
theorem gw_332 : (Cond.instanceMethod ⟨"MonitorQueues$Queue", "removeFirst", "()I"⟩) ∈ GT := gt_t (gt_2 57 (by decide +kernel)) rfl
theorem gw_333 : (Cond.selects "MonitorQueues$Queue" ⟨"MonitorQueues$Queue", "removeFirst", "()I"⟩ ⟨"MonitorQueues$Queue", "removeFirst", "()I"⟩) ∈ GT := gt_t (gt_2 58 (by decide +kernel)) rfl
theorem gw_334 : (Cond.code ⟨"MonitorQueues$Queue", "removeFirst", "()I"⟩ prog_4_method_12_code 1 (Option.some FieldType.int)) ∈ GT := gt_t (gt_2 59 (by decide +kernel)) rfl
theorem gw_335 : (Cond.methodLink "MonitorQueues$Queue" 67 ⟨"java/util/ArrayList", "isEmpty", "()Z"⟩) ∈ GT := gt_t (gt_2 60 (by decide +kernel)) rfl
theorem gw_336 : (Cond.methodLink "MonitorQueues$Queue" 73 ⟨"java/util/ArrayList", "get", "(I)Ljava/lang/Object;"⟩) ∈ GT := gt_t (gt_2 61 (by decide +kernel)) rfl
theorem gw_337 : (Cond.instanceMethod ⟨"java/util/ArrayList", "get", "(I)Ljava/lang/Object;"⟩) ∈ GT := gt_t (gt_2 62 (by decide +kernel)) rfl
theorem gw_338 : (Cond.selects "java/util/ArrayList" ⟨"java/util/ArrayList", "get", "(I)Ljava/lang/Object;"⟩ ⟨"java/util/ArrayList", "get", "(I)Ljava/lang/Object;"⟩) ∈ GT := gt_t (gt_2 63 (by decide +kernel)) rfl
theorem gw_339 : (Cond.code ⟨"java/util/ArrayList", "get", "(I)Ljava/lang/Object;"⟩ prog_20_method_20_code 2 (Option.some (FieldType.object "java/lang/Object"))) ∈ GT := gt_t (gt_2 64 (by decide +kernel)) rfl
theorem gw_340 : (Cond.methodLink "java/util/ArrayList" 118 ⟨"java/util/Objects", "checkIndex", "(II)I"⟩) ∈ GT := gt_t (gt_2 65 (by decide +kernel)) rfl
theorem gw_341 : (Cond.static ⟨"java/util/Objects", "checkIndex", "(II)I"⟩) ∈ GT := gt_t (gt_2 66 (by decide +kernel)) rfl
theorem gw_342 : (Cond.code ⟨"java/util/Objects", "checkIndex", "(II)I"⟩ prog_25_method_17_code 2 (Option.some FieldType.int)) ∈ GT := gt_t (gt_2 67 (by decide +kernel)) rfl
theorem gw_343 : (Cond.methodLink "java/util/Objects" 105 ⟨"jdk/internal/util/Preconditions", "checkIndex", "(IILjava/util/function/BiFunction;)I"⟩) ∈ GT := gt_t (gt_2 68 (by decide +kernel)) rfl
theorem gw_344 : (Cond.static ⟨"jdk/internal/util/Preconditions", "checkIndex", "(IILjava/util/function/BiFunction;)I"⟩) ∈ GT := gt_t (gt_2 69 (by decide +kernel)) rfl
theorem gw_345 : (Cond.code ⟨"jdk/internal/util/Preconditions", "checkIndex", "(IILjava/util/function/BiFunction;)I"⟩ prog_29_method_11_code 3 (Option.some FieldType.int)) ∈ GT := gt_t (gt_2 70 (by decide +kernel)) rfl
theorem gw_346 : (Cond.methodLink "java/util/ArrayList" 123 ⟨"java/util/ArrayList", "elementData", "(I)Ljava/lang/Object;"⟩) ∈ GT := gt_t (gt_2 71 (by decide +kernel)) rfl
theorem gw_347 : (Cond.instanceMethod ⟨"java/util/ArrayList", "elementData", "(I)Ljava/lang/Object;"⟩) ∈ GT := gt_t (gt_2 72 (by decide +kernel)) rfl
theorem gw_348 : (Cond.selects "java/util/ArrayList" ⟨"java/util/ArrayList", "elementData", "(I)Ljava/lang/Object;"⟩ ⟨"java/util/ArrayList", "elementData", "(I)Ljava/lang/Object;"⟩) ∈ GT := gt_t (gt_2 73 (by decide +kernel)) rfl
theorem gw_349 : (Cond.code ⟨"java/util/ArrayList", "elementData", "(I)Ljava/lang/Object;"⟩ prog_20_method_18_code 2 (Option.some (FieldType.object "java/lang/Object"))) ∈ GT := gt_t (gt_2 74 (by decide +kernel)) rfl
theorem gw_350 : (Cond.methodLink "MonitorQueues$Queue" 83 ⟨"java/util/ArrayList", "remove", "(I)Ljava/lang/Object;"⟩) ∈ GT := gt_t (gt_2 75 (by decide +kernel)) rfl
theorem gw_351 : (Cond.instanceMethod ⟨"java/util/ArrayList", "remove", "(I)Ljava/lang/Object;"⟩) ∈ GT := gt_t (gt_2 76 (by decide +kernel)) rfl
theorem gw_352 : (Cond.selects "java/util/ArrayList" ⟨"java/util/ArrayList", "remove", "(I)Ljava/lang/Object;"⟩ ⟨"java/util/ArrayList", "remove", "(I)Ljava/lang/Object;"⟩) ∈ GT := gt_t (gt_2 77 (by decide +kernel)) rfl
theorem gw_353 : (Cond.code ⟨"java/util/ArrayList", "remove", "(I)Ljava/lang/Object;"⟩ prog_20_method_29_code 4 (Option.some (FieldType.object "java/lang/Object"))) ∈ GT := gt_t (gt_2 78 (by decide +kernel)) rfl
theorem gw_354 : (Cond.methodLink "java/util/ArrayList" 144 ⟨"java/util/ArrayList", "fastRemove", "([Ljava/lang/Object;I)V"⟩) ∈ GT := gt_t (gt_2 79 (by decide +kernel)) rfl
theorem gw_356 : (Cond.instanceMethod ⟨"java/util/ArrayList", "fastRemove", "([Ljava/lang/Object;I)V"⟩) ∈ GT := gt_t (gt_2 81 (by decide +kernel)) rfl
theorem gw_357 : (Cond.code ⟨"java/util/ArrayList", "fastRemove", "([Ljava/lang/Object;I)V"⟩ prog_20_method_39_code 4 none) ∈ GT := gt_t (gt_2 82 (by decide +kernel)) rfl
theorem gw_358 : (Cond.methodLink "java/util/ArrayList" 112 ⟨"java/lang/System", "arraycopy", "(Ljava/lang/Object;ILjava/lang/Object;II)V"⟩) ∈ GT := gt_t (gt_2 83 (by decide +kernel)) rfl
theorem gw_359 : (Cond.methodLink "MonitorQueues$Queue" 92 ⟨"MonitorQueues$Queue", "becomeEmpty", "()V"⟩) ∈ GT := gt_t (gt_2 84 (by decide +kernel)) rfl
theorem gw_360 : (Cond.instanceMethod ⟨"MonitorQueues$Queue", "becomeEmpty", "()V"⟩) ∈ GT := gt_t (gt_2 85 (by decide +kernel)) rfl
theorem gw_361 : (Cond.selects "MonitorQueues$Queue" ⟨"MonitorQueues$Queue", "becomeEmpty", "()V"⟩ ⟨"MonitorQueues$Queue", "becomeEmpty", "()V"⟩) ∈ GT := gt_t (gt_2 86 (by decide +kernel)) rfl
theorem gw_362 : (Cond.code ⟨"MonitorQueues$Queue", "becomeEmpty", "()V"⟩ prog_4_method_15_code 1 none) ∈ GT := gt_t (gt_2 87 (by decide +kernel)) rfl
theorem gw_363 : (Cond.methodLink "MonitorQueues$Queue" 99 ⟨"java/util/ArrayList", "clear", "()V"⟩) ∈ GT := gt_t (gt_2 88 (by decide +kernel)) rfl
theorem gw_364 : (Cond.instanceMethod ⟨"java/util/ArrayList", "clear", "()V"⟩) ∈ GT := gt_t (gt_2 89 (by decide +kernel)) rfl
theorem gw_365 : (Cond.selects "java/util/ArrayList" ⟨"java/util/ArrayList", "clear", "()V"⟩ ⟨"java/util/ArrayList", "clear", "()V"⟩) ∈ GT := gt_t (gt_2 90 (by decide +kernel)) rfl
theorem gw_366 : (Cond.code ⟨"java/util/ArrayList", "clear", "()V"⟩ prog_20_method_40_code 4 none) ∈ GT := gt_t (gt_2 91 (by decide +kernel)) rfl
theorem gw_367 : (Cond.methodLink "MonitorQueues$Queue" 102 ⟨"java/util/Arrays", "fill", "([II)V"⟩) ∈ GT := gt_t (gt_2 92 (by decide +kernel)) rfl
theorem gw_368 : (Cond.static ⟨"java/util/Arrays", "fill", "([II)V"⟩) ∈ GT := gt_t (gt_2 93 (by decide +kernel)) rfl
theorem gw_369 : (Cond.code ⟨"java/util/Arrays", "fill", "([II)V"⟩ prog_21_method_103_code 4 none) ∈ GT := gt_t (gt_2 94 (by decide +kernel)) rfl
theorem gw_370 : (Cond.methodLink "MonitorQueuesLaw" 52 ⟨"MonitorQueues", "trigger", "(III)I"⟩) ∈ GT := gt_t (gt_2 95 (by decide +kernel)) rfl
theorem gw_371 : (Cond.instanceMethod ⟨"MonitorQueues", "trigger", "(III)I"⟩) ∈ GT := gt_t (gt_2 96 (by decide +kernel)) rfl
theorem gw_372 : (Cond.selects "MonitorQueues" ⟨"MonitorQueues", "trigger", "(III)I"⟩ ⟨"MonitorQueues", "trigger", "(III)I"⟩) ∈ GT := gt_t (gt_2 97 (by decide +kernel)) rfl
theorem gw_373 : (Cond.code ⟨"MonitorQueues", "trigger", "(III)I"⟩ prog_1_method_6_code 5 (Option.some FieldType.int)) ∈ GT := gt_t (gt_2 98 (by decide +kernel)) rfl
theorem gw_374 : (Cond.classLink "MonitorQueues" 123 "MonitorQueues$Trigger") ∈ GT := gt_t (gt_2 99 (by decide +kernel)) rfl
theorem gw_375 : (Cond.instantiable "MonitorQueues$Trigger" 5) ∈ GT := gt_t (gt_2 100 (by decide +kernel)) rfl
theorem gw_376 : (Cond.methodLink "MonitorQueues" 125 ⟨"MonitorQueues$Trigger", "<init>", "(II)V"⟩) ∈ GT := gt_t (gt_2 101 (by decide +kernel)) rfl
theorem gw_377 : (Cond.instanceMethod ⟨"MonitorQueues$Trigger", "<init>", "(II)V"⟩) ∈ GT := gt_t (gt_2 102 (by decide +kernel)) rfl
theorem gw_378 : (Cond.code ⟨"MonitorQueues$Trigger", "<init>", "(II)V"⟩ prog_6_method_1_code 3 none) ∈ GT := gt_t (gt_2 103 (by decide +kernel)) rfl
theorem gw_379 : (Cond.methodLink "MonitorQueues$Trigger" 1 ⟨"java/lang/Object", "<init>", "()V"⟩) ∈ GT := gt_t (gt_2 104 (by decide +kernel)) rfl
theorem gw_380 : (Cond.fieldLink "MonitorQueues$Trigger" 7 "MonitorQueues$Trigger" "needed" "I") ∈ GT := gt_t (gt_2 105 (by decide +kernel)) rfl
theorem gw_381 : (Cond.fieldLink "MonitorQueues" 209 "MonitorQueues$Trigger" "needed" "I") ∈ GT := gt_t (gt_2 106 (by decide +kernel)) rfl
theorem gw_382 : (Cond.fieldLink "MonitorQueues$Trigger" 13 "MonitorQueues$Trigger" "code" "I") ∈ GT := gt_t (gt_2 107 (by decide +kernel)) rfl
theorem gw_383 : (Cond.fieldLink "MonitorQueues" 195 "MonitorQueues$Trigger" "code" "I") ∈ GT := gt_t (gt_2 108 (by decide +kernel)) rfl
theorem gw_384 : (Cond.fieldLink "MonitorQueues$Trigger" 16 "MonitorQueues$Trigger" "ready" "Z") ∈ GT := gt_t (gt_2 109 (by decide +kernel)) rfl
theorem gw_385 : (Cond.fieldLink "MonitorQueues" 212 "MonitorQueues$Trigger" "ready" "Z") ∈ GT := gt_t (gt_2 110 (by decide +kernel)) rfl
theorem gw_386 : (Cond.fieldLink "MonitorQueues" 199 "MonitorQueues$Trigger" "task" "I") ∈ GT := gt_t (gt_2 111 (by decide +kernel)) rfl
theorem gw_387 : (Cond.fieldLink "MonitorQueues$Queue" 86 "MonitorQueues$Trigger" "takenSince" "Z") ∈ GT := gt_t (gt_2 112 (by decide +kernel)) rfl
theorem gw_388 : (Cond.fieldLink "MonitorQueues" 202 "MonitorQueues$Trigger" "takenSince" "Z") ∈ GT := gt_t (gt_2 113 (by decide +kernel)) rfl
theorem gw_389 : (Cond.laysFinal "MonitorQueues$Trigger" "MonitorQueues$Trigger" "needed" "I") ∈ GT := gt_t (gt_2 114 (by decide +kernel)) rfl
theorem gw_391 : (Cond.laysFinal "MonitorQueues$Trigger" "MonitorQueues$Trigger" "code" "I") ∈ GT := gt_t (gt_2 116 (by decide +kernel)) rfl
theorem gw_393 : (Cond.lays "MonitorQueues$Trigger" "MonitorQueues$Trigger" "ready" "Z") ∈ GT := gt_t (gt_2 118 (by decide +kernel)) rfl
theorem gw_395 : (Cond.lays "MonitorQueues$Trigger" "MonitorQueues$Trigger" "task" "I") ∈ GT := gt_t (gt_2 120 (by decide +kernel)) rfl
theorem gw_397 : (Cond.lays "MonitorQueues$Trigger" "MonitorQueues$Trigger" "takenSince" "Z") ∈ GT := gt_t (gt_2 122 (by decide +kernel)) rfl
theorem gw_400 : (Cond.methodLink "MonitorQueuesLaw" 57 ⟨"MonitorQueues", "started", "(I)I"⟩) ∈ GT := gt_t (gt_2 125 (by decide +kernel)) rfl
theorem gw_401 : (Cond.instanceMethod ⟨"MonitorQueues", "started", "(I)I"⟩) ∈ GT := gt_t (gt_2 126 (by decide +kernel)) rfl
theorem gw_402 : (Cond.selects "MonitorQueues" ⟨"MonitorQueues", "started", "(I)I"⟩ ⟨"MonitorQueues", "started", "(I)I"⟩) ∈ GT := gt_t (gt_2 127 (by decide +kernel)) rfl
theorem gw_403 : (Cond.code ⟨"MonitorQueues", "started", "(I)I"⟩ prog_1_method_7_code 2 (Option.some FieldType.int)) ∈ GT := gt_t (gt_2 128 (by decide +kernel)) rfl
theorem gw_404 : (Cond.methodLink "MonitorQueues" 132 ⟨"MonitorQueues", "isTask", "(I)Z"⟩) ∈ GT := gt_t (gt_2 129 (by decide +kernel)) rfl
theorem gw_406 : (Cond.instanceMethod ⟨"MonitorQueues", "isTask", "(I)Z"⟩) ∈ GT := gt_t (gt_2 131 (by decide +kernel)) rfl
theorem gw_407 : (Cond.code ⟨"MonitorQueues", "isTask", "(I)Z"⟩ prog_1_method_17_code 2 (Option.some FieldType.boolean)) ∈ GT := gt_t (gt_2 132 (by decide +kernel)) rfl
theorem gw_408 : (Cond.methodLink "MonitorQueues" 90 ⟨"java/util/ArrayList", "get", "(I)Ljava/lang/Object;"⟩) ∈ GT := gt_t (gt_2 133 (by decide +kernel)) rfl
theorem gw_409 : (Cond.methodLink "MonitorQueuesLaw" 61 ⟨"MonitorQueues", "end", "(I)I"⟩) ∈ GT := gt_t (gt_2 134 (by decide +kernel)) rfl
theorem gw_410 : (Cond.instanceMethod ⟨"MonitorQueues", "end", "(I)I"⟩) ∈ GT := gt_t (gt_2 135 (by decide +kernel)) rfl
theorem gw_411 : (Cond.selects "MonitorQueues" ⟨"MonitorQueues", "end", "(I)I"⟩ ⟨"MonitorQueues", "end", "(I)I"⟩) ∈ GT := gt_t (gt_2 136 (by decide +kernel)) rfl
theorem gw_412 : (Cond.code ⟨"MonitorQueues", "end", "(I)I"⟩ prog_1_method_8_code 4 (Option.some FieldType.int)) ∈ GT := gt_t (gt_2 137 (by decide +kernel)) rfl
theorem gw_413 : (Cond.methodLink "MonitorQueues" 147 ⟨"MonitorQueues", "beginAgain", "(I)I"⟩) ∈ GT := gt_t (gt_2 138 (by decide +kernel)) rfl
theorem gw_415 : (Cond.instanceMethod ⟨"MonitorQueues", "beginAgain", "(I)I"⟩) ∈ GT := gt_t (gt_2 140 (by decide +kernel)) rfl
theorem gw_416 : (Cond.code ⟨"MonitorQueues", "beginAgain", "(I)I"⟩ prog_1_method_23_code 5 (Option.some FieldType.int)) ∈ GT := gt_t (gt_2 141 (by decide +kernel)) rfl
theorem gw_417 : (Cond.methodLink "MonitorQueuesLaw" 65 ⟨"MonitorQueues", "rewrite", "(IIJ)I"⟩) ∈ GT := gt_t (gt_2 142 (by decide +kernel)) rfl
theorem gw_418 : (Cond.instanceMethod ⟨"MonitorQueues", "rewrite", "(IIJ)I"⟩) ∈ GT := gt_t (gt_2 143 (by decide +kernel)) rfl
theorem gw_419 : (Cond.selects "MonitorQueues" ⟨"MonitorQueues", "rewrite", "(IIJ)I"⟩ ⟨"MonitorQueues", "rewrite", "(IIJ)I"⟩) ∈ GT := gt_t (gt_2 144 (by decide +kernel)) rfl
theorem gw_420 : (Cond.code ⟨"MonitorQueues", "rewrite", "(IIJ)I"⟩ prog_1_method_9_code 6 (Option.some FieldType.int)) ∈ GT := gt_t (gt_2 145 (by decide +kernel)) rfl
theorem gw_421 : (Cond.classLink "MonitorQueues" 94 "MonitorQueues$Item") ∈ GT := gt_t (gt_2 146 (by decide +kernel)) rfl
theorem gw_422 : (Cond.methodLink "MonitorQueuesLaw" 70 ⟨"MonitorQueues", "delay", "(IJ)I"⟩) ∈ GT := gt_t (gt_2 147 (by decide +kernel)) rfl
theorem gw_423 : (Cond.instanceMethod ⟨"MonitorQueues", "delay", "(IJ)I"⟩) ∈ GT := gt_t (gt_2 148 (by decide +kernel)) rfl
theorem gw_424 : (Cond.selects "MonitorQueues" ⟨"MonitorQueues", "delay", "(IJ)I"⟩ ⟨"MonitorQueues", "delay", "(IJ)I"⟩) ∈ GT := gt_t (gt_2 149 (by decide +kernel)) rfl
theorem gw_425 : (Cond.code ⟨"MonitorQueues", "delay", "(IJ)I"⟩ prog_1_method_10_code 4 (Option.some FieldType.int)) ∈ GT := gt_t (gt_2 150 (by decide +kernel)) rfl
theorem gw_426 : (Cond.classLink "MonitorQueues" 157 "MonitorQueues$Delay") ∈ GT := gt_t (gt_2 151 (by decide +kernel)) rfl
theorem gw_427 : (Cond.instantiable "MonitorQueues$Delay" 3) ∈ GT := gt_t (gt_2 152 (by decide +kernel)) rfl
theorem gw_428 : (Cond.methodLink "MonitorQueues" 159 ⟨"MonitorQueues$Delay", "<init>", "(IIJ)V"⟩) ∈ GT := gt_t (gt_2 153 (by decide +kernel)) rfl
theorem gw_429 : (Cond.instanceMethod ⟨"MonitorQueues$Delay", "<init>", "(IIJ)V"⟩) ∈ GT := gt_t (gt_2 154 (by decide +kernel)) rfl
theorem gw_430 : (Cond.code ⟨"MonitorQueues$Delay", "<init>", "(IIJ)V"⟩ prog_2_method_1_code 5 none) ∈ GT := gt_t (gt_2 155 (by decide +kernel)) rfl
theorem gw_431 : (Cond.methodLink "MonitorQueues$Delay" 1 ⟨"java/lang/Object", "<init>", "()V"⟩) ∈ GT := gt_t (gt_2 156 (by decide +kernel)) rfl
theorem gw_432 : (Cond.fieldLink "MonitorQueues$Delay" 7 "MonitorQueues$Delay" "number" "I") ∈ GT := gt_t (gt_2 157 (by decide +kernel)) rfl
theorem gw_433 : (Cond.fieldLink "MonitorQueues" 169 "MonitorQueues$Delay" "number" "I") ∈ GT := gt_t (gt_2 158 (by decide +kernel)) rfl
theorem gw_434 : (Cond.fieldLink "MonitorQueues$Delay" 13 "MonitorQueues$Delay" "code" "I") ∈ GT := gt_t (gt_2 159 (by decide +kernel)) rfl
theorem gw_435 : (Cond.fieldLink "MonitorQueues" 225 "MonitorQueues$Delay" "code" "I") ∈ GT := gt_t (gt_2 160 (by decide +kernel)) rfl
theorem gw_436 : (Cond.fieldLink "MonitorQueues$Delay" 16 "MonitorQueues$Delay" "until" "J") ∈ GT := gt_t (gt_2 161 (by decide +kernel)) rfl
theorem gw_437 : (Cond.fieldLink "MonitorQueues" 219 "MonitorQueues$Delay" "until" "J") ∈ GT := gt_t (gt_2 162 (by decide +kernel)) rfl
theorem gw_438 : (Cond.laysFinal "MonitorQueues$Delay" "MonitorQueues$Delay" "number" "I") ∈ GT := gt_t (gt_2 163 (by decide +kernel)) rfl
theorem gw_440 : (Cond.laysFinal "MonitorQueues$Delay" "MonitorQueues$Delay" "code" "I") ∈ GT := gt_t (gt_2 165 (by decide +kernel)) rfl
theorem gw_442 : (Cond.laysFinal "MonitorQueues$Delay" "MonitorQueues$Delay" "until" "J") ∈ GT := gt_t (gt_2 167 (by decide +kernel)) rfl
theorem gw_445 : (Cond.methodLink "MonitorQueues" 162 ⟨"MonitorQueues", "keepWaiting", "(LMonitorQueues$Delay;)V"⟩) ∈ GT := gt_t (gt_2 170 (by decide +kernel)) rfl
theorem gw_447 : (Cond.instanceMethod ⟨"MonitorQueues", "keepWaiting", "(LMonitorQueues$Delay;)V"⟩) ∈ GT := gt_t (gt_2 172 (by decide +kernel)) rfl
theorem gw_448 : (Cond.code ⟨"MonitorQueues", "keepWaiting", "(LMonitorQueues$Delay;)V"⟩ prog_1_method_24_code 3 none) ∈ GT := gt_t (gt_2 173 (by decide +kernel)) rfl
theorem gw_449 : (Cond.methodLink "MonitorQueues" 222 ⟨"java/util/ArrayList", "add", "(ILjava/lang/Object;)V"⟩) ∈ GT := gt_t (gt_2 174 (by decide +kernel)) rfl
theorem gw_450 : (Cond.instanceMethod ⟨"java/util/ArrayList", "add", "(ILjava/lang/Object;)V"⟩) ∈ GT := gt_t (gt_2 175 (by decide +kernel)) rfl
theorem gw_451 : (Cond.selects "java/util/ArrayList" ⟨"java/util/ArrayList", "add", "(ILjava/lang/Object;)V"⟩ ⟨"java/util/ArrayList", "add", "(ILjava/lang/Object;)V"⟩) ∈ GT := gt_t (gt_2 176 (by decide +kernel)) rfl
theorem gw_452 : (Cond.code ⟨"java/util/ArrayList", "add", "(ILjava/lang/Object;)V"⟩ prog_20_method_26_code 5 none) ∈ GT := gt_t (gt_2 177 (by decide +kernel)) rfl
theorem gw_453 : (Cond.methodLink "java/util/ArrayList" 135 ⟨"java/util/ArrayList", "rangeCheckForAdd", "(I)V"⟩) ∈ GT := gt_t (gt_2 178 (by decide +kernel)) rfl
theorem gw_455 : (Cond.instanceMethod ⟨"java/util/ArrayList", "rangeCheckForAdd", "(I)V"⟩) ∈ GT := gt_t (gt_2 180 (by decide +kernel)) rfl
theorem gw_456 : (Cond.code ⟨"java/util/ArrayList", "rangeCheckForAdd", "(I)V"⟩ prog_20_method_45_code 2 none) ∈ GT := gt_t (gt_2 181 (by decide +kernel)) rfl
theorem gw_457 : (Cond.methodLink "MonitorQueues" 166 ⟨"MonitorQueues", "postDue", "()I"⟩) ∈ GT := gt_t (gt_2 182 (by decide +kernel)) rfl
theorem gw_459 : (Cond.instanceMethod ⟨"MonitorQueues", "postDue", "()I"⟩) ∈ GT := gt_t (gt_2 184 (by decide +kernel)) rfl
theorem gw_460 : (Cond.code ⟨"MonitorQueues", "postDue", "()I"⟩ prog_1_method_25_code 2 (Option.some FieldType.int)) ∈ GT := gt_t (gt_2 185 (by decide +kernel)) rfl
theorem gw_461 : (Cond.methodLink "MonitorQueues" 172 ⟨"java/util/ArrayList", "remove", "(I)Ljava/lang/Object;"⟩) ∈ GT := gt_t (gt_2 186 (by decide +kernel)) rfl
theorem gw_462 : (Cond.methodLink "MonitorQueuesLaw" 75 ⟨"MonitorQueues", "cancel", "(I)I"⟩) ∈ GT := gt_t (gt_2 187 (by decide +kernel)) rfl
theorem gw_463 : (Cond.instanceMethod ⟨"MonitorQueues", "cancel", "(I)I"⟩) ∈ GT := gt_t (gt_2 188 (by decide +kernel)) rfl
theorem gw_464 : (Cond.selects "MonitorQueues" ⟨"MonitorQueues", "cancel", "(I)I"⟩ ⟨"MonitorQueues", "cancel", "(I)I"⟩) ∈ GT := gt_t (gt_2 189 (by decide +kernel)) rfl
theorem gw_465 : (Cond.code ⟨"MonitorQueues", "cancel", "(I)I"⟩ prog_1_method_11_code 3 (Option.some FieldType.int)) ∈ GT := gt_t (gt_2 190 (by decide +kernel)) rfl
theorem gw_466 : (Cond.methodLink "MonitorQueuesLaw" 79 ⟨"MonitorQueues", "tick", "(J)I"⟩) ∈ GT := gt_t (gt_2 191 (by decide +kernel)) rfl
theorem gw_467 : (Cond.instanceMethod ⟨"MonitorQueues", "tick", "(J)I"⟩) ∈ GT := gt_t (gt_2 192 (by decide +kernel)) rfl
theorem gw_468 : (Cond.selects "MonitorQueues" ⟨"MonitorQueues", "tick", "(J)I"⟩ ⟨"MonitorQueues", "tick", "(J)I"⟩) ∈ GT := gt_t (gt_2 193 (by decide +kernel)) rfl
theorem gw_469 : (Cond.code ⟨"MonitorQueues", "tick", "(J)I"⟩ prog_1_method_12_code 3 (Option.some FieldType.int)) ∈ GT := gt_t (gt_2 194 (by decide +kernel)) rfl
theorem gw_470 : (Cond.methodLink "MonitorQueuesLaw" 84 ⟨"MonitorQueues", "unit", "(IZ)I"⟩) ∈ GT := gt_t (gt_2 195 (by decide +kernel)) rfl
theorem gw_471 : (Cond.instanceMethod ⟨"MonitorQueues", "unit", "(IZ)I"⟩) ∈ GT := gt_t (gt_2 196 (by decide +kernel)) rfl
theorem gw_472 : (Cond.selects "MonitorQueues" ⟨"MonitorQueues", "unit", "(IZ)I"⟩ ⟨"MonitorQueues", "unit", "(IZ)I"⟩) ∈ GT := gt_t (gt_2 197 (by decide +kernel)) rfl
theorem gw_473 : (Cond.code ⟨"MonitorQueues", "unit", "(IZ)I"⟩ prog_1_method_13_code 6 (Option.some FieldType.int)) ∈ GT := gt_t (gt_2 198 (by decide +kernel)) rfl
theorem gw_474 : (Cond.methodLink "MonitorQueues" 175 ⟨"MonitorQueues$Queue", "endPending", "(Z)I"⟩) ∈ GT := gt_t (gt_2 199 (by decide +kernel)) rfl
theorem gw_475 : (Cond.instanceMethod ⟨"MonitorQueues$Queue", "endPending", "(Z)I"⟩) ∈ GT := gt_t (gt_2 200 (by decide +kernel)) rfl
theorem gw_476 : (Cond.selects "MonitorQueues$Queue" ⟨"MonitorQueues$Queue", "endPending", "(Z)I"⟩ ⟨"MonitorQueues$Queue", "endPending", "(Z)I"⟩) ∈ GT := gt_t (gt_2 201 (by decide +kernel)) rfl
theorem gw_477 : (Cond.code ⟨"MonitorQueues$Queue", "endPending", "(Z)I"⟩ prog_4_method_13_code 3 (Option.some FieldType.int)) ∈ GT := gt_t (gt_2 202 (by decide +kernel)) rfl
theorem gw_478 : (Cond.methodLink "MonitorQueues$Queue" 95 ⟨"MonitorQueues$Queue", "dropLast", "(I)V"⟩) ∈ GT := gt_t (gt_2 203 (by decide +kernel)) rfl
theorem gw_479 : (Cond.instanceMethod ⟨"MonitorQueues$Queue", "dropLast", "(I)V"⟩) ∈ GT := gt_t (gt_2 204 (by decide +kernel)) rfl
theorem gw_480 : (Cond.selects "MonitorQueues$Queue" ⟨"MonitorQueues$Queue", "dropLast", "(I)V"⟩ ⟨"MonitorQueues$Queue", "dropLast", "(I)V"⟩) ∈ GT := gt_t (gt_2 205 (by decide +kernel)) rfl
theorem gw_481 : (Cond.code ⟨"MonitorQueues$Queue", "dropLast", "(I)V"⟩ prog_4_method_14_code 3 none) ∈ GT := gt_t (gt_2 206 (by decide +kernel)) rfl
theorem gw_482 : (Cond.methodLink "MonitorQueuesLaw" 89 ⟨"MonitorQueues", "age", "(J)I"⟩) ∈ GT := gt_t (gt_2 207 (by decide +kernel)) rfl
theorem gw_483 : (Cond.instanceMethod ⟨"MonitorQueues", "age", "(J)I"⟩) ∈ GT := gt_t (gt_2 208 (by decide +kernel)) rfl
theorem gw_484 : (Cond.selects "MonitorQueues" ⟨"MonitorQueues", "age", "(J)I"⟩ ⟨"MonitorQueues", "age", "(J)I"⟩) ∈ GT := gt_t (gt_2 209 (by decide +kernel)) rfl
theorem gw_485 : (Cond.code ⟨"MonitorQueues", "age", "(J)I"⟩ prog_1_method_14_code 6 (Option.some FieldType.int)) ∈ GT := gt_t (gt_2 210 (by decide +kernel)) rfl
theorem gw_486 : (Cond.methodLink "MonitorQueues" 182 ⟨"MonitorQueues$Queue", "becomeEmpty", "()V"⟩) ∈ GT := gt_t (gt_2 211 (by decide +kernel)) rfl
theorem gw_487 : (Cond.methodLink "MonitorQueuesLaw" 93 ⟨"MonitorQueues", "count", "(I)I"⟩) ∈ GT := gt_t (gt_2 212 (by decide +kernel)) rfl
theorem gw_488 : (Cond.instanceMethod ⟨"MonitorQueues", "count", "(I)I"⟩) ∈ GT := gt_t (gt_2 213 (by decide +kernel)) rfl
theorem gw_489 : (Cond.selects "MonitorQueues" ⟨"MonitorQueues", "count", "(I)I"⟩ ⟨"MonitorQueues", "count", "(I)I"⟩) ∈ GT := gt_t (gt_2 214 (by decide +kernel)) rfl
theorem gw_490 : (Cond.code ⟨"MonitorQueues", "count", "(I)I"⟩ prog_1_method_15_code 2 (Option.some FieldType.int)) ∈ GT := gt_t (gt_2 215 (by decide +kernel)) rfl
theorem gw_491 : (Cond.methodLink "MonitorQueuesLaw" 15 ⟨"MonitorQueuesLaw", "cell", "([II)I"⟩) ∈ GT := gt_t (gt_2 216 (by decide +kernel)) rfl
theorem gw_492 : (Cond.static ⟨"MonitorQueuesLaw", "cell", "([II)I"⟩) ∈ GT := gt_t (gt_2 217 (by decide +kernel)) rfl
theorem gw_493 : (Cond.code ⟨"MonitorQueuesLaw", "cell", "([II)I"⟩ method_2_code 2 (Option.some FieldType.int)) ∈ GT := gt_t (gt_2 218 (by decide +kernel)) rfl
theorem gw_497 : (Cond.classLink "MonitorQueuesLaw" 13 "java/util/NoSuchElementException") ∈ GT := gt_t (gt_2 222 (by decide +kernel)) rfl
theorem gw_498 : (Cond.methodLink "MonitorQueuesLaw" 7 ⟨"MonitorQueues", "get", "(II)J"⟩) ∈ GT := gt_t (gt_2 223 (by decide +kernel)) rfl
theorem gw_499 : (Cond.instanceMethod ⟨"MonitorQueues", "get", "(II)J"⟩) ∈ GT := gt_t (gt_2 224 (by decide +kernel)) rfl
theorem gw_500 : (Cond.selects "MonitorQueues" ⟨"MonitorQueues", "get", "(II)J"⟩ ⟨"MonitorQueues", "get", "(II)J"⟩) ∈ GT := gt_t (gt_2 225 (by decide +kernel)) rfl
theorem gw_501 : (Cond.code ⟨"MonitorQueues", "get", "(II)J"⟩ prog_1_method_3_code 4 (Option.some FieldType.long)) ∈ GT := gt_t (gt_2 226 (by decide +kernel)) rfl
theorem gw_502 : (Cond.classLink "MonitorQueues" 72 "java/util/NoSuchElementException") ∈ GT := gt_t (gt_2 227 (by decide +kernel)) rfl
theorem gw_503 : (Cond.instantiable "java/util/NoSuchElementException" 6) ∈ GT := gt_t (gt_2 228 (by decide +kernel)) rfl
theorem gw_504 : (Cond.castable "java/util/NoSuchElementException" "java/util/NoSuchElementException") ∈ tables_1 := gt_2 229 (by decide +kernel)
theorem gw_505 : (Cond.declares ⟨"java/lang/RuntimeException", "<init>", "()V"⟩) ∈ tables_1 := gt_2 230 (by decide +kernel)
theorem gw_506 : (Cond.declares ⟨"java/lang/RuntimeException", "<init>", "(Ljava/lang/String;)V"⟩) ∈ tables_1 := gt_2 231 (by decide +kernel)
theorem gw_507 : (Cond.declares ⟨"java/lang/Exception", "<init>", "()V"⟩) ∈ tables_1 := gt_2 232 (by decide +kernel)
theorem gw_508 : (Cond.declares ⟨"java/lang/Exception", "<init>", "(Ljava/lang/String;)V"⟩) ∈ tables_1 := gt_2 233 (by decide +kernel)
theorem gw_509 : (Cond.declares ⟨"java/lang/Throwable", "<init>", "()V"⟩) ∈ tables_1 := gt_2 234 (by decide +kernel)
theorem gw_510 : (Cond.declares ⟨"java/lang/Throwable", "<init>", "(Ljava/lang/String;)V"⟩) ∈ tables_1 := gt_2 235 (by decide +kernel)
theorem gw_527 : (Cond.methodLink "java/lang/Throwable" 1 ⟨"java/lang/Object", "<init>", "()V"⟩) ∈ GT := gt_t (gt_3 12 (by decide +kernel)) rfl
theorem gw_534 : (Cond.sameMethod "java/lang/Throwable" "java/lang/Throwable" "fillInStackTrace" "()Ljava/lang/Throwable;") ∈ GT := gt_t (gt_3 19 (by decide +kernel)) rfl
theorem gw_539 : (Cond.instantiable "java/lang/Throwable" 6) ∈ GT := gt_t (gt_3 24 (by decide +kernel)) rfl
theorem gw_540 : (Cond.native ⟨"java/lang/Throwable", "fillInStackTrace", "(I)Ljava/lang/Throwable;"⟩) ∈ GT := gt_t (gt_3 25 (by decide +kernel)) rfl
theorem gw_541 : (Cond.stringRef "MonitorQueues" 74 "no such queue") ∈ tables_1 := gt_3 26 (by decide +kernel)
theorem gw_542 : (Cond.methodLink "MonitorQueues" 76 ⟨"java/util/NoSuchElementException", "<init>", "(Ljava/lang/String;)V"⟩) ∈ GT := gt_t (gt_3 27 (by decide +kernel)) rfl
theorem gw_543 : (Cond.instanceMethod ⟨"java/util/NoSuchElementException", "<init>", "(Ljava/lang/String;)V"⟩) ∈ GT := gt_t (gt_3 28 (by decide +kernel)) rfl
theorem gw_544 : (Cond.code ⟨"java/util/NoSuchElementException", "<init>", "(Ljava/lang/String;)V"⟩ prog_24_method_4_code 2 none) ∈ GT := gt_t (gt_3 29 (by decide +kernel)) rfl
theorem gw_545 : (Cond.methodLink "java/util/NoSuchElementException" 13 ⟨"java/lang/RuntimeException", "<init>", "(Ljava/lang/String;)V"⟩) ∈ GT := gt_t (gt_3 30 (by decide +kernel)) rfl
theorem gw_546 : (Cond.instanceMethod ⟨"java/lang/RuntimeException", "<init>", "(Ljava/lang/String;)V"⟩) ∈ GT := gt_t (gt_3 31 (by decide +kernel)) rfl
theorem gw_547 : (Cond.code ⟨"java/lang/RuntimeException", "<init>", "(Ljava/lang/String;)V"⟩ prog_14_method_2_code 2 none) ∈ GT := gt_t (gt_3 32 (by decide +kernel)) rfl
theorem gw_548 : (Cond.methodLink "java/lang/RuntimeException" 7 ⟨"java/lang/Exception", "<init>", "(Ljava/lang/String;)V"⟩) ∈ GT := gt_t (gt_3 33 (by decide +kernel)) rfl
theorem gw_549 : (Cond.instanceMethod ⟨"java/lang/Exception", "<init>", "(Ljava/lang/String;)V"⟩) ∈ GT := gt_t (gt_3 34 (by decide +kernel)) rfl
theorem gw_550 : (Cond.code ⟨"java/lang/Exception", "<init>", "(Ljava/lang/String;)V"⟩ prog_11_method_2_code 2 none) ∈ GT := gt_t (gt_3 35 (by decide +kernel)) rfl
theorem gw_551 : (Cond.methodLink "java/lang/Exception" 7 ⟨"java/lang/Throwable", "<init>", "(Ljava/lang/String;)V"⟩) ∈ GT := gt_t (gt_3 36 (by decide +kernel)) rfl
theorem gw_552 : (Cond.instanceMethod ⟨"java/lang/Throwable", "<init>", "(Ljava/lang/String;)V"⟩) ∈ GT := gt_t (gt_3 37 (by decide +kernel)) rfl
theorem gw_553 : (Cond.code ⟨"java/lang/Throwable", "<init>", "(Ljava/lang/String;)V"⟩ prog_17_method_2_code 2 none) ∈ GT := gt_t (gt_3 38 (by decide +kernel)) rfl
theorem gw_567 : (Cond.arrayClass FieldType.byte) ∈ GT := gt_t (gt_3 52 (by decide +kernel)) rfl
theorem gw_568 : (Cond.stringRef "MonitorQueues" 85 "no such item") ∈ tables_1 := gt_3 53 (by decide +kernel)
theorem gw_569 : (Cond.stringRef "MonitorQueues" 102 "not the item taken latest") ∈ tables_1 := gt_3 54 (by decide +kernel)
theorem gw_570 : (Cond.classLink "MonitorQueuesLaw" 24 "MonitorQueuesModel") ∈ GT := gt_t (gt_3 55 (by decide +kernel)) rfl
theorem gw_571 : (Cond.instantiable "MonitorQueuesModel" 28) ∈ GT := gt_t (gt_3 56 (by decide +kernel)) rfl
theorem gw_572 : (Cond.methodLink "MonitorQueuesLaw" 26 ⟨"MonitorQueuesModel", "<init>", "(I)V"⟩) ∈ GT := gt_t (gt_3 57 (by decide +kernel)) rfl
theorem gw_573 : (Cond.instanceMethod ⟨"MonitorQueuesModel", "<init>", "(I)V"⟩) ∈ GT := gt_t (gt_3 58 (by decide +kernel)) rfl
theorem gw_574 : (Cond.code ⟨"MonitorQueuesModel", "<init>", "(I)V"⟩ prog_8_method_1_code 3 none) ∈ GT := gt_t (gt_3 59 (by decide +kernel)) rfl
theorem gw_575 : (Cond.methodLink "MonitorQueuesModel" 1 ⟨"java/lang/Object", "<init>", "()V"⟩) ∈ GT := gt_t (gt_3 60 (by decide +kernel)) rfl
theorem gw_576 : (Cond.fieldLink "MonitorQueuesModel" 76 "MonitorQueuesModel" "code" "I") ∈ GT := gt_t (gt_3 61 (by decide +kernel)) rfl
theorem gw_577 : (Cond.fieldLink "MonitorQueuesModel" 72 "MonitorQueuesModel" "room" "I") ∈ GT := gt_t (gt_3 62 (by decide +kernel)) rfl
theorem gw_578 : (Cond.fieldLink "MonitorQueuesModel" 7 "MonitorQueuesModel" "queueOf" "[I") ∈ GT := gt_t (gt_3 63 (by decide +kernel)) rfl
theorem gw_579 : (Cond.fieldLink "MonitorQueuesModel" 13 "MonitorQueuesModel" "numberOf" "[I") ∈ GT := gt_t (gt_3 64 (by decide +kernel)) rfl
theorem gw_580 : (Cond.fieldLink "MonitorQueuesModel" 16 "MonitorQueuesModel" "unitOf" "[I") ∈ GT := gt_t (gt_3 65 (by decide +kernel)) rfl
theorem gw_581 : (Cond.fieldLink "MonitorQueuesModel" 19 "MonitorQueuesModel" "valueOf" "[J") ∈ GT := gt_t (gt_3 66 (by decide +kernel)) rfl
theorem gw_582 : (Cond.fieldLink "MonitorQueuesModel" 79 "MonitorQueuesModel" "items" "I") ∈ GT := gt_t (gt_3 67 (by decide +kernel)) rfl
theorem gw_583 : (Cond.fieldLink "MonitorQueuesModel" 23 "MonitorQueuesModel" "kind" "[I") ∈ GT := gt_t (gt_3 68 (by decide +kernel)) rfl
theorem gw_584 : (Cond.fieldLink "MonitorQueuesModel" 26 "MonitorQueuesModel" "last" "[I") ∈ GT := gt_t (gt_3 69 (by decide +kernel)) rfl
theorem gw_585 : (Cond.fieldLink "MonitorQueuesModel" 29 "MonitorQueuesModel" "least" "[I") ∈ GT := gt_t (gt_3 70 (by decide +kernel)) rfl
theorem gw_586 : (Cond.fieldLink "MonitorQueuesModel" 32 "MonitorQueuesModel" "codes" "[I") ∈ GT := gt_t (gt_3 71 (by decide +kernel)) rfl
theorem gw_587 : (Cond.fieldLink "MonitorQueuesModel" 35 "MonitorQueuesModel" "going" "[I") ∈ GT := gt_t (gt_3 72 (by decide +kernel)) rfl
theorem gw_588 : (Cond.fieldLink "MonitorQueuesModel" 38 "MonitorQueuesModel" "takenNumber" "[I") ∈ GT := gt_t (gt_3 73 (by decide +kernel)) rfl
theorem gw_589 : (Cond.fieldLink "MonitorQueuesModel" 41 "MonitorQueuesModel" "ready" "[Z") ∈ GT := gt_t (gt_3 74 (by decide +kernel)) rfl
theorem gw_590 : (Cond.fieldLink "MonitorQueuesModel" 45 "MonitorQueuesModel" "took" "[Z") ∈ GT := gt_t (gt_3 75 (by decide +kernel)) rfl
theorem gw_591 : (Cond.fieldLink "MonitorQueuesModel" 48 "MonitorQueuesModel" "used" "[J") ∈ GT := gt_t (gt_3 76 (by decide +kernel)) rfl
theorem gw_592 : (Cond.fieldLink "MonitorQueuesModel" 51 "MonitorQueuesModel" "taken" "[J") ∈ GT := gt_t (gt_3 77 (by decide +kernel)) rfl
theorem gw_593 : (Cond.fieldLink "MonitorQueuesModel" 54 "MonitorQueuesModel" "places" "[I") ∈ GT := gt_t (gt_3 78 (by decide +kernel)) rfl
theorem gw_594 : (Cond.fieldLink "MonitorQueuesModel" 57 "MonitorQueuesModel" "tasks" "[I") ∈ GT := gt_t (gt_3 79 (by decide +kernel)) rfl
theorem gw_595 : (Cond.fieldLink "MonitorQueuesModel" 60 "MonitorQueuesModel" "goes" "[Z") ∈ GT := gt_t (gt_3 80 (by decide +kernel)) rfl
theorem gw_596 : (Cond.fieldLink "MonitorQueuesModel" 90 "MonitorQueuesModel" "begun" "I") ∈ GT := gt_t (gt_3 81 (by decide +kernel)) rfl
theorem gw_597 : (Cond.fieldLink "MonitorQueuesModel" 93 "MonitorQueuesModel" "running" "I") ∈ GT := gt_t (gt_3 82 (by decide +kernel)) rfl
theorem gw_598 : (Cond.fieldLink "MonitorQueuesModel" 112 "MonitorQueuesModel" "now" "J") ∈ GT := gt_t (gt_3 83 (by decide +kernel)) rfl
theorem gw_599 : (Cond.fieldLink "MonitorQueuesModel" 63 "MonitorQueuesModel" "delayNumber" "[I") ∈ GT := gt_t (gt_3 84 (by decide +kernel)) rfl
theorem gw_600 : (Cond.fieldLink "MonitorQueuesModel" 66 "MonitorQueuesModel" "delayCode" "[I") ∈ GT := gt_t (gt_3 85 (by decide +kernel)) rfl
theorem gw_601 : (Cond.fieldLink "MonitorQueuesModel" 69 "MonitorQueuesModel" "delayTime" "[J") ∈ GT := gt_t (gt_3 86 (by decide +kernel)) rfl
theorem gw_602 : (Cond.fieldLink "MonitorQueuesModel" 153 "MonitorQueuesModel" "delays" "I") ∈ GT := gt_t (gt_3 87 (by decide +kernel)) rfl
theorem gw_603 : (Cond.fieldLink "MonitorQueuesModel" 156 "MonitorQueuesModel" "delayed" "I") ∈ GT := gt_t (gt_3 88 (by decide +kernel)) rfl
theorem gw_604 : (Cond.lays "MonitorQueuesModel" "MonitorQueuesModel" "code" "I") ∈ GT := gt_t (gt_3 89 (by decide +kernel)) rfl
theorem gw_606 : (Cond.laysFinal "MonitorQueuesModel" "MonitorQueuesModel" "room" "I") ∈ GT := gt_t (gt_3 91 (by decide +kernel)) rfl
theorem gw_608 : (Cond.laysFinal "MonitorQueuesModel" "MonitorQueuesModel" "queueOf" "[I") ∈ GT := gt_t (gt_3 93 (by decide +kernel)) rfl
theorem gw_610 : (Cond.laysFinal "MonitorQueuesModel" "MonitorQueuesModel" "numberOf" "[I") ∈ GT := gt_t (gt_3 95 (by decide +kernel)) rfl
theorem gw_612 : (Cond.laysFinal "MonitorQueuesModel" "MonitorQueuesModel" "unitOf" "[I") ∈ GT := gt_t (gt_3 97 (by decide +kernel)) rfl
theorem gw_614 : (Cond.laysFinal "MonitorQueuesModel" "MonitorQueuesModel" "valueOf" "[J") ∈ GT := gt_t (gt_3 99 (by decide +kernel)) rfl
theorem gw_616 : (Cond.lays "MonitorQueuesModel" "MonitorQueuesModel" "items" "I") ∈ GT := gt_t (gt_3 101 (by decide +kernel)) rfl
theorem gw_618 : (Cond.laysFinal "MonitorQueuesModel" "MonitorQueuesModel" "kind" "[I") ∈ GT := gt_t (gt_3 103 (by decide +kernel)) rfl
theorem gw_620 : (Cond.laysFinal "MonitorQueuesModel" "MonitorQueuesModel" "last" "[I") ∈ GT := gt_t (gt_3 105 (by decide +kernel)) rfl
theorem gw_622 : (Cond.laysFinal "MonitorQueuesModel" "MonitorQueuesModel" "least" "[I") ∈ GT := gt_t (gt_3 107 (by decide +kernel)) rfl
theorem gw_624 : (Cond.laysFinal "MonitorQueuesModel" "MonitorQueuesModel" "codes" "[I") ∈ GT := gt_t (gt_3 109 (by decide +kernel)) rfl
theorem gw_626 : (Cond.laysFinal "MonitorQueuesModel" "MonitorQueuesModel" "going" "[I") ∈ GT := gt_t (gt_3 111 (by decide +kernel)) rfl
theorem gw_628 : (Cond.laysFinal "MonitorQueuesModel" "MonitorQueuesModel" "takenNumber" "[I") ∈ GT := gt_t (gt_3 113 (by decide +kernel)) rfl
theorem gw_630 : (Cond.laysFinal "MonitorQueuesModel" "MonitorQueuesModel" "ready" "[Z") ∈ GT := gt_t (gt_3 115 (by decide +kernel)) rfl
theorem gw_632 : (Cond.laysFinal "MonitorQueuesModel" "MonitorQueuesModel" "took" "[Z") ∈ GT := gt_t (gt_3 117 (by decide +kernel)) rfl
theorem gw_634 : (Cond.laysFinal "MonitorQueuesModel" "MonitorQueuesModel" "used" "[J") ∈ GT := gt_t (gt_3 119 (by decide +kernel)) rfl
theorem gw_636 : (Cond.laysFinal "MonitorQueuesModel" "MonitorQueuesModel" "taken" "[J") ∈ GT := gt_t (gt_3 121 (by decide +kernel)) rfl
theorem gw_638 : (Cond.laysFinal "MonitorQueuesModel" "MonitorQueuesModel" "places" "[I") ∈ GT := gt_t (gt_3 123 (by decide +kernel)) rfl
theorem gw_640 : (Cond.laysFinal "MonitorQueuesModel" "MonitorQueuesModel" "tasks" "[I") ∈ GT := gt_t (gt_3 125 (by decide +kernel)) rfl
theorem gw_642 : (Cond.laysFinal "MonitorQueuesModel" "MonitorQueuesModel" "goes" "[Z") ∈ GT := gt_t (gt_3 127 (by decide +kernel)) rfl
theorem gw_644 : (Cond.lays "MonitorQueuesModel" "MonitorQueuesModel" "begun" "I") ∈ GT := gt_t (gt_3 129 (by decide +kernel)) rfl
theorem gw_646 : (Cond.lays "MonitorQueuesModel" "MonitorQueuesModel" "running" "I") ∈ GT := gt_t (gt_3 131 (by decide +kernel)) rfl
theorem gw_648 : (Cond.lays "MonitorQueuesModel" "MonitorQueuesModel" "now" "J") ∈ GT := gt_t (gt_3 133 (by decide +kernel)) rfl
theorem gw_650 : (Cond.laysFinal "MonitorQueuesModel" "MonitorQueuesModel" "delayNumber" "[I") ∈ GT := gt_t (gt_3 135 (by decide +kernel)) rfl
theorem gw_652 : (Cond.laysFinal "MonitorQueuesModel" "MonitorQueuesModel" "delayCode" "[I") ∈ GT := gt_t (gt_3 137 (by decide +kernel)) rfl
theorem gw_654 : (Cond.laysFinal "MonitorQueuesModel" "MonitorQueuesModel" "delayTime" "[J") ∈ GT := gt_t (gt_3 139 (by decide +kernel)) rfl
theorem gw_656 : (Cond.lays "MonitorQueuesModel" "MonitorQueuesModel" "delays" "I") ∈ GT := gt_t (gt_3 141 (by decide +kernel)) rfl
theorem gw_658 : (Cond.lays "MonitorQueuesModel" "MonitorQueuesModel" "delayed" "I") ∈ GT := gt_t (gt_3 143 (by decide +kernel)) rfl
theorem gw_661 : (Cond.arrayClass FieldType.long) ∈ GT := gt_t (gt_3 146 (by decide +kernel)) rfl
theorem gw_662 : (Cond.arrayClass FieldType.boolean) ∈ GT := gt_t (gt_3 147 (by decide +kernel)) rfl
theorem gw_663 : (Cond.methodLink "MonitorQueuesLaw" 38 ⟨"MonitorQueuesModel", "thrown", "()I"⟩) ∈ GT := gt_t (gt_3 148 (by decide +kernel)) rfl
theorem gw_664 : (Cond.instanceMethod ⟨"MonitorQueuesModel", "thrown", "()I"⟩) ∈ GT := gt_t (gt_3 149 (by decide +kernel)) rfl
theorem gw_665 : (Cond.selects "MonitorQueuesModel" ⟨"MonitorQueuesModel", "thrown", "()I"⟩ ⟨"MonitorQueuesModel", "thrown", "()I"⟩) ∈ GT := gt_t (gt_3 150 (by decide +kernel)) rfl
theorem gw_666 : (Cond.code ⟨"MonitorQueuesModel", "thrown", "()I"⟩ prog_8_method_2_code 1 (Option.some FieldType.int)) ∈ GT := gt_t (gt_3 151 (by decide +kernel)) rfl
theorem gw_667 : (Cond.methodLink "MonitorQueuesLaw" 33 ⟨"MonitorQueuesModel", "put", "(IIJI)I"⟩) ∈ GT := gt_t (gt_3 152 (by decide +kernel)) rfl
theorem gw_668 : (Cond.instanceMethod ⟨"MonitorQueuesModel", "put", "(IIJI)I"⟩) ∈ GT := gt_t (gt_3 153 (by decide +kernel)) rfl
theorem gw_669 : (Cond.selects "MonitorQueuesModel" ⟨"MonitorQueuesModel", "put", "(IIJI)I"⟩ ⟨"MonitorQueuesModel", "put", "(IIJI)I"⟩) ∈ GT := gt_t (gt_3 154 (by decide +kernel)) rfl
theorem gw_670 : (Cond.code ⟨"MonitorQueuesModel", "put", "(IIJI)I"⟩ prog_8_method_16_code 6 (Option.some FieldType.int)) ∈ GT := gt_t (gt_3 155 (by decide +kernel)) rfl
theorem gw_671 : (Cond.methodLink "MonitorQueuesModel" 116 ⟨"MonitorQueuesModel", "putting", "(IIJI)I"⟩) ∈ GT := gt_t (gt_3 156 (by decide +kernel)) rfl
theorem gw_673 : (Cond.instanceMethod ⟨"MonitorQueuesModel", "putting", "(IIJI)I"⟩) ∈ GT := gt_t (gt_3 158 (by decide +kernel)) rfl
theorem gw_674 : (Cond.code ⟨"MonitorQueuesModel", "putting", "(IIJI)I"⟩ prog_8_method_15_code 7 (Option.some FieldType.int)) ∈ GT := gt_t (gt_3 159 (by decide +kernel)) rfl
theorem gw_675 : (Cond.methodLink "MonitorQueuesModel" 105 ⟨"MonitorQueuesModel", "isQueue", "(I)Z"⟩) ∈ GT := gt_t (gt_3 160 (by decide +kernel)) rfl
theorem gw_676 : (Cond.static ⟨"MonitorQueuesModel", "isQueue", "(I)Z"⟩) ∈ GT := gt_t (gt_3 161 (by decide +kernel)) rfl
theorem gw_677 : (Cond.code ⟨"MonitorQueuesModel", "isQueue", "(I)Z"⟩ prog_8_method_3_code 1 (Option.some FieldType.boolean)) ∈ GT := gt_t (gt_3 162 (by decide +kernel)) rfl
theorem gw_678 : (Cond.methodLink "MonitorQueuesModel" 109 ⟨"MonitorQueuesModel", "lockOf", "(I)I"⟩) ∈ GT := gt_t (gt_3 163 (by decide +kernel)) rfl
theorem gw_680 : (Cond.instanceMethod ⟨"MonitorQueuesModel", "lockOf", "(I)I"⟩) ∈ GT := gt_t (gt_3 165 (by decide +kernel)) rfl
theorem gw_681 : (Cond.code ⟨"MonitorQueuesModel", "lockOf", "(I)I"⟩ prog_8_method_7_code 4 (Option.some FieldType.int)) ∈ GT := gt_t (gt_3 166 (by decide +kernel)) rfl
theorem gw_682 : (Cond.methodLink "MonitorQueuesModel" 82 ⟨"MonitorQueuesModel", "many", "(I)I"⟩) ∈ GT := gt_t (gt_3 167 (by decide +kernel)) rfl
theorem gw_684 : (Cond.instanceMethod ⟨"MonitorQueuesModel", "many", "(I)I"⟩) ∈ GT := gt_t (gt_3 169 (by decide +kernel)) rfl
theorem gw_685 : (Cond.code ⟨"MonitorQueuesModel", "many", "(I)I"⟩ prog_8_method_4_code 4 (Option.some FieldType.int)) ∈ GT := gt_t (gt_3 170 (by decide +kernel)) rfl
theorem gw_686 : (Cond.methodLink "MonitorQueuesModel" 120 ⟨"MonitorQueuesModel", "answer", "(I)I"⟩) ∈ GT := gt_t (gt_3 171 (by decide +kernel)) rfl
theorem gw_688 : (Cond.instanceMethod ⟨"MonitorQueuesModel", "answer", "(I)I"⟩) ∈ GT := gt_t (gt_3 173 (by decide +kernel)) rfl
theorem gw_689 : (Cond.code ⟨"MonitorQueuesModel", "answer", "(I)I"⟩ prog_8_method_14_code 2 (Option.some FieldType.int)) ∈ GT := gt_t (gt_3 174 (by decide +kernel)) rfl
theorem gw_690 : (Cond.methodLink "MonitorQueuesModel" 102 ⟨"MonitorQueuesModel", "look", "()V"⟩) ∈ GT := gt_t (gt_3 175 (by decide +kernel)) rfl
theorem gw_692 : (Cond.instanceMethod ⟨"MonitorQueuesModel", "look", "()V"⟩) ∈ GT := gt_t (gt_3 177 (by decide +kernel)) rfl
theorem gw_693 : (Cond.code ⟨"MonitorQueuesModel", "look", "()V"⟩ prog_8_method_13_code 3 none) ∈ GT := gt_t (gt_3 178 (by decide +kernel)) rfl
theorem gw_694 : (Cond.methodLink "MonitorQueuesModel" 96 ⟨"MonitorQueuesModel", "standing", "(I)I"⟩) ∈ GT := gt_t (gt_3 179 (by decide +kernel)) rfl
theorem gw_696 : (Cond.instanceMethod ⟨"MonitorQueuesModel", "standing", "(I)I"⟩) ∈ GT := gt_t (gt_3 181 (by decide +kernel)) rfl
theorem gw_697 : (Cond.code ⟨"MonitorQueuesModel", "standing", "(I)I"⟩ prog_8_method_5_code 4 (Option.some FieldType.int)) ∈ GT := gt_t (gt_3 182 (by decide +kernel)) rfl
theorem gw_698 : (Cond.methodLink "MonitorQueuesModel" 99 ⟨"MonitorQueuesModel", "task", "(I)I"⟩) ∈ GT := gt_t (gt_3 183 (by decide +kernel)) rfl
theorem gw_700 : (Cond.instanceMethod ⟨"MonitorQueuesModel", "task", "(I)I"⟩) ∈ GT := gt_t (gt_3 185 (by decide +kernel)) rfl
theorem gw_701 : (Cond.code ⟨"MonitorQueuesModel", "task", "(I)I"⟩ prog_8_method_12_code 2 (Option.some FieldType.int)) ∈ GT := gt_t (gt_3 186 (by decide +kernel)) rfl
theorem gw_702 : (Cond.methodLink "MonitorQueuesLaw" 37 ⟨"MonitorQueuesModel", "get", "(II)J"⟩) ∈ GT := gt_t (gt_3 187 (by decide +kernel)) rfl
theorem gw_703 : (Cond.instanceMethod ⟨"MonitorQueuesModel", "get", "(II)J"⟩) ∈ GT := gt_t (gt_3 188 (by decide +kernel)) rfl
theorem gw_704 : (Cond.selects "MonitorQueuesModel" ⟨"MonitorQueuesModel", "get", "(II)J"⟩ ⟨"MonitorQueuesModel", "get", "(II)J"⟩) ∈ GT := gt_t (gt_3 189 (by decide +kernel)) rfl
theorem gw_705 : (Cond.code ⟨"MonitorQueuesModel", "get", "(II)J"⟩ prog_8_method_17_code 4 (Option.some FieldType.long)) ∈ GT := gt_t (gt_3 190 (by decide +kernel)) rfl
theorem gw_706 : (Cond.methodLink "MonitorQueuesModel" 123 ⟨"MonitorQueuesModel", "isTemporary", "(I)Z"⟩) ∈ GT := gt_t (gt_3 191 (by decide +kernel)) rfl
theorem gw_708 : (Cond.instanceMethod ⟨"MonitorQueuesModel", "isTemporary", "(I)Z"⟩) ∈ GT := gt_t (gt_3 193 (by decide +kernel)) rfl
theorem gw_709 : (Cond.code ⟨"MonitorQueuesModel", "isTemporary", "(I)Z"⟩ prog_8_method_10_code 2 (Option.some FieldType.boolean)) ∈ GT := gt_t (gt_3 194 (by decide +kernel)) rfl
theorem gw_710 : (Cond.methodLink "MonitorQueuesModel" 126 ⟨"MonitorQueuesModel", "placeOf", "(II)I"⟩) ∈ GT := gt_t (gt_3 195 (by decide +kernel)) rfl
theorem gw_712 : (Cond.instanceMethod ⟨"MonitorQueuesModel", "placeOf", "(II)I"⟩) ∈ GT := gt_t (gt_3 197 (by decide +kernel)) rfl
theorem gw_713 : (Cond.code ⟨"MonitorQueuesModel", "placeOf", "(II)I"⟩ prog_8_method_6_code 5 (Option.some FieldType.int)) ∈ GT := gt_t (gt_3 198 (by decide +kernel)) rfl
theorem gw_714 : (Cond.methodLink "MonitorQueuesLaw" 46 ⟨"MonitorQueuesModel", "next", "(II)I"⟩) ∈ GT := gt_t (gt_3 199 (by decide +kernel)) rfl
theorem gw_715 : (Cond.instanceMethod ⟨"MonitorQueuesModel", "next", "(II)I"⟩) ∈ GT := gt_t (gt_3 200 (by decide +kernel)) rfl
theorem gw_716 : (Cond.selects "MonitorQueuesModel" ⟨"MonitorQueuesModel", "next", "(II)I"⟩ ⟨"MonitorQueuesModel", "next", "(II)I"⟩) ∈ GT := gt_t (gt_3 201 (by decide +kernel)) rfl
theorem gw_717 : (Cond.code ⟨"MonitorQueuesModel", "next", "(II)I"⟩ prog_8_method_19_code 3 (Option.some FieldType.int)) ∈ GT := gt_t (gt_3 202 (by decide +kernel)) rfl
theorem gw_718 : (Cond.methodLink "MonitorQueuesModel" 133 ⟨"MonitorQueuesModel", "nexting", "(II)I"⟩) ∈ GT := gt_t (gt_3 203 (by decide +kernel)) rfl
theorem gw_720 : (Cond.instanceMethod ⟨"MonitorQueuesModel", "nexting", "(II)I"⟩) ∈ GT := gt_t (gt_3 205 (by decide +kernel)) rfl
theorem gw_721 : (Cond.code ⟨"MonitorQueuesModel", "nexting", "(II)I"⟩ prog_8_method_18_code 4 (Option.some FieldType.int)) ∈ GT := gt_t (gt_3 206 (by decide +kernel)) rfl
theorem gw_722 : (Cond.methodLink "MonitorQueuesModel" 130 ⟨"MonitorQueuesModel", "isTransient", "(I)Z"⟩) ∈ GT := gt_t (gt_3 207 (by decide +kernel)) rfl
theorem gw_724 : (Cond.instanceMethod ⟨"MonitorQueuesModel", "isTransient", "(I)Z"⟩) ∈ GT := gt_t (gt_3 209 (by decide +kernel)) rfl
theorem gw_725 : (Cond.code ⟨"MonitorQueuesModel", "isTransient", "(I)Z"⟩ prog_8_method_11_code 2 (Option.some FieldType.boolean)) ∈ GT := gt_t (gt_3 210 (by decide +kernel)) rfl
theorem gw_726 : (Cond.methodLink "MonitorQueuesLaw" 51 ⟨"MonitorQueuesModel", "take", "(I)I"⟩) ∈ GT := gt_t (gt_3 211 (by decide +kernel)) rfl
theorem gw_727 : (Cond.instanceMethod ⟨"MonitorQueuesModel", "take", "(I)I"⟩) ∈ GT := gt_t (gt_3 212 (by decide +kernel)) rfl
theorem gw_728 : (Cond.selects "MonitorQueuesModel" ⟨"MonitorQueuesModel", "take", "(I)I"⟩ ⟨"MonitorQueuesModel", "take", "(I)I"⟩) ∈ GT := gt_t (gt_3 213 (by decide +kernel)) rfl
theorem gw_729 : (Cond.code ⟨"MonitorQueuesModel", "take", "(I)I"⟩ prog_8_method_21_code 2 (Option.some FieldType.int)) ∈ GT := gt_t (gt_3 214 (by decide +kernel)) rfl
theorem gw_730 : (Cond.methodLink "MonitorQueuesModel" 139 ⟨"MonitorQueuesModel", "taking", "(I)I"⟩) ∈ GT := gt_t (gt_3 215 (by decide +kernel)) rfl
theorem gw_732 : (Cond.instanceMethod ⟨"MonitorQueuesModel", "taking", "(I)I"⟩) ∈ GT := gt_t (gt_3 217 (by decide +kernel)) rfl
theorem gw_733 : (Cond.code ⟨"MonitorQueuesModel", "taking", "(I)I"⟩ prog_8_method_20_code 3 (Option.some FieldType.int)) ∈ GT := gt_t (gt_3 218 (by decide +kernel)) rfl
theorem gw_734 : (Cond.methodLink "MonitorQueuesModel" 136 ⟨"MonitorQueuesModel", "remove", "(I)V"⟩) ∈ GT := gt_t (gt_3 219 (by decide +kernel)) rfl
theorem gw_736 : (Cond.instanceMethod ⟨"MonitorQueuesModel", "remove", "(I)V"⟩) ∈ GT := gt_t (gt_3 221 (by decide +kernel)) rfl
theorem gw_737 : (Cond.code ⟨"MonitorQueuesModel", "remove", "(I)V"⟩ prog_8_method_8_code 4 none) ∈ GT := gt_t (gt_3 222 (by decide +kernel)) rfl
theorem gw_738 : (Cond.methodLink "MonitorQueuesModel" 86 ⟨"MonitorQueuesModel", "emptied", "(I)V"⟩) ∈ GT := gt_t (gt_3 223 (by decide +kernel)) rfl
theorem gw_740 : (Cond.instanceMethod ⟨"MonitorQueuesModel", "emptied", "(I)V"⟩) ∈ GT := gt_t (gt_3 225 (by decide +kernel)) rfl
theorem gw_741 : (Cond.code ⟨"MonitorQueuesModel", "emptied", "(I)V"⟩ prog_8_method_9_code 3 none) ∈ GT := gt_t (gt_3 226 (by decide +kernel)) rfl
theorem gw_742 : (Cond.methodLink "MonitorQueuesLaw" 56 ⟨"MonitorQueuesModel", "trigger", "(III)I"⟩) ∈ GT := gt_t (gt_3 227 (by decide +kernel)) rfl
theorem gw_743 : (Cond.instanceMethod ⟨"MonitorQueuesModel", "trigger", "(III)I"⟩) ∈ GT := gt_t (gt_3 228 (by decide +kernel)) rfl
theorem gw_744 : (Cond.selects "MonitorQueuesModel" ⟨"MonitorQueuesModel", "trigger", "(III)I"⟩ ⟨"MonitorQueuesModel", "trigger", "(III)I"⟩) ∈ GT := gt_t (gt_3 229 (by decide +kernel)) rfl
theorem gw_745 : (Cond.code ⟨"MonitorQueuesModel", "trigger", "(III)I"⟩ prog_8_method_23_code 4 (Option.some FieldType.int)) ∈ GT := gt_t (gt_3 230 (by decide +kernel)) rfl
theorem gw_746 : (Cond.methodLink "MonitorQueuesModel" 142 ⟨"MonitorQueuesModel", "triggers", "(III)I"⟩) ∈ GT := gt_t (gt_3 231 (by decide +kernel)) rfl
theorem gw_748 : (Cond.instanceMethod ⟨"MonitorQueuesModel", "triggers", "(III)I"⟩) ∈ GT := gt_t (gt_3 233 (by decide +kernel)) rfl
theorem gw_749 : (Cond.code ⟨"MonitorQueuesModel", "triggers", "(III)I"⟩ prog_8_method_22_code 4 (Option.some FieldType.int)) ∈ GT := gt_t (gt_3 234 (by decide +kernel)) rfl
theorem gw_750 : (Cond.methodLink "MonitorQueuesLaw" 60 ⟨"MonitorQueuesModel", "started", "(I)I"⟩) ∈ GT := gt_t (gt_3 235 (by decide +kernel)) rfl
theorem gw_751 : (Cond.instanceMethod ⟨"MonitorQueuesModel", "started", "(I)I"⟩) ∈ GT := gt_t (gt_3 236 (by decide +kernel)) rfl
theorem gw_752 : (Cond.selects "MonitorQueuesModel" ⟨"MonitorQueuesModel", "started", "(I)I"⟩ ⟨"MonitorQueuesModel", "started", "(I)I"⟩) ∈ GT := gt_t (gt_3 237 (by decide +kernel)) rfl
theorem gw_753 : (Cond.code ⟨"MonitorQueuesModel", "started", "(I)I"⟩ prog_8_method_24_code 2 (Option.some FieldType.int)) ∈ GT := gt_t (gt_3 238 (by decide +kernel)) rfl
theorem gw_754 : (Cond.methodLink "MonitorQueuesLaw" 64 ⟨"MonitorQueuesModel", "end", "(I)I"⟩) ∈ GT := gt_t (gt_3 239 (by decide +kernel)) rfl
theorem gw_755 : (Cond.instanceMethod ⟨"MonitorQueuesModel", "end", "(I)I"⟩) ∈ GT := gt_t (gt_4 0 (by decide +kernel)) rfl
theorem gw_756 : (Cond.selects "MonitorQueuesModel" ⟨"MonitorQueuesModel", "end", "(I)I"⟩ ⟨"MonitorQueuesModel", "end", "(I)I"⟩) ∈ GT := gt_t (gt_4 1 (by decide +kernel)) rfl
theorem gw_757 : (Cond.code ⟨"MonitorQueuesModel", "end", "(I)I"⟩ prog_8_method_26_code 2 (Option.some FieldType.int)) ∈ GT := gt_t (gt_4 2 (by decide +kernel)) rfl
theorem gw_758 : (Cond.methodLink "MonitorQueuesModel" 146 ⟨"MonitorQueuesModel", "ending", "(I)I"⟩) ∈ GT := gt_t (gt_4 3 (by decide +kernel)) rfl
theorem gw_760 : (Cond.instanceMethod ⟨"MonitorQueuesModel", "ending", "(I)I"⟩) ∈ GT := gt_t (gt_4 5 (by decide +kernel)) rfl
theorem gw_761 : (Cond.code ⟨"MonitorQueuesModel", "ending", "(I)I"⟩ prog_8_method_25_code 4 (Option.some FieldType.int)) ∈ GT := gt_t (gt_4 6 (by decide +kernel)) rfl
theorem gw_762 : (Cond.methodLink "MonitorQueuesLaw" 69 ⟨"MonitorQueuesModel", "rewrite", "(IIJ)I"⟩) ∈ GT := gt_t (gt_4 7 (by decide +kernel)) rfl
theorem gw_763 : (Cond.instanceMethod ⟨"MonitorQueuesModel", "rewrite", "(IIJ)I"⟩) ∈ GT := gt_t (gt_4 8 (by decide +kernel)) rfl
theorem gw_764 : (Cond.selects "MonitorQueuesModel" ⟨"MonitorQueuesModel", "rewrite", "(IIJ)I"⟩ ⟨"MonitorQueuesModel", "rewrite", "(IIJ)I"⟩) ∈ GT := gt_t (gt_4 9 (by decide +kernel)) rfl
theorem gw_765 : (Cond.code ⟨"MonitorQueuesModel", "rewrite", "(IIJ)I"⟩ prog_8_method_28_code 5 (Option.some FieldType.int)) ∈ GT := gt_t (gt_4 10 (by decide +kernel)) rfl
theorem gw_766 : (Cond.methodLink "MonitorQueuesModel" 149 ⟨"MonitorQueuesModel", "rewriting", "(IIJ)I"⟩) ∈ GT := gt_t (gt_4 11 (by decide +kernel)) rfl
theorem gw_768 : (Cond.instanceMethod ⟨"MonitorQueuesModel", "rewriting", "(IIJ)I"⟩) ∈ GT := gt_t (gt_4 13 (by decide +kernel)) rfl
theorem gw_769 : (Cond.code ⟨"MonitorQueuesModel", "rewriting", "(IIJ)I"⟩ prog_8_method_27_code 6 (Option.some FieldType.int)) ∈ GT := gt_t (gt_4 14 (by decide +kernel)) rfl
theorem gw_770 : (Cond.methodLink "MonitorQueuesLaw" 74 ⟨"MonitorQueuesModel", "delay", "(IJ)I"⟩) ∈ GT := gt_t (gt_4 15 (by decide +kernel)) rfl
theorem gw_771 : (Cond.instanceMethod ⟨"MonitorQueuesModel", "delay", "(IJ)I"⟩) ∈ GT := gt_t (gt_4 16 (by decide +kernel)) rfl
theorem gw_772 : (Cond.selects "MonitorQueuesModel" ⟨"MonitorQueuesModel", "delay", "(IJ)I"⟩ ⟨"MonitorQueuesModel", "delay", "(IJ)I"⟩) ∈ GT := gt_t (gt_4 17 (by decide +kernel)) rfl
theorem gw_773 : (Cond.code ⟨"MonitorQueuesModel", "delay", "(IJ)I"⟩ prog_8_method_29_code 4 (Option.some FieldType.int)) ∈ GT := gt_t (gt_4 18 (by decide +kernel)) rfl
theorem gw_774 : (Cond.methodLink "MonitorQueuesLaw" 78 ⟨"MonitorQueuesModel", "cancel", "(I)I"⟩) ∈ GT := gt_t (gt_4 19 (by decide +kernel)) rfl
theorem gw_775 : (Cond.instanceMethod ⟨"MonitorQueuesModel", "cancel", "(I)I"⟩) ∈ GT := gt_t (gt_4 20 (by decide +kernel)) rfl
theorem gw_776 : (Cond.selects "MonitorQueuesModel" ⟨"MonitorQueuesModel", "cancel", "(I)I"⟩ ⟨"MonitorQueuesModel", "cancel", "(I)I"⟩) ∈ GT := gt_t (gt_4 21 (by decide +kernel)) rfl
theorem gw_777 : (Cond.code ⟨"MonitorQueuesModel", "cancel", "(I)I"⟩ prog_8_method_31_code 4 (Option.some FieldType.int)) ∈ GT := gt_t (gt_4 22 (by decide +kernel)) rfl
theorem gw_778 : (Cond.methodLink "MonitorQueuesModel" 159 ⟨"MonitorQueuesModel", "drop", "(I)V"⟩) ∈ GT := gt_t (gt_4 23 (by decide +kernel)) rfl
theorem gw_780 : (Cond.instanceMethod ⟨"MonitorQueuesModel", "drop", "(I)V"⟩) ∈ GT := gt_t (gt_4 25 (by decide +kernel)) rfl
theorem gw_781 : (Cond.code ⟨"MonitorQueuesModel", "drop", "(I)V"⟩ prog_8_method_30_code 3 none) ∈ GT := gt_t (gt_4 26 (by decide +kernel)) rfl
theorem gw_782 : (Cond.methodLink "MonitorQueuesLaw" 83 ⟨"MonitorQueuesModel", "tick", "(J)I"⟩) ∈ GT := gt_t (gt_4 27 (by decide +kernel)) rfl
theorem gw_783 : (Cond.instanceMethod ⟨"MonitorQueuesModel", "tick", "(J)I"⟩) ∈ GT := gt_t (gt_4 28 (by decide +kernel)) rfl
theorem gw_784 : (Cond.selects "MonitorQueuesModel" ⟨"MonitorQueuesModel", "tick", "(J)I"⟩ ⟨"MonitorQueuesModel", "tick", "(J)I"⟩) ∈ GT := gt_t (gt_4 29 (by decide +kernel)) rfl
theorem gw_785 : (Cond.code ⟨"MonitorQueuesModel", "tick", "(J)I"⟩ prog_8_method_32_code 7 (Option.some FieldType.int)) ∈ GT := gt_t (gt_4 30 (by decide +kernel)) rfl
theorem gw_786 : (Cond.methodLink "MonitorQueuesLaw" 88 ⟨"MonitorQueuesModel", "unit", "(IZ)I"⟩) ∈ GT := gt_t (gt_4 31 (by decide +kernel)) rfl
theorem gw_787 : (Cond.instanceMethod ⟨"MonitorQueuesModel", "unit", "(IZ)I"⟩) ∈ GT := gt_t (gt_4 32 (by decide +kernel)) rfl
theorem gw_788 : (Cond.selects "MonitorQueuesModel" ⟨"MonitorQueuesModel", "unit", "(IZ)I"⟩ ⟨"MonitorQueuesModel", "unit", "(IZ)I"⟩) ∈ GT := gt_t (gt_4 33 (by decide +kernel)) rfl
theorem gw_789 : (Cond.code ⟨"MonitorQueuesModel", "unit", "(IZ)I"⟩ prog_8_method_34_code 3 (Option.some FieldType.int)) ∈ GT := gt_t (gt_4 34 (by decide +kernel)) rfl
theorem gw_790 : (Cond.methodLink "MonitorQueuesModel" 162 ⟨"MonitorQueuesModel", "unitEnds", "(IZ)I"⟩) ∈ GT := gt_t (gt_4 35 (by decide +kernel)) rfl
theorem gw_792 : (Cond.instanceMethod ⟨"MonitorQueuesModel", "unitEnds", "(IZ)I"⟩) ∈ GT := gt_t (gt_4 37 (by decide +kernel)) rfl
theorem gw_793 : (Cond.code ⟨"MonitorQueuesModel", "unitEnds", "(IZ)I"⟩ prog_8_method_33_code 6 (Option.some FieldType.int)) ∈ GT := gt_t (gt_4 38 (by decide +kernel)) rfl
theorem gw_794 : (Cond.methodLink "MonitorQueuesLaw" 92 ⟨"MonitorQueuesModel", "age", "(J)I"⟩) ∈ GT := gt_t (gt_4 39 (by decide +kernel)) rfl
theorem gw_795 : (Cond.instanceMethod ⟨"MonitorQueuesModel", "age", "(J)I"⟩) ∈ GT := gt_t (gt_4 40 (by decide +kernel)) rfl
theorem gw_796 : (Cond.selects "MonitorQueuesModel" ⟨"MonitorQueuesModel", "age", "(J)I"⟩ ⟨"MonitorQueuesModel", "age", "(J)I"⟩) ∈ GT := gt_t (gt_4 41 (by decide +kernel)) rfl
theorem gw_797 : (Cond.code ⟨"MonitorQueuesModel", "age", "(J)I"⟩ prog_8_method_35_code 5 (Option.some FieldType.int)) ∈ GT := gt_t (gt_4 42 (by decide +kernel)) rfl
theorem gw_798 : (Cond.methodLink "MonitorQueuesLaw" 96 ⟨"MonitorQueuesModel", "count", "(I)I"⟩) ∈ GT := gt_t (gt_4 43 (by decide +kernel)) rfl
theorem gw_799 : (Cond.instanceMethod ⟨"MonitorQueuesModel", "count", "(I)I"⟩) ∈ GT := gt_t (gt_4 44 (by decide +kernel)) rfl
theorem gw_800 : (Cond.selects "MonitorQueuesModel" ⟨"MonitorQueuesModel", "count", "(I)I"⟩ ⟨"MonitorQueuesModel", "count", "(I)I"⟩) ∈ GT := gt_t (gt_4 45 (by decide +kernel)) rfl
theorem gw_801 : (Cond.code ⟨"MonitorQueuesModel", "count", "(I)I"⟩ prog_8_method_36_code 2 (Option.some FieldType.int)) ∈ GT := gt_t (gt_4 46 (by decide +kernel)) rfl
theorem gw_802 : (Cond.constantLong "MonitorQueuesLaw" 27 (4294967295)) ∈ GT := gt_t (gt_4 47 (by decide +kernel)) rfl
theorem gw_803 : (Cond.sameMethod "java/lang/Throwable" "java/lang/Throwable" "fillInStackTrace" "(I)Ljava/lang/Throwable;") ∈ GT := gt_t (gt_4 48 (by decide +kernel)) rfl
theorem gw_804 : (Cond.castable "MonitorQueues$Item" "MonitorQueues$Item") ∈ tables_1 := gt_4 49 (by decide +kernel)
theorem gw_805 : (Cond.castable "MonitorQueues$Task" "MonitorQueues$Task") ∈ tables_1 := gt_4 50 (by decide +kernel)
theorem gw_806 : (Cond.castable "MonitorQueues$Delay" "MonitorQueues$Delay") ∈ tables_1 := gt_4 51 (by decide +kernel)
theorem gw_807 : (Cond.sameMethod "[Ljava/lang/Object;" "java/lang/Object" "getClass" "()Ljava/lang/Class;") ∈ GT := gt_t (gt_4 52 (by decide +kernel)) rfl
theorem gw_808 : (Cond.selects "[Ljava/lang/Object;" ⟨"java/lang/Object", "getClass", "()Ljava/lang/Class;"⟩ ⟨"java/lang/Object", "getClass", "()Ljava/lang/Class;"⟩) ∈ GT := gt_t (gt_4 53 (by decide +kernel)) rfl
theorem gw_809 : (Cond.declares ⟨"java/lang/Object", "getClass", "()Ljava/lang/Class;"⟩) ∈ tables_1 := gt_4 54 (by decide +kernel)
theorem gw_810 : (Cond.castable "MonitorQueues" "java/lang/Object") ∈ tables_1 := gt_4 55 (by decide +kernel)
theorem gw_811 : (Cond.castable "MonitorQueues$Queue" "java/lang/Object") ∈ tables_1 := gt_4 56 (by decide +kernel)
theorem gw_812 : (Cond.castable "MonitorQueuesModel" "java/lang/Object") ∈ tables_1 := gt_4 57 (by decide +kernel)
theorem gw_813 : (Cond.castable "MonitorQueues$Item" "java/lang/Object") ∈ tables_1 := gt_4 58 (by decide +kernel)
theorem gw_814 : (Cond.castable "MonitorQueues$Task" "java/lang/Object") ∈ tables_1 := gt_4 59 (by decide +kernel)
theorem gw_815 : (Cond.castable "MonitorQueues$Trigger" "java/lang/Object") ∈ tables_1 := gt_4 60 (by decide +kernel)
theorem gw_816 : (Cond.castable "MonitorQueues$Delay" "java/lang/Object") ∈ tables_1 := gt_4 61 (by decide +kernel)
theorem gw_817 : (Cond.castable "java/lang/String" "java/lang/Object") ∈ tables_1 := gt_4 62 (by decide +kernel)
end
section
theorem d_AL_init_0 : decode b_AL_init 0 = .ok (.aload_n 0, 1) := by decide +kernel
theorem d_AL_init_1 : decode b_AL_init 1 = .ok (.invokespecial 1, 3) := by decide +kernel
theorem d_AL_init_4 : decode b_AL_init 4 = .ok (.aload_n 0, 1) := by decide +kernel
theorem d_AL_init_5 : decode b_AL_init 5 = .ok (.getstatic 39, 3) := by decide +kernel
theorem d_AL_init_8 : decode b_AL_init 8 = .ok (.putfield 9, 3) := by decide +kernel
theorem d_AL_init_11 : decode b_AL_init 11 = .ok (.return_, 1) := by decide +kernel
theorem d_AB_init_0 : decode b_AB_init 0 = .ok (.aload_n 0, 1) := by decide +kernel
theorem d_AB_init_1 : decode b_AB_init 1 = .ok (.invokespecial 1, 3) := by decide +kernel
theorem d_AB_init_4 : decode b_AB_init 4 = .ok (.aload_n 0, 1) := by decide +kernel
theorem d_AB_init_5 : decode b_AB_init 5 = .ok (.iconst 0, 1) := by decide +kernel
theorem d_AB_init_6 : decode b_AB_init 6 = .ok (.putfield 7, 3) := by decide +kernel
theorem d_AB_init_9 : decode b_AB_init 9 = .ok (.return_, 1) := by decide +kernel
theorem d_AC_init_0 : decode b_AC_init 0 = .ok (.aload_n 0, 1) := by decide +kernel
theorem d_AC_init_1 : decode b_AC_init 1 = .ok (.invokespecial 1, 3) := by decide +kernel
theorem d_AC_init_4 : decode b_AC_init 4 = .ok (.return_, 1) := by decide +kernel
theorem d_AL_size_0 : decode b_AL_size 0 = .ok (.aload_n 0, 1) := by decide +kernel
theorem d_AL_size_1 : decode b_AL_size 1 = .ok (.getfield 48, 3) := by decide +kernel
theorem d_AL_size_4 : decode b_AL_size 4 = .ok (.ireturn, 1) := by decide +kernel
theorem d_AL_add_0 : decode b_AL_add 0 = .ok (.aload_n 0, 1) := by decide +kernel
theorem d_AL_add_1 : decode b_AL_add 1 = .ok (.dup, 1) := by decide +kernel
theorem d_AL_add_2 : decode b_AL_add 2 = .ok (.getfield 63, 3) := by decide +kernel
theorem d_AL_add_5 : decode b_AL_add 5 = .ok (.iconst 1, 1) := by decide +kernel
theorem d_AL_add_6 : decode b_AL_add 6 = .ok (.iadd, 1) := by decide +kernel
theorem d_AL_add_7 : decode b_AL_add 7 = .ok (.putfield 63, 3) := by decide +kernel
theorem d_AL_add_10 : decode b_AL_add 10 = .ok (.aload_n 0, 1) := by decide +kernel
theorem d_AL_add_11 : decode b_AL_add 11 = .ok (.aload_n 1, 1) := by decide +kernel
theorem d_AL_add_12 : decode b_AL_add 12 = .ok (.aload_n 0, 1) := by decide +kernel
theorem d_AL_add_13 : decode b_AL_add 13 = .ok (.getfield 9, 3) := by decide +kernel
theorem d_AL_add_16 : decode b_AL_add 16 = .ok (.aload_n 0, 1) := by decide +kernel
theorem d_AL_add_17 : decode b_AL_add 17 = .ok (.getfield 48, 3) := by decide +kernel
theorem d_AL_add_20 : decode b_AL_add 20 = .ok (.invokevirtual 131, 3) := by decide +kernel
theorem d_AL_add_23 : decode b_AL_add 23 = .ok (.iconst 1, 1) := by decide +kernel
theorem d_AL_add_24 : decode b_AL_add 24 = .ok (.ireturn, 1) := by decide +kernel
theorem d_AL_add2_0 : decode b_AL_add2 0 = .ok (.iload_n 3, 1) := by decide +kernel
theorem d_AL_add2_1 : decode b_AL_add2 1 = .ok (.aload_n 2, 1) := by decide +kernel
theorem d_AL_add2_2 : decode b_AL_add2 2 = .ok (.arraylength, 1) := by decide +kernel
theorem d_AL_add2_3 : decode b_AL_add2 3 = .ok (.if_icmp .ne 8, 3) := by decide +kernel
theorem d_AL_add2_6 : decode b_AL_add2 6 = .ok (.aload_n 0, 1) := by decide +kernel
theorem d_AL_add2_7 : decode b_AL_add2 7 = .ok (.invokevirtual 129, 3) := by decide +kernel
theorem d_AL_add2_10 : decode b_AL_add2 10 = .ok (.astore_n 2, 1) := by decide +kernel
theorem d_AL_add2_11 : decode b_AL_add2 11 = .ok (.aload_n 2, 1) := by decide +kernel
theorem d_AL_add2_12 : decode b_AL_add2 12 = .ok (.iload_n 3, 1) := by decide +kernel
theorem d_AL_add2_13 : decode b_AL_add2 13 = .ok (.aload_n 1, 1) := by decide +kernel
theorem d_AL_add2_14 : decode b_AL_add2 14 = .ok (.aastore, 1) := by decide +kernel
theorem d_AL_add2_15 : decode b_AL_add2 15 = .ok (.aload_n 0, 1) := by decide +kernel
theorem d_AL_add2_16 : decode b_AL_add2 16 = .ok (.iload_n 3, 1) := by decide +kernel
theorem d_AL_add2_17 : decode b_AL_add2 17 = .ok (.iconst 1, 1) := by decide +kernel
theorem d_AL_add2_18 : decode b_AL_add2 18 = .ok (.iadd, 1) := by decide +kernel
theorem d_AL_add2_19 : decode b_AL_add2 19 = .ok (.putfield 48, 3) := by decide +kernel
theorem d_AL_add2_22 : decode b_AL_add2 22 = .ok (.return_, 1) := by decide +kernel
theorem d_AL_add3_0 : decode b_AL_add3 0 = .ok (.aload_n 0, 1) := by decide +kernel
theorem d_AL_add3_1 : decode b_AL_add3 1 = .ok (.iload_n 1, 1) := by decide +kernel
theorem d_AL_add3_2 : decode b_AL_add3 2 = .ok (.invokevirtual 135, 3) := by decide +kernel
theorem d_AL_add3_5 : decode b_AL_add3 5 = .ok (.aload_n 0, 1) := by decide +kernel
theorem d_AL_add3_6 : decode b_AL_add3 6 = .ok (.dup, 1) := by decide +kernel
theorem d_AL_add3_7 : decode b_AL_add3 7 = .ok (.getfield 63, 3) := by decide +kernel
theorem d_AL_add3_10 : decode b_AL_add3 10 = .ok (.iconst 1, 1) := by decide +kernel
theorem d_AL_add3_11 : decode b_AL_add3 11 = .ok (.iadd, 1) := by decide +kernel
theorem d_AL_add3_12 : decode b_AL_add3 12 = .ok (.putfield 63, 3) := by decide +kernel
theorem d_AL_add3_15 : decode b_AL_add3 15 = .ok (.aload_n 0, 1) := by decide +kernel
theorem d_AL_add3_16 : decode b_AL_add3 16 = .ok (.getfield 48, 3) := by decide +kernel
theorem d_AL_add3_19 : decode b_AL_add3 19 = .ok (.dup, 1) := by decide +kernel
theorem d_AL_add3_20 : decode b_AL_add3 20 = .ok (.istore_n 3, 1) := by decide +kernel
theorem d_AL_add3_21 : decode b_AL_add3 21 = .ok (.aload_n 0, 1) := by decide +kernel
theorem d_AL_add3_22 : decode b_AL_add3 22 = .ok (.getfield 9, 3) := by decide +kernel
theorem d_AL_add3_25 : decode b_AL_add3 25 = .ok (.dup, 1) := by decide +kernel
theorem d_AL_add3_26 : decode b_AL_add3 26 = .ok (.astore 4, 2) := by decide +kernel
theorem d_AL_add3_28 : decode b_AL_add3 28 = .ok (.arraylength, 1) := by decide +kernel
theorem d_AL_add3_29 : decode b_AL_add3 29 = .ok (.if_icmp .ne 9, 3) := by decide +kernel
theorem d_AL_add3_32 : decode b_AL_add3 32 = .ok (.aload_n 0, 1) := by decide +kernel
theorem d_AL_add3_33 : decode b_AL_add3 33 = .ok (.invokevirtual 129, 3) := by decide +kernel
theorem d_AL_add3_36 : decode b_AL_add3 36 = .ok (.astore 4, 2) := by decide +kernel
theorem d_AL_add3_38 : decode b_AL_add3 38 = .ok (.aload 4, 2) := by decide +kernel
theorem d_AL_add3_40 : decode b_AL_add3 40 = .ok (.iload_n 1, 1) := by decide +kernel
theorem d_AL_add3_41 : decode b_AL_add3 41 = .ok (.aload 4, 2) := by decide +kernel
theorem d_AL_add3_43 : decode b_AL_add3 43 = .ok (.iload_n 1, 1) := by decide +kernel
theorem d_AL_add3_44 : decode b_AL_add3 44 = .ok (.iconst 1, 1) := by decide +kernel
theorem d_AL_add3_45 : decode b_AL_add3 45 = .ok (.iadd, 1) := by decide +kernel
theorem d_AL_add3_46 : decode b_AL_add3 46 = .ok (.iload_n 3, 1) := by decide +kernel
theorem d_AL_add3_47 : decode b_AL_add3 47 = .ok (.iload_n 1, 1) := by decide +kernel
theorem d_AL_add3_48 : decode b_AL_add3 48 = .ok (.isub, 1) := by decide +kernel
theorem d_AL_add3_49 : decode b_AL_add3 49 = .ok (.invokestatic 112, 3) := by decide +kernel
theorem d_AL_add3_52 : decode b_AL_add3 52 = .ok (.aload 4, 2) := by decide +kernel
theorem d_AL_add3_54 : decode b_AL_add3 54 = .ok (.iload_n 1, 1) := by decide +kernel
theorem d_AL_add3_55 : decode b_AL_add3 55 = .ok (.aload_n 2, 1) := by decide +kernel
theorem d_AL_add3_56 : decode b_AL_add3 56 = .ok (.aastore, 1) := by decide +kernel
theorem d_AL_add3_57 : decode b_AL_add3 57 = .ok (.aload_n 0, 1) := by decide +kernel
theorem d_AL_add3_58 : decode b_AL_add3 58 = .ok (.iload_n 3, 1) := by decide +kernel
theorem d_AL_add3_59 : decode b_AL_add3 59 = .ok (.iconst 1, 1) := by decide +kernel
theorem d_AL_add3_60 : decode b_AL_add3 60 = .ok (.iadd, 1) := by decide +kernel
theorem d_AL_add3_61 : decode b_AL_add3 61 = .ok (.putfield 48, 3) := by decide +kernel
theorem d_AL_add3_64 : decode b_AL_add3 64 = .ok (.return_, 1) := by decide +kernel
theorem d_AL_grow_0 : decode b_AL_grow 0 = .ok (.aload_n 0, 1) := by decide +kernel
theorem d_AL_grow_1 : decode b_AL_grow 1 = .ok (.aload_n 0, 1) := by decide +kernel
theorem d_AL_grow_2 : decode b_AL_grow 2 = .ok (.getfield 48, 3) := by decide +kernel
theorem d_AL_grow_5 : decode b_AL_grow 5 = .ok (.iconst 1, 1) := by decide +kernel
theorem d_AL_grow_6 : decode b_AL_grow 6 = .ok (.iadd, 1) := by decide +kernel
theorem d_AL_grow_7 : decode b_AL_grow 7 = .ok (.invokevirtual 69, 3) := by decide +kernel
theorem d_AL_grow_10 : decode b_AL_grow 10 = .ok (.areturn, 1) := by decide +kernel
theorem d_AL_grow2_0 : decode b_AL_grow2 0 = .ok (.aload_n 0, 1) := by decide +kernel
theorem d_AL_grow2_1 : decode b_AL_grow2 1 = .ok (.getfield 9, 3) := by decide +kernel
theorem d_AL_grow2_4 : decode b_AL_grow2 4 = .ok (.arraylength, 1) := by decide +kernel
theorem d_AL_grow2_5 : decode b_AL_grow2 5 = .ok (.istore_n 2, 1) := by decide +kernel
theorem d_AL_grow2_6 : decode b_AL_grow2 6 = .ok (.iload_n 2, 1) := by decide +kernel
theorem d_AL_grow2_7 : decode b_AL_grow2 7 = .ok (.ifCond .gt 13, 3) := by decide +kernel
theorem d_AL_grow2_10 : decode b_AL_grow2 10 = .ok (.aload_n 0, 1) := by decide +kernel
theorem d_AL_grow2_11 : decode b_AL_grow2 11 = .ok (.getfield 9, 3) := by decide +kernel
theorem d_AL_grow2_14 : decode b_AL_grow2 14 = .ok (.getstatic 39, 3) := by decide +kernel
theorem d_AL_grow2_17 : decode b_AL_grow2 17 = .ok (.if_acmp .eq 28, 3) := by decide +kernel
theorem d_AL_grow2_20 : decode b_AL_grow2 20 = .ok (.iload_n 2, 1) := by decide +kernel
theorem d_AL_grow2_21 : decode b_AL_grow2 21 = .ok (.iload_n 1, 1) := by decide +kernel
theorem d_AL_grow2_22 : decode b_AL_grow2 22 = .ok (.iload_n 2, 1) := by decide +kernel
theorem d_AL_grow2_23 : decode b_AL_grow2 23 = .ok (.isub, 1) := by decide +kernel
theorem d_AL_grow2_24 : decode b_AL_grow2 24 = .ok (.iload_n 2, 1) := by decide +kernel
theorem d_AL_grow2_25 : decode b_AL_grow2 25 = .ok (.iconst 1, 1) := by decide +kernel
theorem d_AL_grow2_26 : decode b_AL_grow2 26 = .ok (.ishr, 1) := by decide +kernel
theorem d_AL_grow2_27 : decode b_AL_grow2 27 = .ok (.invokestatic 73, 3) := by decide +kernel
theorem d_AL_grow2_30 : decode b_AL_grow2 30 = .ok (.istore_n 3, 1) := by decide +kernel
theorem d_AL_grow2_31 : decode b_AL_grow2 31 = .ok (.aload_n 0, 1) := by decide +kernel
theorem d_AL_grow2_32 : decode b_AL_grow2 32 = .ok (.aload_n 0, 1) := by decide +kernel
theorem d_AL_grow2_33 : decode b_AL_grow2 33 = .ok (.getfield 9, 3) := by decide +kernel
theorem d_AL_grow2_36 : decode b_AL_grow2 36 = .ok (.iload_n 3, 1) := by decide +kernel
theorem d_AL_grow2_37 : decode b_AL_grow2 37 = .ok (.invokestatic 66, 3) := by decide +kernel
theorem d_AL_grow2_40 : decode b_AL_grow2 40 = .ok (.dup_x1, 1) := by decide +kernel
theorem d_AL_grow2_41 : decode b_AL_grow2 41 = .ok (.putfield 9, 3) := by decide +kernel
theorem d_AL_grow2_44 : decode b_AL_grow2 44 = .ok (.areturn, 1) := by decide +kernel
theorem d_AL_grow2_45 : decode b_AL_grow2 45 = .ok (.aload_n 0, 1) := by decide +kernel
theorem d_AL_grow2_46 : decode b_AL_grow2 46 = .ok (.bipush 10, 2) := by decide +kernel
theorem d_AL_grow2_48 : decode b_AL_grow2 48 = .ok (.iload_n 1, 1) := by decide +kernel
theorem d_AL_grow2_49 : decode b_AL_grow2 49 = .ok (.invokestatic 79, 3) := by decide +kernel
theorem d_AL_grow2_52 : decode b_AL_grow2 52 = .ok (.anewarray 7, 3) := by decide +kernel
theorem d_AL_grow2_55 : decode b_AL_grow2 55 = .ok (.dup_x1, 1) := by decide +kernel
theorem d_AL_grow2_56 : decode b_AL_grow2 56 = .ok (.putfield 9, 3) := by decide +kernel
theorem d_AL_grow2_59 : decode b_AL_grow2 59 = .ok (.areturn, 1) := by decide +kernel
theorem d_AS_newLength_0 : decode b_AS_newLength 0 = .ok (.iload_n 0, 1) := by decide +kernel
theorem d_AS_newLength_1 : decode b_AS_newLength 1 = .ok (.iload_n 1, 1) := by decide +kernel
theorem d_AS_newLength_2 : decode b_AS_newLength 2 = .ok (.iload_n 2, 1) := by decide +kernel
theorem d_AS_newLength_3 : decode b_AS_newLength 3 = .ok (.invokestatic 194, 3) := by decide +kernel
theorem d_AS_newLength_6 : decode b_AS_newLength 6 = .ok (.iadd, 1) := by decide +kernel
theorem d_AS_newLength_7 : decode b_AS_newLength 7 = .ok (.istore_n 3, 1) := by decide +kernel
theorem d_AS_newLength_8 : decode b_AS_newLength 8 = .ok (.iconst 0, 1) := by decide +kernel
theorem d_AS_newLength_9 : decode b_AS_newLength 9 = .ok (.iload_n 3, 1) := by decide +kernel
theorem d_AS_newLength_10 : decode b_AS_newLength 10 = .ok (.if_icmp .ge 11, 3) := by decide +kernel
theorem d_AS_newLength_13 : decode b_AS_newLength 13 = .ok (.iload_n 3, 1) := by decide +kernel
theorem d_AS_newLength_14 : decode b_AS_newLength 14 = .ok (.ldc 200, 2) := by decide +kernel
theorem d_AS_newLength_16 : decode b_AS_newLength 16 = .ok (.if_icmp .gt 5, 3) := by decide +kernel
theorem d_AS_newLength_19 : decode b_AS_newLength 19 = .ok (.iload_n 3, 1) := by decide +kernel
theorem d_AS_newLength_20 : decode b_AS_newLength 20 = .ok (.ireturn, 1) := by decide +kernel
theorem d_AS_newLength_21 : decode b_AS_newLength 21 = .ok (.iload_n 0, 1) := by decide +kernel
theorem d_AS_newLength_22 : decode b_AS_newLength 22 = .ok (.iload_n 1, 1) := by decide +kernel
theorem d_AS_newLength_23 : decode b_AS_newLength 23 = .ok (.invokestatic 201, 3) := by decide +kernel
theorem d_AS_newLength_26 : decode b_AS_newLength 26 = .ok (.ireturn, 1) := by decide +kernel
theorem d_AS_hugeLength_0 : decode b_AS_hugeLength 0 = .ok (.iload_n 0, 1) := by decide +kernel
theorem d_AS_hugeLength_1 : decode b_AS_hugeLength 1 = .ok (.iload_n 1, 1) := by decide +kernel
theorem d_AS_hugeLength_2 : decode b_AS_hugeLength 2 = .ok (.iadd, 1) := by decide +kernel
theorem d_AS_hugeLength_3 : decode b_AS_hugeLength 3 = .ok (.istore_n 2, 1) := by decide +kernel
theorem d_AS_hugeLength_4 : decode b_AS_hugeLength 4 = .ok (.iload_n 2, 1) := by decide +kernel
theorem d_AS_hugeLength_5 : decode b_AS_hugeLength 5 = .ok (.ifCond .ge 44, 3) := by decide +kernel
theorem d_AS_hugeLength_8 : decode b_AS_hugeLength 8 = .ok (.new 204, 3) := by decide +kernel
theorem d_AS_hugeLength_11 : decode b_AS_hugeLength 11 = .ok (.dup, 1) := by decide +kernel
theorem d_AS_hugeLength_12 : decode b_AS_hugeLength 12 = .ok (.new 89, 3) := by decide +kernel
theorem d_AS_hugeLength_15 : decode b_AS_hugeLength 15 = .ok (.dup, 1) := by decide +kernel
theorem d_AS_hugeLength_16 : decode b_AS_hugeLength 16 = .ok (.invokespecial 91, 3) := by decide +kernel
theorem d_AS_hugeLength_19 : decode b_AS_hugeLength 19 = .ok (.ldc 206, 2) := by decide +kernel
theorem d_AS_hugeLength_21 : decode b_AS_hugeLength 21 = .ok (.invokevirtual 94, 3) := by decide +kernel
theorem d_AS_hugeLength_24 : decode b_AS_hugeLength 24 = .ok (.iload_n 0, 1) := by decide +kernel
theorem d_AS_hugeLength_25 : decode b_AS_hugeLength 25 = .ok (.invokevirtual 98, 3) := by decide +kernel
theorem d_AS_hugeLength_28 : decode b_AS_hugeLength 28 = .ok (.ldc 208, 2) := by decide +kernel
theorem d_AS_hugeLength_30 : decode b_AS_hugeLength 30 = .ok (.invokevirtual 94, 3) := by decide +kernel
theorem d_AS_hugeLength_33 : decode b_AS_hugeLength 33 = .ok (.iload_n 1, 1) := by decide +kernel
theorem d_AS_hugeLength_34 : decode b_AS_hugeLength 34 = .ok (.invokevirtual 98, 3) := by decide +kernel
theorem d_AS_hugeLength_37 : decode b_AS_hugeLength 37 = .ok (.ldc 210, 2) := by decide +kernel
theorem d_AS_hugeLength_39 : decode b_AS_hugeLength 39 = .ok (.invokevirtual 94, 3) := by decide +kernel
theorem d_AS_hugeLength_42 : decode b_AS_hugeLength 42 = .ok (.invokevirtual 101, 3) := by decide +kernel
theorem d_AS_hugeLength_45 : decode b_AS_hugeLength 45 = .ok (.invokespecial 212, 3) := by decide +kernel
theorem d_AS_hugeLength_48 : decode b_AS_hugeLength 48 = .ok (.athrow, 1) := by decide +kernel
theorem d_AS_hugeLength_49 : decode b_AS_hugeLength 49 = .ok (.iload_n 2, 1) := by decide +kernel
theorem d_AS_hugeLength_50 : decode b_AS_hugeLength 50 = .ok (.ldc 200, 2) := by decide +kernel
theorem d_AS_hugeLength_52 : decode b_AS_hugeLength 52 = .ok (.if_icmp .gt 6, 3) := by decide +kernel
theorem d_AS_hugeLength_55 : decode b_AS_hugeLength 55 = .ok (.ldc 200, 2) := by decide +kernel
theorem d_AS_hugeLength_57 : decode b_AS_hugeLength 57 = .ok (.ireturn, 1) := by decide +kernel
theorem d_AS_hugeLength_58 : decode b_AS_hugeLength 58 = .ok (.iload_n 2, 1) := by decide +kernel
theorem d_AS_hugeLength_59 : decode b_AS_hugeLength 59 = .ok (.ireturn, 1) := by decide +kernel
theorem d_Ar_copyOf_0 : decode b_Ar_copyOf 0 = .ok (.aload_n 0, 1) := by decide +kernel
theorem d_Ar_copyOf_1 : decode b_Ar_copyOf 1 = .ok (.iload_n 1, 1) := by decide +kernel
theorem d_Ar_copyOf_2 : decode b_Ar_copyOf 2 = .ok (.aload_n 0, 1) := by decide +kernel
theorem d_Ar_copyOf_3 : decode b_Ar_copyOf 3 = .ok (.invokevirtual 86, 3) := by decide +kernel
theorem d_Ar_copyOf_6 : decode b_Ar_copyOf 6 = .ok (.invokestatic 300, 3) := by decide +kernel
theorem d_Ar_copyOf_9 : decode b_Ar_copyOf 9 = .ok (.areturn, 1) := by decide +kernel
theorem d_Ar_copyOf2_0 : decode b_Ar_copyOf2 0 = .ok (.aload_n 2, 1) := by decide +kernel
theorem d_Ar_copyOf2_1 : decode b_Ar_copyOf2 1 = .ok (.ldc 110, 2) := by decide +kernel
theorem d_Ar_copyOf2_3 : decode b_Ar_copyOf2 3 = .ok (.if_acmp .ne 10, 3) := by decide +kernel
theorem d_Ar_copyOf2_6 : decode b_Ar_copyOf2 6 = .ok (.iload_n 1, 1) := by decide +kernel
theorem d_Ar_copyOf2_7 : decode b_Ar_copyOf2 7 = .ok (.anewarray 2, 3) := by decide +kernel
theorem d_Ar_copyOf2_10 : decode b_Ar_copyOf2 10 = .ok (.goto 14, 3) := by decide +kernel
theorem d_Ar_copyOf2_13 : decode b_Ar_copyOf2 13 = .ok (.aload_n 2, 1) := by decide +kernel
theorem d_Ar_copyOf2_14 : decode b_Ar_copyOf2 14 = .ok (.invokevirtual 90, 3) := by decide +kernel
theorem d_Ar_copyOf2_17 : decode b_Ar_copyOf2 17 = .ok (.iload_n 1, 1) := by decide +kernel
theorem d_Ar_copyOf2_18 : decode b_Ar_copyOf2 18 = .ok (.invokestatic 95, 3) := by decide +kernel
theorem d_Ar_copyOf2_21 : decode b_Ar_copyOf2 21 = .ok (.checkcast 110, 3) := by decide +kernel
theorem d_Ar_copyOf2_24 : decode b_Ar_copyOf2 24 = .ok (.astore_n 3, 1) := by decide +kernel
theorem d_Ar_copyOf2_25 : decode b_Ar_copyOf2 25 = .ok (.aload_n 0, 1) := by decide +kernel
theorem d_Ar_copyOf2_26 : decode b_Ar_copyOf2 26 = .ok (.iconst 0, 1) := by decide +kernel
theorem d_Ar_copyOf2_27 : decode b_Ar_copyOf2 27 = .ok (.aload_n 3, 1) := by decide +kernel
theorem d_Ar_copyOf2_28 : decode b_Ar_copyOf2 28 = .ok (.iconst 0, 1) := by decide +kernel
theorem d_Ar_copyOf2_29 : decode b_Ar_copyOf2 29 = .ok (.aload_n 0, 1) := by decide +kernel
theorem d_Ar_copyOf2_30 : decode b_Ar_copyOf2 30 = .ok (.arraylength, 1) := by decide +kernel
theorem d_Ar_copyOf2_31 : decode b_Ar_copyOf2 31 = .ok (.iload_n 1, 1) := by decide +kernel
theorem d_Ar_copyOf2_32 : decode b_Ar_copyOf2 32 = .ok (.invokestatic 304, 3) := by decide +kernel
theorem d_Ar_copyOf2_35 : decode b_Ar_copyOf2 35 = .ok (.invokestatic 150, 3) := by decide +kernel
theorem d_Ar_copyOf2_38 : decode b_Ar_copyOf2 38 = .ok (.aload_n 3, 1) := by decide +kernel
theorem d_Ar_copyOf2_39 : decode b_Ar_copyOf2 39 = .ok (.areturn, 1) := by decide +kernel
theorem d_AL_isEmpty_0 : decode b_AL_isEmpty 0 = .ok (.aload_n 0, 1) := by decide +kernel
theorem d_AL_isEmpty_1 : decode b_AL_isEmpty 1 = .ok (.getfield 48, 3) := by decide +kernel
theorem d_AL_isEmpty_4 : decode b_AL_isEmpty 4 = .ok (.ifCond .ne 7, 3) := by decide +kernel
theorem d_AL_isEmpty_7 : decode b_AL_isEmpty 7 = .ok (.iconst 1, 1) := by decide +kernel
theorem d_AL_isEmpty_8 : decode b_AL_isEmpty 8 = .ok (.goto 4, 3) := by decide +kernel
theorem d_AL_isEmpty_11 : decode b_AL_isEmpty 11 = .ok (.iconst 0, 1) := by decide +kernel
theorem d_AL_isEmpty_12 : decode b_AL_isEmpty 12 = .ok (.ireturn, 1) := by decide +kernel
theorem d_AL_get_0 : decode b_AL_get 0 = .ok (.iload_n 1, 1) := by decide +kernel
theorem d_AL_get_1 : decode b_AL_get 1 = .ok (.aload_n 0, 1) := by decide +kernel
theorem d_AL_get_2 : decode b_AL_get 2 = .ok (.getfield 48, 3) := by decide +kernel
theorem d_AL_get_5 : decode b_AL_get 5 = .ok (.invokestatic 118, 3) := by decide +kernel
theorem d_AL_get_8 : decode b_AL_get 8 = .ok (.pop, 1) := by decide +kernel
theorem d_AL_get_9 : decode b_AL_get 9 = .ok (.aload_n 0, 1) := by decide +kernel
theorem d_AL_get_10 : decode b_AL_get 10 = .ok (.iload_n 1, 1) := by decide +kernel
theorem d_AL_get_11 : decode b_AL_get 11 = .ok (.invokevirtual 123, 3) := by decide +kernel
theorem d_AL_get_14 : decode b_AL_get 14 = .ok (.areturn, 1) := by decide +kernel
theorem d_Ob_checkIndex_0 : decode b_Ob_checkIndex 0 = .ok (.iload_n 0, 1) := by decide +kernel
theorem d_Ob_checkIndex_1 : decode b_Ob_checkIndex 1 = .ok (.iload_n 1, 1) := by decide +kernel
theorem d_Ob_checkIndex_2 : decode b_Ob_checkIndex 2 = .ok (.aconst_null, 1) := by decide +kernel
theorem d_Ob_checkIndex_3 : decode b_Ob_checkIndex 3 = .ok (.invokestatic 105, 3) := by decide +kernel
theorem d_Ob_checkIndex_6 : decode b_Ob_checkIndex 6 = .ok (.ireturn, 1) := by decide +kernel
theorem d_Pr_checkIndex_0 : decode b_Pr_checkIndex 0 = .ok (.iload_n 0, 1) := by decide +kernel
theorem d_Pr_checkIndex_1 : decode b_Pr_checkIndex 1 = .ok (.ifCond .lt 8, 3) := by decide +kernel
theorem d_Pr_checkIndex_4 : decode b_Pr_checkIndex 4 = .ok (.iload_n 0, 1) := by decide +kernel
theorem d_Pr_checkIndex_5 : decode b_Pr_checkIndex 5 = .ok (.iload_n 1, 1) := by decide +kernel
theorem d_Pr_checkIndex_6 : decode b_Pr_checkIndex 6 = .ok (.if_icmp .lt 10, 3) := by decide +kernel
theorem d_Pr_checkIndex_9 : decode b_Pr_checkIndex 9 = .ok (.aload_n 2, 1) := by decide +kernel
theorem d_Pr_checkIndex_10 : decode b_Pr_checkIndex 10 = .ok (.iload_n 0, 1) := by decide +kernel
theorem d_Pr_checkIndex_11 : decode b_Pr_checkIndex 11 = .ok (.iload_n 1, 1) := by decide +kernel
theorem d_Pr_checkIndex_12 : decode b_Pr_checkIndex 12 = .ok (.invokestatic 95, 3) := by decide +kernel
theorem d_Pr_checkIndex_15 : decode b_Pr_checkIndex 15 = .ok (.athrow, 1) := by decide +kernel
theorem d_Pr_checkIndex_16 : decode b_Pr_checkIndex 16 = .ok (.iload_n 0, 1) := by decide +kernel
theorem d_Pr_checkIndex_17 : decode b_Pr_checkIndex 17 = .ok (.ireturn, 1) := by decide +kernel
theorem d_AL_elementData_0 : decode b_AL_elementData 0 = .ok (.aload_n 0, 1) := by decide +kernel
theorem d_AL_elementData_1 : decode b_AL_elementData 1 = .ok (.getfield 9, 3) := by decide +kernel
theorem d_AL_elementData_4 : decode b_AL_elementData 4 = .ok (.iload_n 1, 1) := by decide +kernel
theorem d_AL_elementData_5 : decode b_AL_elementData 5 = .ok (.aaload, 1) := by decide +kernel
theorem d_AL_elementData_6 : decode b_AL_elementData 6 = .ok (.areturn, 1) := by decide +kernel
theorem d_AL_remove_0 : decode b_AL_remove 0 = .ok (.iload_n 1, 1) := by decide +kernel
theorem d_AL_remove_1 : decode b_AL_remove 1 = .ok (.aload_n 0, 1) := by decide +kernel
theorem d_AL_remove_2 : decode b_AL_remove 2 = .ok (.getfield 48, 3) := by decide +kernel
theorem d_AL_remove_5 : decode b_AL_remove 5 = .ok (.invokestatic 118, 3) := by decide +kernel
theorem d_AL_remove_8 : decode b_AL_remove 8 = .ok (.pop, 1) := by decide +kernel
theorem d_AL_remove_9 : decode b_AL_remove 9 = .ok (.aload_n 0, 1) := by decide +kernel
theorem d_AL_remove_10 : decode b_AL_remove 10 = .ok (.getfield 9, 3) := by decide +kernel
theorem d_AL_remove_13 : decode b_AL_remove 13 = .ok (.astore_n 2, 1) := by decide +kernel
theorem d_AL_remove_14 : decode b_AL_remove 14 = .ok (.aload_n 2, 1) := by decide +kernel
theorem d_AL_remove_15 : decode b_AL_remove 15 = .ok (.iload_n 1, 1) := by decide +kernel
theorem d_AL_remove_16 : decode b_AL_remove 16 = .ok (.aaload, 1) := by decide +kernel
theorem d_AL_remove_17 : decode b_AL_remove 17 = .ok (.astore_n 3, 1) := by decide +kernel
theorem d_AL_remove_18 : decode b_AL_remove 18 = .ok (.aload_n 0, 1) := by decide +kernel
theorem d_AL_remove_19 : decode b_AL_remove 19 = .ok (.aload_n 2, 1) := by decide +kernel
theorem d_AL_remove_20 : decode b_AL_remove 20 = .ok (.iload_n 1, 1) := by decide +kernel
theorem d_AL_remove_21 : decode b_AL_remove 21 = .ok (.invokevirtual 144, 3) := by decide +kernel
theorem d_AL_remove_24 : decode b_AL_remove 24 = .ok (.aload_n 3, 1) := by decide +kernel
theorem d_AL_remove_25 : decode b_AL_remove 25 = .ok (.areturn, 1) := by decide +kernel
theorem d_AL_fastRemove_0 : decode b_AL_fastRemove 0 = .ok (.aload_n 0, 1) := by decide +kernel
theorem d_AL_fastRemove_1 : decode b_AL_fastRemove 1 = .ok (.dup, 1) := by decide +kernel
theorem d_AL_fastRemove_2 : decode b_AL_fastRemove 2 = .ok (.getfield 63, 3) := by decide +kernel
theorem d_AL_fastRemove_5 : decode b_AL_fastRemove 5 = .ok (.iconst 1, 1) := by decide +kernel
theorem d_AL_fastRemove_6 : decode b_AL_fastRemove 6 = .ok (.iadd, 1) := by decide +kernel
theorem d_AL_fastRemove_7 : decode b_AL_fastRemove 7 = .ok (.putfield 63, 3) := by decide +kernel
theorem d_AL_fastRemove_10 : decode b_AL_fastRemove 10 = .ok (.aload_n 0, 1) := by decide +kernel
theorem d_AL_fastRemove_11 : decode b_AL_fastRemove 11 = .ok (.getfield 48, 3) := by decide +kernel
theorem d_AL_fastRemove_14 : decode b_AL_fastRemove 14 = .ok (.iconst 1, 1) := by decide +kernel
theorem d_AL_fastRemove_15 : decode b_AL_fastRemove 15 = .ok (.isub, 1) := by decide +kernel
theorem d_AL_fastRemove_16 : decode b_AL_fastRemove 16 = .ok (.dup, 1) := by decide +kernel
theorem d_AL_fastRemove_17 : decode b_AL_fastRemove 17 = .ok (.istore_n 3, 1) := by decide +kernel
theorem d_AL_fastRemove_18 : decode b_AL_fastRemove 18 = .ok (.iload_n 2, 1) := by decide +kernel
theorem d_AL_fastRemove_19 : decode b_AL_fastRemove 19 = .ok (.if_icmp .le 15, 3) := by decide +kernel
theorem d_AL_fastRemove_22 : decode b_AL_fastRemove 22 = .ok (.aload_n 1, 1) := by decide +kernel
theorem d_AL_fastRemove_23 : decode b_AL_fastRemove 23 = .ok (.iload_n 2, 1) := by decide +kernel
theorem d_AL_fastRemove_24 : decode b_AL_fastRemove 24 = .ok (.iconst 1, 1) := by decide +kernel
theorem d_AL_fastRemove_25 : decode b_AL_fastRemove 25 = .ok (.iadd, 1) := by decide +kernel
theorem d_AL_fastRemove_26 : decode b_AL_fastRemove 26 = .ok (.aload_n 1, 1) := by decide +kernel
theorem d_AL_fastRemove_27 : decode b_AL_fastRemove 27 = .ok (.iload_n 2, 1) := by decide +kernel
theorem d_AL_fastRemove_28 : decode b_AL_fastRemove 28 = .ok (.iload_n 3, 1) := by decide +kernel
theorem d_AL_fastRemove_29 : decode b_AL_fastRemove 29 = .ok (.iload_n 2, 1) := by decide +kernel
theorem d_AL_fastRemove_30 : decode b_AL_fastRemove 30 = .ok (.isub, 1) := by decide +kernel
theorem d_AL_fastRemove_31 : decode b_AL_fastRemove 31 = .ok (.invokestatic 112, 3) := by decide +kernel
theorem d_AL_fastRemove_34 : decode b_AL_fastRemove 34 = .ok (.aload_n 1, 1) := by decide +kernel
theorem d_AL_fastRemove_35 : decode b_AL_fastRemove 35 = .ok (.aload_n 0, 1) := by decide +kernel
theorem d_AL_fastRemove_36 : decode b_AL_fastRemove 36 = .ok (.iload_n 3, 1) := by decide +kernel
theorem d_AL_fastRemove_37 : decode b_AL_fastRemove 37 = .ok (.dup_x1, 1) := by decide +kernel
theorem d_AL_fastRemove_38 : decode b_AL_fastRemove 38 = .ok (.putfield 48, 3) := by decide +kernel
theorem d_AL_fastRemove_41 : decode b_AL_fastRemove 41 = .ok (.aconst_null, 1) := by decide +kernel
theorem d_AL_fastRemove_42 : decode b_AL_fastRemove 42 = .ok (.aastore, 1) := by decide +kernel
theorem d_AL_fastRemove_43 : decode b_AL_fastRemove 43 = .ok (.return_, 1) := by decide +kernel
theorem d_AL_clear_0 : decode b_AL_clear 0 = .ok (.aload_n 0, 1) := by decide +kernel
theorem d_AL_clear_1 : decode b_AL_clear 1 = .ok (.dup, 1) := by decide +kernel
theorem d_AL_clear_2 : decode b_AL_clear 2 = .ok (.getfield 63, 3) := by decide +kernel
theorem d_AL_clear_5 : decode b_AL_clear 5 = .ok (.iconst 1, 1) := by decide +kernel
theorem d_AL_clear_6 : decode b_AL_clear 6 = .ok (.iadd, 1) := by decide +kernel
theorem d_AL_clear_7 : decode b_AL_clear 7 = .ok (.putfield 63, 3) := by decide +kernel
theorem d_AL_clear_10 : decode b_AL_clear 10 = .ok (.aload_n 0, 1) := by decide +kernel
theorem d_AL_clear_11 : decode b_AL_clear 11 = .ok (.getfield 9, 3) := by decide +kernel
theorem d_AL_clear_14 : decode b_AL_clear 14 = .ok (.astore_n 1, 1) := by decide +kernel
theorem d_AL_clear_15 : decode b_AL_clear 15 = .ok (.aload_n 0, 1) := by decide +kernel
theorem d_AL_clear_16 : decode b_AL_clear 16 = .ok (.getfield 48, 3) := by decide +kernel
theorem d_AL_clear_19 : decode b_AL_clear 19 = .ok (.istore_n 2, 1) := by decide +kernel
theorem d_AL_clear_20 : decode b_AL_clear 20 = .ok (.aload_n 0, 1) := by decide +kernel
theorem d_AL_clear_21 : decode b_AL_clear 21 = .ok (.iconst 0, 1) := by decide +kernel
theorem d_AL_clear_22 : decode b_AL_clear 22 = .ok (.dup_x1, 1) := by decide +kernel
theorem d_AL_clear_23 : decode b_AL_clear 23 = .ok (.putfield 48, 3) := by decide +kernel
theorem d_AL_clear_26 : decode b_AL_clear 26 = .ok (.istore_n 3, 1) := by decide +kernel
theorem d_AL_clear_27 : decode b_AL_clear 27 = .ok (.iload_n 3, 1) := by decide +kernel
theorem d_AL_clear_28 : decode b_AL_clear 28 = .ok (.iload_n 2, 1) := by decide +kernel
theorem d_AL_clear_29 : decode b_AL_clear 29 = .ok (.if_icmp .ge 13, 3) := by decide +kernel
theorem d_AL_clear_32 : decode b_AL_clear 32 = .ok (.aload_n 1, 1) := by decide +kernel
theorem d_AL_clear_33 : decode b_AL_clear 33 = .ok (.iload_n 3, 1) := by decide +kernel
theorem d_AL_clear_34 : decode b_AL_clear 34 = .ok (.aconst_null, 1) := by decide +kernel
theorem d_AL_clear_35 : decode b_AL_clear 35 = .ok (.aastore, 1) := by decide +kernel
theorem d_AL_clear_36 : decode b_AL_clear 36 = .ok (.iinc 3 1, 3) := by decide +kernel
theorem d_AL_clear_39 : decode b_AL_clear 39 = .ok (.goto (-12), 3) := by decide +kernel
theorem d_AL_clear_42 : decode b_AL_clear 42 = .ok (.return_, 1) := by decide +kernel
theorem d_Ar_fill_0 : decode b_Ar_fill 0 = .ok (.iconst 0, 1) := by decide +kernel
theorem d_Ar_fill_1 : decode b_Ar_fill 1 = .ok (.istore_n 2, 1) := by decide +kernel
theorem d_Ar_fill_2 : decode b_Ar_fill 2 = .ok (.aload_n 0, 1) := by decide +kernel
theorem d_Ar_fill_3 : decode b_Ar_fill 3 = .ok (.arraylength, 1) := by decide +kernel
theorem d_Ar_fill_4 : decode b_Ar_fill 4 = .ok (.istore_n 3, 1) := by decide +kernel
theorem d_Ar_fill_5 : decode b_Ar_fill 5 = .ok (.iload_n 2, 1) := by decide +kernel
theorem d_Ar_fill_6 : decode b_Ar_fill 6 = .ok (.iload_n 3, 1) := by decide +kernel
theorem d_Ar_fill_7 : decode b_Ar_fill 7 = .ok (.if_icmp .ge 13, 3) := by decide +kernel
theorem d_Ar_fill_10 : decode b_Ar_fill 10 = .ok (.aload_n 0, 1) := by decide +kernel
theorem d_Ar_fill_11 : decode b_Ar_fill 11 = .ok (.iload_n 2, 1) := by decide +kernel
theorem d_Ar_fill_12 : decode b_Ar_fill 12 = .ok (.iload_n 1, 1) := by decide +kernel
theorem d_Ar_fill_13 : decode b_Ar_fill 13 = .ok (.iastore, 1) := by decide +kernel
theorem d_Ar_fill_14 : decode b_Ar_fill 14 = .ok (.iinc 2 1, 3) := by decide +kernel
theorem d_Ar_fill_17 : decode b_Ar_fill 17 = .ok (.goto (-12), 3) := by decide +kernel
theorem d_Ar_fill_20 : decode b_Ar_fill 20 = .ok (.return_, 1) := by decide +kernel
theorem d_AL_rangeCheckForAdd_0 : decode b_AL_rangeCheckForAdd 0 = .ok (.iload_n 1, 1) := by decide +kernel
theorem d_AL_rangeCheckForAdd_1 : decode b_AL_rangeCheckForAdd 1 = .ok (.aload_n 0, 1) := by decide +kernel
theorem d_AL_rangeCheckForAdd_2 : decode b_AL_rangeCheckForAdd 2 = .ok (.getfield 48, 3) := by decide +kernel
theorem d_AL_rangeCheckForAdd_5 : decode b_AL_rangeCheckForAdd 5 = .ok (.if_icmp .gt 7, 3) := by decide +kernel
theorem d_AL_rangeCheckForAdd_8 : decode b_AL_rangeCheckForAdd 8 = .ok (.iload_n 1, 1) := by decide +kernel
theorem d_AL_rangeCheckForAdd_9 : decode b_AL_rangeCheckForAdd 9 = .ok (.ifCond .ge 16, 3) := by decide +kernel
theorem d_AL_rangeCheckForAdd_12 : decode b_AL_rangeCheckForAdd 12 = .ok (.new 187, 3) := by decide +kernel
theorem d_AL_rangeCheckForAdd_15 : decode b_AL_rangeCheckForAdd 15 = .ok (.dup, 1) := by decide +kernel
theorem d_AL_rangeCheckForAdd_16 : decode b_AL_rangeCheckForAdd 16 = .ok (.aload_n 0, 1) := by decide +kernel
theorem d_AL_rangeCheckForAdd_17 : decode b_AL_rangeCheckForAdd 17 = .ok (.iload_n 1, 1) := by decide +kernel
theorem d_AL_rangeCheckForAdd_18 : decode b_AL_rangeCheckForAdd 18 = .ok (.invokevirtual 198, 3) := by decide +kernel
theorem d_AL_rangeCheckForAdd_21 : decode b_AL_rangeCheckForAdd 21 = .ok (.invokespecial 193, 3) := by decide +kernel
theorem d_AL_rangeCheckForAdd_24 : decode b_AL_rangeCheckForAdd 24 = .ok (.athrow, 1) := by decide +kernel
theorem d_AL_rangeCheckForAdd_25 : decode b_AL_rangeCheckForAdd 25 = .ok (.return_, 1) := by decide +kernel
end
section
theorem d_Qu_init_0 : decode b_Qu_init 0 = .ok (.aload_n 0, 1) := by decide +kernel
theorem d_Qu_init_1 : decode b_Qu_init 1 = .ok (.invokespecial 3, 3) := by decide +kernel
theorem d_Qu_init_4 : decode b_Qu_init 4 = .ok (.aload_n 0, 1) := by decide +kernel
theorem d_Qu_init_5 : decode b_Qu_init 5 = .ok (.new 9, 3) := by decide +kernel
theorem d_Qu_init_8 : decode b_Qu_init 8 = .ok (.dup, 1) := by decide +kernel
theorem d_Qu_init_9 : decode b_Qu_init 9 = .ok (.invokespecial 11, 3) := by decide +kernel
theorem d_Qu_init_12 : decode b_Qu_init 12 = .ok (.putfield 12, 3) := by decide +kernel
theorem d_Qu_init_15 : decode b_Qu_init 15 = .ok (.aload_n 0, 1) := by decide +kernel
theorem d_Qu_init_16 : decode b_Qu_init 16 = .ok (.bipush 8, 2) := by decide +kernel
theorem d_Qu_init_18 : decode b_Qu_init 18 = .ok (.newarray .int, 2) := by decide +kernel
theorem d_Qu_init_20 : decode b_Qu_init 20 = .ok (.putfield 18, 3) := by decide +kernel
theorem d_Qu_init_23 : decode b_Qu_init 23 = .ok (.aload_n 0, 1) := by decide +kernel
theorem d_Qu_init_24 : decode b_Qu_init 24 = .ok (.iconst (-1), 1) := by decide +kernel
theorem d_Qu_init_25 : decode b_Qu_init 25 = .ok (.putfield 22, 3) := by decide +kernel
theorem d_Qu_init_28 : decode b_Qu_init 28 = .ok (.return_, 1) := by decide +kernel
theorem d_Qu_admits_0 : decode b_Qu_admits 0 = .ok (.aload_n 0, 1) := by decide +kernel
theorem d_Qu_admits_1 : decode b_Qu_admits 1 = .ok (.getfield 22, 3) := by decide +kernel
theorem d_Qu_admits_4 : decode b_Qu_admits 4 = .ok (.iconst (-1), 1) := by decide +kernel
theorem d_Qu_admits_5 : decode b_Qu_admits 5 = .ok (.if_icmp .eq 17, 3) := by decide +kernel
theorem d_Qu_admits_8 : decode b_Qu_admits 8 = .ok (.aload_n 0, 1) := by decide +kernel
theorem d_Qu_admits_9 : decode b_Qu_admits 9 = .ok (.getfield 22, 3) := by decide +kernel
theorem d_Qu_admits_12 : decode b_Qu_admits 12 = .ok (.iload_n 1, 1) := by decide +kernel
theorem d_Qu_admits_13 : decode b_Qu_admits 13 = .ok (.if_icmp .ne 7, 3) := by decide +kernel
theorem d_Qu_admits_16 : decode b_Qu_admits 16 = .ok (.iconst 1, 1) := by decide +kernel
theorem d_Qu_admits_17 : decode b_Qu_admits 17 = .ok (.goto 4, 3) := by decide +kernel
theorem d_Qu_admits_20 : decode b_Qu_admits 20 = .ok (.iconst 0, 1) := by decide +kernel
theorem d_Qu_admits_21 : decode b_Qu_admits 21 = .ok (.ireturn, 1) := by decide +kernel
theorem d_Qu_admits_22 : decode b_Qu_admits 22 = .ok (.aload_n 0, 1) := by decide +kernel
theorem d_Qu_admits_23 : decode b_Qu_admits 23 = .ok (.getfield 37, 3) := by decide +kernel
theorem d_Qu_admits_26 : decode b_Qu_admits 26 = .ok (.ifnull 10, 3) := by decide +kernel
theorem d_Qu_admits_29 : decode b_Qu_admits 29 = .ok (.iload_n 1, 1) := by decide +kernel
theorem d_Qu_admits_30 : decode b_Qu_admits 30 = .ok (.invokestatic 26, 3) := by decide +kernel
theorem d_Qu_admits_33 : decode b_Qu_admits 33 = .ok (.ifCond .eq 7, 3) := by decide +kernel
theorem d_Qu_admits_36 : decode b_Qu_admits 36 = .ok (.iconst 1, 1) := by decide +kernel
theorem d_Qu_admits_37 : decode b_Qu_admits 37 = .ok (.goto 4, 3) := by decide +kernel
theorem d_Qu_admits_40 : decode b_Qu_admits 40 = .ok (.iconst 0, 1) := by decide +kernel
theorem d_Qu_admits_41 : decode b_Qu_admits 41 = .ok (.ireturn, 1) := by decide +kernel
theorem d_Qu_isTransientKind_0 : decode b_Qu_isTransientKind 0 = .ok (.iload_n 0, 1) := by decide +kernel
theorem d_Qu_isTransientKind_1 : decode b_Qu_isTransientKind 1 = .ok (.iconst 2, 1) := by decide +kernel
theorem d_Qu_isTransientKind_2 : decode b_Qu_isTransientKind 2 = .ok (.if_icmp .lt 7, 3) := by decide +kernel
theorem d_Qu_isTransientKind_5 : decode b_Qu_isTransientKind 5 = .ok (.iconst 1, 1) := by decide +kernel
theorem d_Qu_isTransientKind_6 : decode b_Qu_isTransientKind 6 = .ok (.goto 4, 3) := by decide +kernel
theorem d_Qu_isTransientKind_9 : decode b_Qu_isTransientKind 9 = .ok (.iconst 0, 1) := by decide +kernel
theorem d_Qu_isTransientKind_10 : decode b_Qu_isTransientKind 10 = .ok (.ireturn, 1) := by decide +kernel
theorem d_Qu_isLocked_0 : decode b_Qu_isLocked 0 = .ok (.aload_n 0, 1) := by decide +kernel
theorem d_Qu_isLocked_1 : decode b_Qu_isLocked 1 = .ok (.getfield 30, 3) := by decide +kernel
theorem d_Qu_isLocked_4 : decode b_Qu_isLocked 4 = .ok (.ifCond .le 7, 3) := by decide +kernel
theorem d_Qu_isLocked_7 : decode b_Qu_isLocked 7 = .ok (.iconst 1, 1) := by decide +kernel
theorem d_Qu_isLocked_8 : decode b_Qu_isLocked 8 = .ok (.goto 4, 3) := by decide +kernel
theorem d_Qu_isLocked_11 : decode b_Qu_isLocked 11 = .ok (.iconst 0, 1) := by decide +kernel
theorem d_Qu_isLocked_12 : decode b_Qu_isLocked 12 = .ok (.ireturn, 1) := by decide +kernel
theorem d_Qu_touch_0 : decode b_Qu_touch 0 = .ok (.aload_n 0, 1) := by decide +kernel
theorem d_Qu_touch_1 : decode b_Qu_touch 1 = .ok (.lload_n 1, 1) := by decide +kernel
theorem d_Qu_touch_2 : decode b_Qu_touch 2 = .ok (.putfield 41, 3) := by decide +kernel
theorem d_Qu_touch_5 : decode b_Qu_touch 5 = .ok (.return_, 1) := by decide +kernel
theorem d_Qu_append_0 : decode b_Qu_append 0 = .ok (.aload_n 0, 1) := by decide +kernel
theorem d_Qu_append_1 : decode b_Qu_append 1 = .ok (.iload_n 1, 1) := by decide +kernel
theorem d_Qu_append_2 : decode b_Qu_append 2 = .ok (.putfield 22, 3) := by decide +kernel
theorem d_Qu_append_5 : decode b_Qu_append 5 = .ok (.aload_n 0, 1) := by decide +kernel
theorem d_Qu_append_6 : decode b_Qu_append 6 = .ok (.getfield 12, 3) := by decide +kernel
theorem d_Qu_append_9 : decode b_Qu_append 9 = .ok (.new 45, 3) := by decide +kernel
theorem d_Qu_append_12 : decode b_Qu_append 12 = .ok (.dup, 1) := by decide +kernel
theorem d_Qu_append_13 : decode b_Qu_append 13 = .ok (.lload_n 2, 1) := by decide +kernel
theorem d_Qu_append_14 : decode b_Qu_append 14 = .ok (.invokespecial 47, 3) := by decide +kernel
theorem d_Qu_append_17 : decode b_Qu_append 17 = .ok (.invokevirtual 50, 3) := by decide +kernel
theorem d_Qu_append_20 : decode b_Qu_append 20 = .ok (.pop, 1) := by decide +kernel
theorem d_Qu_append_21 : decode b_Qu_append 21 = .ok (.aload_n 0, 1) := by decide +kernel
theorem d_Qu_append_22 : decode b_Qu_append 22 = .ok (.getfield 22, 3) := by decide +kernel
theorem d_Qu_append_25 : decode b_Qu_append 25 = .ok (.invokestatic 54, 3) := by decide +kernel
theorem d_Qu_append_28 : decode b_Qu_append 28 = .ok (.ifCond .eq 24, 3) := by decide +kernel
theorem d_Qu_append_31 : decode b_Qu_append 31 = .ok (.iload 4, 2) := by decide +kernel
theorem d_Qu_append_33 : decode b_Qu_append 33 = .ok (.ifCond .eq 19, 3) := by decide +kernel
theorem d_Qu_append_36 : decode b_Qu_append 36 = .ok (.aload_n 0, 1) := by decide +kernel
theorem d_Qu_append_37 : decode b_Qu_append 37 = .ok (.iload 4, 2) := by decide +kernel
theorem d_Qu_append_39 : decode b_Qu_append 39 = .ok (.putfield 57, 3) := by decide +kernel
theorem d_Qu_append_42 : decode b_Qu_append 42 = .ok (.aload_n 0, 1) := by decide +kernel
theorem d_Qu_append_43 : decode b_Qu_append 43 = .ok (.dup, 1) := by decide +kernel
theorem d_Qu_append_44 : decode b_Qu_append 44 = .ok (.getfield 30, 3) := by decide +kernel
theorem d_Qu_append_47 : decode b_Qu_append 47 = .ok (.iconst 1, 1) := by decide +kernel
theorem d_Qu_append_48 : decode b_Qu_append 48 = .ok (.iadd, 1) := by decide +kernel
theorem d_Qu_append_49 : decode b_Qu_append 49 = .ok (.putfield 30, 3) := by decide +kernel
theorem d_Qu_append_52 : decode b_Qu_append 52 = .ok (.aload_n 0, 1) := by decide +kernel
theorem d_Qu_append_53 : decode b_Qu_append 53 = .ok (.invokevirtual 60, 3) := by decide +kernel
theorem d_Qu_append_56 : decode b_Qu_append 56 = .ok (.ifCond .ne 11, 3) := by decide +kernel
theorem d_Qu_append_59 : decode b_Qu_append 59 = .ok (.aload_n 0, 1) := by decide +kernel
theorem d_Qu_append_60 : decode b_Qu_append 60 = .ok (.getfield 12, 3) := by decide +kernel
theorem d_Qu_append_63 : decode b_Qu_append 63 = .ok (.invokevirtual 33, 3) := by decide +kernel
theorem d_Qu_append_66 : decode b_Qu_append 66 = .ok (.ireturn, 1) := by decide +kernel
theorem d_Qu_append_67 : decode b_Qu_append 67 = .ok (.aload_n 0, 1) := by decide +kernel
theorem d_Qu_append_68 : decode b_Qu_append 68 = .ok (.dup, 1) := by decide +kernel
theorem d_Qu_append_69 : decode b_Qu_append 69 = .ok (.getfield 64, 3) := by decide +kernel
theorem d_Qu_append_72 : decode b_Qu_append 72 = .ok (.iconst 1, 1) := by decide +kernel
theorem d_Qu_append_73 : decode b_Qu_append 73 = .ok (.iadd, 1) := by decide +kernel
theorem d_Qu_append_74 : decode b_Qu_append 74 = .ok (.putfield 64, 3) := by decide +kernel
theorem d_Qu_append_77 : decode b_Qu_append 77 = .ok (.aload_n 0, 1) := by decide +kernel
theorem d_Qu_append_78 : decode b_Qu_append 78 = .ok (.getfield 64, 3) := by decide +kernel
theorem d_Qu_append_81 : decode b_Qu_append 81 = .ok (.ireturn, 1) := by decide +kernel
theorem d_It_init_0 : decode b_It_init 0 = .ok (.aload_n 0, 1) := by decide +kernel
theorem d_It_init_1 : decode b_It_init 1 = .ok (.invokespecial 1, 3) := by decide +kernel
theorem d_It_init_4 : decode b_It_init 4 = .ok (.aload_n 0, 1) := by decide +kernel
theorem d_It_init_5 : decode b_It_init 5 = .ok (.lload_n 1, 1) := by decide +kernel
theorem d_It_init_6 : decode b_It_init 6 = .ok (.putfield 7, 3) := by decide +kernel
theorem d_It_init_9 : decode b_It_init 9 = .ok (.return_, 1) := by decide +kernel
theorem d_Qu_isProtectedKind_0 : decode b_Qu_isProtectedKind 0 = .ok (.iload_n 0, 1) := by decide +kernel
theorem d_Qu_isProtectedKind_1 : decode b_Qu_isProtectedKind 1 = .ok (.iconst 1, 1) := by decide +kernel
theorem d_Qu_isProtectedKind_2 : decode b_Qu_isProtectedKind 2 = .ok (.if_icmp .eq 8, 3) := by decide +kernel
theorem d_Qu_isProtectedKind_5 : decode b_Qu_isProtectedKind 5 = .ok (.iload_n 0, 1) := by decide +kernel
theorem d_Qu_isProtectedKind_6 : decode b_Qu_isProtectedKind 6 = .ok (.iconst 3, 1) := by decide +kernel
theorem d_Qu_isProtectedKind_7 : decode b_Qu_isProtectedKind 7 = .ok (.if_icmp .ne 7, 3) := by decide +kernel
theorem d_Qu_isProtectedKind_10 : decode b_Qu_isProtectedKind 10 = .ok (.iconst 1, 1) := by decide +kernel
theorem d_Qu_isProtectedKind_11 : decode b_Qu_isProtectedKind 11 = .ok (.goto 4, 3) := by decide +kernel
theorem d_Qu_isProtectedKind_14 : decode b_Qu_isProtectedKind 14 = .ok (.iconst 0, 1) := by decide +kernel
theorem d_Qu_isProtectedKind_15 : decode b_Qu_isProtectedKind 15 = .ok (.ireturn, 1) := by decide +kernel
theorem d_Qu_isTransient_0 : decode b_Qu_isTransient 0 = .ok (.aload_n 0, 1) := by decide +kernel
theorem d_Qu_isTransient_1 : decode b_Qu_isTransient 1 = .ok (.getfield 22, 3) := by decide +kernel
theorem d_Qu_isTransient_4 : decode b_Qu_isTransient 4 = .ok (.iconst (-1), 1) := by decide +kernel
theorem d_Qu_isTransient_5 : decode b_Qu_isTransient 5 = .ok (.if_icmp .eq 17, 3) := by decide +kernel
theorem d_Qu_isTransient_8 : decode b_Qu_isTransient 8 = .ok (.aload_n 0, 1) := by decide +kernel
theorem d_Qu_isTransient_9 : decode b_Qu_isTransient 9 = .ok (.getfield 22, 3) := by decide +kernel
theorem d_Qu_isTransient_12 : decode b_Qu_isTransient 12 = .ok (.invokestatic 26, 3) := by decide +kernel
theorem d_Qu_isTransient_15 : decode b_Qu_isTransient 15 = .ok (.ifCond .eq 7, 3) := by decide +kernel
theorem d_Qu_isTransient_18 : decode b_Qu_isTransient 18 = .ok (.iconst 1, 1) := by decide +kernel
theorem d_Qu_isTransient_19 : decode b_Qu_isTransient 19 = .ok (.goto 4, 3) := by decide +kernel
theorem d_Qu_isTransient_22 : decode b_Qu_isTransient 22 = .ok (.iconst 0, 1) := by decide +kernel
theorem d_Qu_isTransient_23 : decode b_Qu_isTransient 23 = .ok (.ireturn, 1) := by decide +kernel
theorem d_Qu_standing_0 : decode b_Qu_standing 0 = .ok (.aload_n 0, 1) := by decide +kernel
theorem d_Qu_standing_1 : decode b_Qu_standing 1 = .ok (.getfield 12, 3) := by decide +kernel
theorem d_Qu_standing_4 : decode b_Qu_standing 4 = .ok (.invokevirtual 33, 3) := by decide +kernel
theorem d_Qu_standing_7 : decode b_Qu_standing 7 = .ok (.aload_n 0, 1) := by decide +kernel
theorem d_Qu_standing_8 : decode b_Qu_standing 8 = .ok (.getfield 30, 3) := by decide +kernel
theorem d_Qu_standing_11 : decode b_Qu_standing 11 = .ok (.isub, 1) := by decide +kernel
theorem d_Qu_standing_12 : decode b_Qu_standing 12 = .ok (.ireturn, 1) := by decide +kernel
theorem d_Ta_init_0 : decode b_Ta_init 0 = .ok (.aload_n 0, 1) := by decide +kernel
theorem d_Ta_init_1 : decode b_Ta_init 1 = .ok (.invokespecial 1, 3) := by decide +kernel
theorem d_Ta_init_4 : decode b_Ta_init 4 = .ok (.aload_n 0, 1) := by decide +kernel
theorem d_Ta_init_5 : decode b_Ta_init 5 = .ok (.iload_n 1, 1) := by decide +kernel
theorem d_Ta_init_6 : decode b_Ta_init 6 = .ok (.putfield 7, 3) := by decide +kernel
theorem d_Ta_init_9 : decode b_Ta_init 9 = .ok (.aload_n 0, 1) := by decide +kernel
theorem d_Ta_init_10 : decode b_Ta_init 10 = .ok (.iconst 1, 1) := by decide +kernel
theorem d_Ta_init_11 : decode b_Ta_init 11 = .ok (.putfield 13, 3) := by decide +kernel
theorem d_Ta_init_14 : decode b_Ta_init 14 = .ok (.return_, 1) := by decide +kernel
theorem d_Qu_holds_0 : decode b_Qu_holds 0 = .ok (.iload_n 1, 1) := by decide +kernel
theorem d_Qu_holds_1 : decode b_Qu_holds 1 = .ok (.iconst 1, 1) := by decide +kernel
theorem d_Qu_holds_2 : decode b_Qu_holds 2 = .ok (.if_icmp .lt 18, 3) := by decide +kernel
theorem d_Qu_holds_5 : decode b_Qu_holds 5 = .ok (.iload_n 1, 1) := by decide +kernel
theorem d_Qu_holds_6 : decode b_Qu_holds 6 = .ok (.aload_n 0, 1) := by decide +kernel
theorem d_Qu_holds_7 : decode b_Qu_holds 7 = .ok (.getfield 12, 3) := by decide +kernel
theorem d_Qu_holds_10 : decode b_Qu_holds 10 = .ok (.invokevirtual 33, 3) := by decide +kernel
theorem d_Qu_holds_13 : decode b_Qu_holds 13 = .ok (.if_icmp .gt 7, 3) := by decide +kernel
theorem d_Qu_holds_16 : decode b_Qu_holds 16 = .ok (.iconst 1, 1) := by decide +kernel
theorem d_Qu_holds_17 : decode b_Qu_holds 17 = .ok (.goto 4, 3) := by decide +kernel
theorem d_Qu_holds_20 : decode b_Qu_holds 20 = .ok (.iconst 0, 1) := by decide +kernel
theorem d_Qu_holds_21 : decode b_Qu_holds 21 = .ok (.ireturn, 1) := by decide +kernel
theorem d_Qu_isTemporary_0 : decode b_Qu_isTemporary 0 = .ok (.aload_n 0, 1) := by decide +kernel
theorem d_Qu_isTemporary_1 : decode b_Qu_isTemporary 1 = .ok (.getfield 22, 3) := by decide +kernel
theorem d_Qu_isTemporary_4 : decode b_Qu_isTemporary 4 = .ok (.iconst (-1), 1) := by decide +kernel
theorem d_Qu_isTemporary_5 : decode b_Qu_isTemporary 5 = .ok (.if_icmp .eq 17, 3) := by decide +kernel
theorem d_Qu_isTemporary_8 : decode b_Qu_isTemporary 8 = .ok (.aload_n 0, 1) := by decide +kernel
theorem d_Qu_isTemporary_9 : decode b_Qu_isTemporary 9 = .ok (.getfield 22, 3) := by decide +kernel
theorem d_Qu_isTemporary_12 : decode b_Qu_isTemporary 12 = .ok (.invokestatic 26, 3) := by decide +kernel
theorem d_Qu_isTemporary_15 : decode b_Qu_isTemporary 15 = .ok (.ifCond .ne 7, 3) := by decide +kernel
theorem d_Qu_isTemporary_18 : decode b_Qu_isTemporary 18 = .ok (.iconst 1, 1) := by decide +kernel
theorem d_Qu_isTemporary_19 : decode b_Qu_isTemporary 19 = .ok (.goto 4, 3) := by decide +kernel
theorem d_Qu_isTemporary_22 : decode b_Qu_isTemporary 22 = .ok (.iconst 0, 1) := by decide +kernel
theorem d_Qu_isTemporary_23 : decode b_Qu_isTemporary 23 = .ok (.ireturn, 1) := by decide +kernel
theorem d_Qu_removeFirst_0 : decode b_Qu_removeFirst 0 = .ok (.aload_n 0, 1) := by decide +kernel
theorem d_Qu_removeFirst_1 : decode b_Qu_removeFirst 1 = .ok (.getfield 12, 3) := by decide +kernel
theorem d_Qu_removeFirst_4 : decode b_Qu_removeFirst 4 = .ok (.invokevirtual 67, 3) := by decide +kernel
theorem d_Qu_removeFirst_7 : decode b_Qu_removeFirst 7 = .ok (.ifCond .eq 6, 3) := by decide +kernel
theorem d_Qu_removeFirst_10 : decode b_Qu_removeFirst 10 = .ok (.bipush (-4), 2) := by decide +kernel
theorem d_Qu_removeFirst_12 : decode b_Qu_removeFirst 12 = .ok (.ireturn, 1) := by decide +kernel
theorem d_Qu_removeFirst_13 : decode b_Qu_removeFirst 13 = .ok (.aload_n 0, 1) := by decide +kernel
theorem d_Qu_removeFirst_14 : decode b_Qu_removeFirst 14 = .ok (.aload_n 0, 1) := by decide +kernel
theorem d_Qu_removeFirst_15 : decode b_Qu_removeFirst 15 = .ok (.getfield 64, 3) := by decide +kernel
theorem d_Qu_removeFirst_18 : decode b_Qu_removeFirst 18 = .ok (.aload_n 0, 1) := by decide +kernel
theorem d_Qu_removeFirst_19 : decode b_Qu_removeFirst 19 = .ok (.getfield 12, 3) := by decide +kernel
theorem d_Qu_removeFirst_22 : decode b_Qu_removeFirst 22 = .ok (.invokevirtual 33, 3) := by decide +kernel
theorem d_Qu_removeFirst_25 : decode b_Qu_removeFirst 25 = .ok (.isub, 1) := by decide +kernel
theorem d_Qu_removeFirst_26 : decode b_Qu_removeFirst 26 = .ok (.iconst 1, 1) := by decide +kernel
theorem d_Qu_removeFirst_27 : decode b_Qu_removeFirst 27 = .ok (.iadd, 1) := by decide +kernel
theorem d_Qu_removeFirst_28 : decode b_Qu_removeFirst 28 = .ok (.putfield 70, 3) := by decide +kernel
theorem d_Qu_removeFirst_31 : decode b_Qu_removeFirst 31 = .ok (.aload_n 0, 1) := by decide +kernel
theorem d_Qu_removeFirst_32 : decode b_Qu_removeFirst 32 = .ok (.aload_n 0, 1) := by decide +kernel
theorem d_Qu_removeFirst_33 : decode b_Qu_removeFirst 33 = .ok (.getfield 12, 3) := by decide +kernel
theorem d_Qu_removeFirst_36 : decode b_Qu_removeFirst 36 = .ok (.iconst 0, 1) := by decide +kernel
theorem d_Qu_removeFirst_37 : decode b_Qu_removeFirst 37 = .ok (.invokevirtual 73, 3) := by decide +kernel
theorem d_Qu_removeFirst_40 : decode b_Qu_removeFirst 40 = .ok (.checkcast 45, 3) := by decide +kernel
theorem d_Qu_removeFirst_43 : decode b_Qu_removeFirst 43 = .ok (.getfield 77, 3) := by decide +kernel
theorem d_Qu_removeFirst_46 : decode b_Qu_removeFirst 46 = .ok (.putfield 80, 3) := by decide +kernel
theorem d_Qu_removeFirst_49 : decode b_Qu_removeFirst 49 = .ok (.aload_n 0, 1) := by decide +kernel
theorem d_Qu_removeFirst_50 : decode b_Qu_removeFirst 50 = .ok (.getfield 12, 3) := by decide +kernel
theorem d_Qu_removeFirst_53 : decode b_Qu_removeFirst 53 = .ok (.iconst 0, 1) := by decide +kernel
theorem d_Qu_removeFirst_54 : decode b_Qu_removeFirst 54 = .ok (.invokevirtual 83, 3) := by decide +kernel
theorem d_Qu_removeFirst_57 : decode b_Qu_removeFirst 57 = .ok (.pop, 1) := by decide +kernel
theorem d_Qu_removeFirst_58 : decode b_Qu_removeFirst 58 = .ok (.aload_n 0, 1) := by decide +kernel
theorem d_Qu_removeFirst_59 : decode b_Qu_removeFirst 59 = .ok (.getfield 37, 3) := by decide +kernel
theorem d_Qu_removeFirst_62 : decode b_Qu_removeFirst 62 = .ok (.ifnull 11, 3) := by decide +kernel
theorem d_Qu_removeFirst_65 : decode b_Qu_removeFirst 65 = .ok (.aload_n 0, 1) := by decide +kernel
theorem d_Qu_removeFirst_66 : decode b_Qu_removeFirst 66 = .ok (.getfield 37, 3) := by decide +kernel
theorem d_Qu_removeFirst_69 : decode b_Qu_removeFirst 69 = .ok (.iconst 1, 1) := by decide +kernel
theorem d_Qu_removeFirst_70 : decode b_Qu_removeFirst 70 = .ok (.putfield 86, 3) := by decide +kernel
theorem d_Qu_removeFirst_73 : decode b_Qu_removeFirst 73 = .ok (.aload_n 0, 1) := by decide +kernel
theorem d_Qu_removeFirst_74 : decode b_Qu_removeFirst 74 = .ok (.getfield 12, 3) := by decide +kernel
theorem d_Qu_removeFirst_77 : decode b_Qu_removeFirst 77 = .ok (.invokevirtual 67, 3) := by decide +kernel
theorem d_Qu_removeFirst_80 : decode b_Qu_removeFirst 80 = .ok (.ifCond .eq 7, 3) := by decide +kernel
theorem d_Qu_removeFirst_83 : decode b_Qu_removeFirst 83 = .ok (.aload_n 0, 1) := by decide +kernel
theorem d_Qu_removeFirst_84 : decode b_Qu_removeFirst 84 = .ok (.invokevirtual 92, 3) := by decide +kernel
theorem d_Qu_removeFirst_87 : decode b_Qu_removeFirst 87 = .ok (.aload_n 0, 1) := by decide +kernel
theorem d_Qu_removeFirst_88 : decode b_Qu_removeFirst 88 = .ok (.getfield 70, 3) := by decide +kernel
theorem d_Qu_removeFirst_91 : decode b_Qu_removeFirst 91 = .ok (.ireturn, 1) := by decide +kernel
theorem d_Qu_becomeEmpty_0 : decode b_Qu_becomeEmpty 0 = .ok (.aload_n 0, 1) := by decide +kernel
theorem d_Qu_becomeEmpty_1 : decode b_Qu_becomeEmpty 1 = .ok (.getfield 12, 3) := by decide +kernel
theorem d_Qu_becomeEmpty_4 : decode b_Qu_becomeEmpty 4 = .ok (.invokevirtual 99, 3) := by decide +kernel
theorem d_Qu_becomeEmpty_7 : decode b_Qu_becomeEmpty 7 = .ok (.aload_n 0, 1) := by decide +kernel
theorem d_Qu_becomeEmpty_8 : decode b_Qu_becomeEmpty 8 = .ok (.getfield 18, 3) := by decide +kernel
theorem d_Qu_becomeEmpty_11 : decode b_Qu_becomeEmpty 11 = .ok (.iconst 0, 1) := by decide +kernel
theorem d_Qu_becomeEmpty_12 : decode b_Qu_becomeEmpty 12 = .ok (.invokestatic 102, 3) := by decide +kernel
theorem d_Qu_becomeEmpty_15 : decode b_Qu_becomeEmpty 15 = .ok (.aload_n 0, 1) := by decide +kernel
theorem d_Qu_becomeEmpty_16 : decode b_Qu_becomeEmpty 16 = .ok (.iconst (-1), 1) := by decide +kernel
theorem d_Qu_becomeEmpty_17 : decode b_Qu_becomeEmpty 17 = .ok (.putfield 22, 3) := by decide +kernel
theorem d_Qu_becomeEmpty_20 : decode b_Qu_becomeEmpty 20 = .ok (.return_, 1) := by decide +kernel
theorem d_Tr_init_0 : decode b_Tr_init 0 = .ok (.aload_n 0, 1) := by decide +kernel
theorem d_Tr_init_1 : decode b_Tr_init 1 = .ok (.invokespecial 1, 3) := by decide +kernel
theorem d_Tr_init_4 : decode b_Tr_init 4 = .ok (.aload_n 0, 1) := by decide +kernel
theorem d_Tr_init_5 : decode b_Tr_init 5 = .ok (.iload_n 1, 1) := by decide +kernel
theorem d_Tr_init_6 : decode b_Tr_init 6 = .ok (.putfield 7, 3) := by decide +kernel
theorem d_Tr_init_9 : decode b_Tr_init 9 = .ok (.aload_n 0, 1) := by decide +kernel
theorem d_Tr_init_10 : decode b_Tr_init 10 = .ok (.iload_n 2, 1) := by decide +kernel
theorem d_Tr_init_11 : decode b_Tr_init 11 = .ok (.putfield 13, 3) := by decide +kernel
theorem d_Tr_init_14 : decode b_Tr_init 14 = .ok (.aload_n 0, 1) := by decide +kernel
theorem d_Tr_init_15 : decode b_Tr_init 15 = .ok (.iconst 1, 1) := by decide +kernel
theorem d_Tr_init_16 : decode b_Tr_init 16 = .ok (.putfield 16, 3) := by decide +kernel
theorem d_Tr_init_19 : decode b_Tr_init 19 = .ok (.return_, 1) := by decide +kernel
theorem d_De_init_0 : decode b_De_init 0 = .ok (.aload_n 0, 1) := by decide +kernel
theorem d_De_init_1 : decode b_De_init 1 = .ok (.invokespecial 1, 3) := by decide +kernel
theorem d_De_init_4 : decode b_De_init 4 = .ok (.aload_n 0, 1) := by decide +kernel
theorem d_De_init_5 : decode b_De_init 5 = .ok (.iload_n 1, 1) := by decide +kernel
theorem d_De_init_6 : decode b_De_init 6 = .ok (.putfield 7, 3) := by decide +kernel
theorem d_De_init_9 : decode b_De_init 9 = .ok (.aload_n 0, 1) := by decide +kernel
theorem d_De_init_10 : decode b_De_init 10 = .ok (.iload_n 2, 1) := by decide +kernel
theorem d_De_init_11 : decode b_De_init 11 = .ok (.putfield 13, 3) := by decide +kernel
theorem d_De_init_14 : decode b_De_init 14 = .ok (.aload_n 0, 1) := by decide +kernel
theorem d_De_init_15 : decode b_De_init 15 = .ok (.lload_n 3, 1) := by decide +kernel
theorem d_De_init_16 : decode b_De_init 16 = .ok (.putfield 16, 3) := by decide +kernel
theorem d_De_init_19 : decode b_De_init 19 = .ok (.return_, 1) := by decide +kernel
theorem d_Qu_endPending_0 : decode b_Qu_endPending 0 = .ok (.aload_n 0, 1) := by decide +kernel
theorem d_Qu_endPending_1 : decode b_Qu_endPending 1 = .ok (.getfield 30, 3) := by decide +kernel
theorem d_Qu_endPending_4 : decode b_Qu_endPending 4 = .ok (.istore_n 2, 1) := by decide +kernel
theorem d_Qu_endPending_5 : decode b_Qu_endPending 5 = .ok (.aload_n 0, 1) := by decide +kernel
theorem d_Qu_endPending_6 : decode b_Qu_endPending 6 = .ok (.iconst 0, 1) := by decide +kernel
theorem d_Qu_endPending_7 : decode b_Qu_endPending 7 = .ok (.putfield 30, 3) := by decide +kernel
theorem d_Qu_endPending_10 : decode b_Qu_endPending 10 = .ok (.iload_n 1, 1) := by decide +kernel
theorem d_Qu_endPending_11 : decode b_Qu_endPending 11 = .ok (.ifCond .ne 8, 3) := by decide +kernel
theorem d_Qu_endPending_14 : decode b_Qu_endPending 14 = .ok (.aload_n 0, 1) := by decide +kernel
theorem d_Qu_endPending_15 : decode b_Qu_endPending 15 = .ok (.iload_n 2, 1) := by decide +kernel
theorem d_Qu_endPending_16 : decode b_Qu_endPending 16 = .ok (.invokevirtual 95, 3) := by decide +kernel
theorem d_Qu_endPending_19 : decode b_Qu_endPending 19 = .ok (.iload_n 2, 1) := by decide +kernel
theorem d_Qu_endPending_20 : decode b_Qu_endPending 20 = .ok (.ireturn, 1) := by decide +kernel
theorem d_Qu_dropLast_0 : decode b_Qu_dropLast 0 = .ok (.aload_n 0, 1) := by decide +kernel
theorem d_Qu_dropLast_1 : decode b_Qu_dropLast 1 = .ok (.invokevirtual 60, 3) := by decide +kernel
theorem d_Qu_dropLast_4 : decode b_Qu_dropLast 4 = .ok (.ifCond .eq 13, 3) := by decide +kernel
theorem d_Qu_dropLast_7 : decode b_Qu_dropLast 7 = .ok (.aload_n 0, 1) := by decide +kernel
theorem d_Qu_dropLast_8 : decode b_Qu_dropLast 8 = .ok (.dup, 1) := by decide +kernel
theorem d_Qu_dropLast_9 : decode b_Qu_dropLast 9 = .ok (.getfield 64, 3) := by decide +kernel
theorem d_Qu_dropLast_12 : decode b_Qu_dropLast 12 = .ok (.iload_n 1, 1) := by decide +kernel
theorem d_Qu_dropLast_13 : decode b_Qu_dropLast 13 = .ok (.isub, 1) := by decide +kernel
theorem d_Qu_dropLast_14 : decode b_Qu_dropLast 14 = .ok (.putfield 64, 3) := by decide +kernel
theorem d_Qu_dropLast_17 : decode b_Qu_dropLast 17 = .ok (.iload_n 1, 1) := by decide +kernel
theorem d_Qu_dropLast_18 : decode b_Qu_dropLast 18 = .ok (.istore_n 2, 1) := by decide +kernel
theorem d_Qu_dropLast_19 : decode b_Qu_dropLast 19 = .ok (.iload_n 2, 1) := by decide +kernel
theorem d_Qu_dropLast_20 : decode b_Qu_dropLast 20 = .ok (.ifCond .le 36, 3) := by decide +kernel
theorem d_Qu_dropLast_23 : decode b_Qu_dropLast 23 = .ok (.aload_n 0, 1) := by decide +kernel
theorem d_Qu_dropLast_24 : decode b_Qu_dropLast 24 = .ok (.getfield 12, 3) := by decide +kernel
theorem d_Qu_dropLast_27 : decode b_Qu_dropLast 27 = .ok (.invokevirtual 67, 3) := by decide +kernel
theorem d_Qu_dropLast_30 : decode b_Qu_dropLast 30 = .ok (.ifCond .ne 26, 3) := by decide +kernel
theorem d_Qu_dropLast_33 : decode b_Qu_dropLast 33 = .ok (.aload_n 0, 1) := by decide +kernel
theorem d_Qu_dropLast_34 : decode b_Qu_dropLast 34 = .ok (.getfield 12, 3) := by decide +kernel
theorem d_Qu_dropLast_37 : decode b_Qu_dropLast 37 = .ok (.aload_n 0, 1) := by decide +kernel
theorem d_Qu_dropLast_38 : decode b_Qu_dropLast 38 = .ok (.getfield 12, 3) := by decide +kernel
theorem d_Qu_dropLast_41 : decode b_Qu_dropLast 41 = .ok (.invokevirtual 33, 3) := by decide +kernel
theorem d_Qu_dropLast_44 : decode b_Qu_dropLast 44 = .ok (.iconst 1, 1) := by decide +kernel
theorem d_Qu_dropLast_45 : decode b_Qu_dropLast 45 = .ok (.isub, 1) := by decide +kernel
theorem d_Qu_dropLast_46 : decode b_Qu_dropLast 46 = .ok (.invokevirtual 83, 3) := by decide +kernel
theorem d_Qu_dropLast_49 : decode b_Qu_dropLast 49 = .ok (.pop, 1) := by decide +kernel
theorem d_Qu_dropLast_50 : decode b_Qu_dropLast 50 = .ok (.iinc 2 (-1), 3) := by decide +kernel
theorem d_Qu_dropLast_53 : decode b_Qu_dropLast 53 = .ok (.goto (-34), 3) := by decide +kernel
theorem d_Qu_dropLast_56 : decode b_Qu_dropLast 56 = .ok (.aload_n 0, 1) := by decide +kernel
theorem d_Qu_dropLast_57 : decode b_Qu_dropLast 57 = .ok (.getfield 12, 3) := by decide +kernel
theorem d_Qu_dropLast_60 : decode b_Qu_dropLast 60 = .ok (.invokevirtual 67, 3) := by decide +kernel
theorem d_Qu_dropLast_63 : decode b_Qu_dropLast 63 = .ok (.ifCond .eq 7, 3) := by decide +kernel
theorem d_Qu_dropLast_66 : decode b_Qu_dropLast 66 = .ok (.aload_n 0, 1) := by decide +kernel
theorem d_Qu_dropLast_67 : decode b_Qu_dropLast 67 = .ok (.invokevirtual 92, 3) := by decide +kernel
theorem d_Qu_dropLast_70 : decode b_Qu_dropLast 70 = .ok (.return_, 1) := by decide +kernel
end
section
theorem d_MQ_init_0 : decode b_MQ_init 0 = .ok (.aload_n 0, 1) := by decide +kernel
theorem d_MQ_init_1 : decode b_MQ_init 1 = .ok (.invokespecial 3, 3) := by decide +kernel
theorem d_MQ_init_4 : decode b_MQ_init 4 = .ok (.aload_n 0, 1) := by decide +kernel
theorem d_MQ_init_5 : decode b_MQ_init 5 = .ok (.iconst 1, 1) := by decide +kernel
theorem d_MQ_init_6 : decode b_MQ_init 6 = .ok (.iload_n 1, 1) := by decide +kernel
theorem d_MQ_init_7 : decode b_MQ_init 7 = .ok (.sipush 4096, 3) := by decide +kernel
theorem d_MQ_init_10 : decode b_MQ_init 10 = .ok (.invokestatic 9, 3) := by decide +kernel
theorem d_MQ_init_13 : decode b_MQ_init 13 = .ok (.invokestatic 15, 3) := by decide +kernel
theorem d_MQ_init_16 : decode b_MQ_init 16 = .ok (.putfield 18, 3) := by decide +kernel
theorem d_MQ_init_19 : decode b_MQ_init 19 = .ok (.aload_n 0, 1) := by decide +kernel
theorem d_MQ_init_20 : decode b_MQ_init 20 = .ok (.bipush 32, 2) := by decide +kernel
theorem d_MQ_init_22 : decode b_MQ_init 22 = .ok (.anewarray 22, 3) := by decide +kernel
theorem d_MQ_init_25 : decode b_MQ_init 25 = .ok (.putfield 24, 3) := by decide +kernel
theorem d_MQ_init_28 : decode b_MQ_init 28 = .ok (.iconst 0, 1) := by decide +kernel
theorem d_MQ_init_29 : decode b_MQ_init 29 = .ok (.istore_n 2, 1) := by decide +kernel
theorem d_MQ_init_30 : decode b_MQ_init 30 = .ok (.iload_n 2, 1) := by decide +kernel
theorem d_MQ_init_31 : decode b_MQ_init 31 = .ok (.bipush 32, 2) := by decide +kernel
theorem d_MQ_init_33 : decode b_MQ_init 33 = .ok (.if_icmp .ge 22, 3) := by decide +kernel
theorem d_MQ_init_36 : decode b_MQ_init 36 = .ok (.aload_n 0, 1) := by decide +kernel
theorem d_MQ_init_37 : decode b_MQ_init 37 = .ok (.getfield 24, 3) := by decide +kernel
theorem d_MQ_init_40 : decode b_MQ_init 40 = .ok (.iload_n 2, 1) := by decide +kernel
theorem d_MQ_init_41 : decode b_MQ_init 41 = .ok (.new 22, 3) := by decide +kernel
theorem d_MQ_init_44 : decode b_MQ_init 44 = .ok (.dup, 1) := by decide +kernel
theorem d_MQ_init_45 : decode b_MQ_init 45 = .ok (.invokespecial 28, 3) := by decide +kernel
theorem d_MQ_init_48 : decode b_MQ_init 48 = .ok (.aastore, 1) := by decide +kernel
theorem d_MQ_init_49 : decode b_MQ_init 49 = .ok (.iinc 2 1, 3) := by decide +kernel
theorem d_MQ_init_52 : decode b_MQ_init 52 = .ok (.goto (-22), 3) := by decide +kernel
theorem d_MQ_init_55 : decode b_MQ_init 55 = .ok (.aload_n 0, 1) := by decide +kernel
theorem d_MQ_init_56 : decode b_MQ_init 56 = .ok (.new 29, 3) := by decide +kernel
theorem d_MQ_init_59 : decode b_MQ_init 59 = .ok (.dup, 1) := by decide +kernel
theorem d_MQ_init_60 : decode b_MQ_init 60 = .ok (.invokespecial 31, 3) := by decide +kernel
theorem d_MQ_init_63 : decode b_MQ_init 63 = .ok (.putfield 32, 3) := by decide +kernel
theorem d_MQ_init_66 : decode b_MQ_init 66 = .ok (.aload_n 0, 1) := by decide +kernel
theorem d_MQ_init_67 : decode b_MQ_init 67 = .ok (.new 29, 3) := by decide +kernel
theorem d_MQ_init_70 : decode b_MQ_init 70 = .ok (.dup, 1) := by decide +kernel
theorem d_MQ_init_71 : decode b_MQ_init 71 = .ok (.invokespecial 31, 3) := by decide +kernel
theorem d_MQ_init_74 : decode b_MQ_init 74 = .ok (.putfield 36, 3) := by decide +kernel
theorem d_MQ_init_77 : decode b_MQ_init 77 = .ok (.return_, 1) := by decide +kernel
theorem d_MQ_put_0 : decode b_MQ_put 0 = .ok (.aload_n 0, 1) := by decide +kernel
theorem d_MQ_put_1 : decode b_MQ_put 1 = .ok (.iload_n 1, 1) := by decide +kernel
theorem d_MQ_put_2 : decode b_MQ_put 2 = .ok (.invokevirtual 39, 3) := by decide +kernel
theorem d_MQ_put_5 : decode b_MQ_put 5 = .ok (.ifCond .eq 24, 3) := by decide +kernel
theorem d_MQ_put_8 : decode b_MQ_put 8 = .ok (.iload_n 2, 1) := by decide +kernel
theorem d_MQ_put_9 : decode b_MQ_put 9 = .ok (.ifCond .lt 20, 3) := by decide +kernel
theorem d_MQ_put_12 : decode b_MQ_put 12 = .ok (.iload_n 2, 1) := by decide +kernel
theorem d_MQ_put_13 : decode b_MQ_put 13 = .ok (.iconst 4, 1) := by decide +kernel
theorem d_MQ_put_14 : decode b_MQ_put 14 = .ok (.if_icmp .ge 15, 3) := by decide +kernel
theorem d_MQ_put_17 : decode b_MQ_put 17 = .ok (.iload 5, 2) := by decide +kernel
theorem d_MQ_put_19 : decode b_MQ_put 19 = .ok (.ifCond .lt 10, 3) := by decide +kernel
theorem d_MQ_put_22 : decode b_MQ_put 22 = .ok (.iload 5, 2) := by decide +kernel
theorem d_MQ_put_24 : decode b_MQ_put 24 = .ok (.bipush 9, 2) := by decide +kernel
theorem d_MQ_put_26 : decode b_MQ_put 26 = .ok (.if_icmp .le 6, 3) := by decide +kernel
theorem d_MQ_put_29 : decode b_MQ_put 29 = .ok (.bipush (-2), 2) := by decide +kernel
theorem d_MQ_put_31 : decode b_MQ_put 31 = .ok (.ireturn, 1) := by decide +kernel
theorem d_MQ_put_32 : decode b_MQ_put 32 = .ok (.aload_n 0, 1) := by decide +kernel
theorem d_MQ_put_33 : decode b_MQ_put 33 = .ok (.getfield 24, 3) := by decide +kernel
theorem d_MQ_put_36 : decode b_MQ_put 36 = .ok (.iload_n 1, 1) := by decide +kernel
theorem d_MQ_put_37 : decode b_MQ_put 37 = .ok (.aaload, 1) := by decide +kernel
theorem d_MQ_put_38 : decode b_MQ_put 38 = .ok (.astore 6, 2) := by decide +kernel
theorem d_MQ_put_40 : decode b_MQ_put 40 = .ok (.aload 6, 2) := by decide +kernel
theorem d_MQ_put_42 : decode b_MQ_put 42 = .ok (.iload_n 2, 1) := by decide +kernel
theorem d_MQ_put_43 : decode b_MQ_put 43 = .ok (.invokevirtual 43, 3) := by decide +kernel
theorem d_MQ_put_46 : decode b_MQ_put 46 = .ok (.ifCond .ne 6, 3) := by decide +kernel
theorem d_MQ_put_49 : decode b_MQ_put 49 = .ok (.bipush (-3), 2) := by decide +kernel
theorem d_MQ_put_51 : decode b_MQ_put 51 = .ok (.ireturn, 1) := by decide +kernel
theorem d_MQ_put_52 : decode b_MQ_put 52 = .ok (.aload 6, 2) := by decide +kernel
theorem d_MQ_put_54 : decode b_MQ_put 54 = .ok (.invokevirtual 46, 3) := by decide +kernel
theorem d_MQ_put_57 : decode b_MQ_put 57 = .ok (.ifCond .eq 16, 3) := by decide +kernel
theorem d_MQ_put_60 : decode b_MQ_put 60 = .ok (.aload 6, 2) := by decide +kernel
theorem d_MQ_put_62 : decode b_MQ_put 62 = .ok (.getfield 50, 3) := by decide +kernel
theorem d_MQ_put_65 : decode b_MQ_put 65 = .ok (.iload 5, 2) := by decide +kernel
theorem d_MQ_put_67 : decode b_MQ_put 67 = .ok (.if_icmp .eq 6, 3) := by decide +kernel
theorem d_MQ_put_70 : decode b_MQ_put 70 = .ok (.bipush (-5), 2) := by decide +kernel
theorem d_MQ_put_72 : decode b_MQ_put 72 = .ok (.ireturn, 1) := by decide +kernel
theorem d_MQ_put_73 : decode b_MQ_put 73 = .ok (.aload_n 0, 1) := by decide +kernel
theorem d_MQ_put_74 : decode b_MQ_put 74 = .ok (.invokevirtual 53, 3) := by decide +kernel
theorem d_MQ_put_77 : decode b_MQ_put 77 = .ok (.aload_n 0, 1) := by decide +kernel
theorem d_MQ_put_78 : decode b_MQ_put 78 = .ok (.getfield 18, 3) := by decide +kernel
theorem d_MQ_put_81 : decode b_MQ_put 81 = .ok (.if_icmp .lt 5, 3) := by decide +kernel
theorem d_MQ_put_84 : decode b_MQ_put 84 = .ok (.iconst (-1), 1) := by decide +kernel
theorem d_MQ_put_85 : decode b_MQ_put 85 = .ok (.ireturn, 1) := by decide +kernel
theorem d_MQ_put_86 : decode b_MQ_put 86 = .ok (.aload 6, 2) := by decide +kernel
theorem d_MQ_put_88 : decode b_MQ_put 88 = .ok (.aload_n 0, 1) := by decide +kernel
theorem d_MQ_put_89 : decode b_MQ_put 89 = .ok (.getfield 57, 3) := by decide +kernel
theorem d_MQ_put_92 : decode b_MQ_put 92 = .ok (.invokevirtual 61, 3) := by decide +kernel
theorem d_MQ_put_95 : decode b_MQ_put 95 = .ok (.aload 6, 2) := by decide +kernel
theorem d_MQ_put_97 : decode b_MQ_put 97 = .ok (.iload_n 2, 1) := by decide +kernel
theorem d_MQ_put_98 : decode b_MQ_put 98 = .ok (.lload_n 3, 1) := by decide +kernel
theorem d_MQ_put_99 : decode b_MQ_put 99 = .ok (.iload 5, 2) := by decide +kernel
theorem d_MQ_put_101 : decode b_MQ_put 101 = .ok (.invokevirtual 65, 3) := by decide +kernel
theorem d_MQ_put_104 : decode b_MQ_put 104 = .ok (.istore 7, 2) := by decide +kernel
theorem d_MQ_put_106 : decode b_MQ_put 106 = .ok (.aload_n 0, 1) := by decide +kernel
theorem d_MQ_put_107 : decode b_MQ_put 107 = .ok (.invokevirtual 69, 3) := by decide +kernel
theorem d_MQ_put_110 : decode b_MQ_put 110 = .ok (.iload 7, 2) := by decide +kernel
theorem d_MQ_put_112 : decode b_MQ_put 112 = .ok (.ireturn, 1) := by decide +kernel
theorem d_MQ_isQueue_0 : decode b_MQ_isQueue 0 = .ok (.iload_n 1, 1) := by decide +kernel
theorem d_MQ_isQueue_1 : decode b_MQ_isQueue 1 = .ok (.ifCond .lt 16, 3) := by decide +kernel
theorem d_MQ_isQueue_4 : decode b_MQ_isQueue 4 = .ok (.iload_n 1, 1) := by decide +kernel
theorem d_MQ_isQueue_5 : decode b_MQ_isQueue 5 = .ok (.aload_n 0, 1) := by decide +kernel
theorem d_MQ_isQueue_6 : decode b_MQ_isQueue 6 = .ok (.getfield 24, 3) := by decide +kernel
theorem d_MQ_isQueue_9 : decode b_MQ_isQueue 9 = .ok (.arraylength, 1) := by decide +kernel
theorem d_MQ_isQueue_10 : decode b_MQ_isQueue 10 = .ok (.if_icmp .ge 7, 3) := by decide +kernel
theorem d_MQ_isQueue_13 : decode b_MQ_isQueue 13 = .ok (.iconst 1, 1) := by decide +kernel
theorem d_MQ_isQueue_14 : decode b_MQ_isQueue 14 = .ok (.goto 4, 3) := by decide +kernel
theorem d_MQ_isQueue_17 : decode b_MQ_isQueue 17 = .ok (.iconst 0, 1) := by decide +kernel
theorem d_MQ_isQueue_18 : decode b_MQ_isQueue 18 = .ok (.ireturn, 1) := by decide +kernel
theorem d_MQ_allItems_0 : decode b_MQ_allItems 0 = .ok (.iconst 0, 1) := by decide +kernel
theorem d_MQ_allItems_1 : decode b_MQ_allItems 1 = .ok (.istore_n 1, 1) := by decide +kernel
theorem d_MQ_allItems_2 : decode b_MQ_allItems 2 = .ok (.iconst 0, 1) := by decide +kernel
theorem d_MQ_allItems_3 : decode b_MQ_allItems 3 = .ok (.istore_n 2, 1) := by decide +kernel
theorem d_MQ_allItems_4 : decode b_MQ_allItems 4 = .ok (.iload_n 2, 1) := by decide +kernel
theorem d_MQ_allItems_5 : decode b_MQ_allItems 5 = .ok (.aload_n 0, 1) := by decide +kernel
theorem d_MQ_allItems_6 : decode b_MQ_allItems 6 = .ok (.getfield 24, 3) := by decide +kernel
theorem d_MQ_allItems_9 : decode b_MQ_allItems 9 = .ok (.arraylength, 1) := by decide +kernel
theorem d_MQ_allItems_10 : decode b_MQ_allItems 10 = .ok (.if_icmp .ge 24, 3) := by decide +kernel
theorem d_MQ_allItems_13 : decode b_MQ_allItems 13 = .ok (.iload_n 1, 1) := by decide +kernel
theorem d_MQ_allItems_14 : decode b_MQ_allItems 14 = .ok (.aload_n 0, 1) := by decide +kernel
theorem d_MQ_allItems_15 : decode b_MQ_allItems 15 = .ok (.getfield 24, 3) := by decide +kernel
theorem d_MQ_allItems_18 : decode b_MQ_allItems 18 = .ok (.iload_n 2, 1) := by decide +kernel
theorem d_MQ_allItems_19 : decode b_MQ_allItems 19 = .ok (.aaload, 1) := by decide +kernel
theorem d_MQ_allItems_20 : decode b_MQ_allItems 20 = .ok (.getfield 87, 3) := by decide +kernel
theorem d_MQ_allItems_23 : decode b_MQ_allItems 23 = .ok (.invokevirtual 151, 3) := by decide +kernel
theorem d_MQ_allItems_26 : decode b_MQ_allItems 26 = .ok (.iadd, 1) := by decide +kernel
theorem d_MQ_allItems_27 : decode b_MQ_allItems 27 = .ok (.istore_n 1, 1) := by decide +kernel
theorem d_MQ_allItems_28 : decode b_MQ_allItems 28 = .ok (.iinc 2 1, 3) := by decide +kernel
theorem d_MQ_allItems_31 : decode b_MQ_allItems 31 = .ok (.goto (-27), 3) := by decide +kernel
theorem d_MQ_allItems_34 : decode b_MQ_allItems 34 = .ok (.iload_n 1, 1) := by decide +kernel
theorem d_MQ_allItems_35 : decode b_MQ_allItems 35 = .ok (.ireturn, 1) := by decide +kernel
theorem d_MQ_lookAtTriggers_0 : decode b_MQ_lookAtTriggers 0 = .ok (.iconst 0, 1) := by decide +kernel
theorem d_MQ_lookAtTriggers_1 : decode b_MQ_lookAtTriggers 1 = .ok (.istore_n 1, 1) := by decide +kernel
theorem d_MQ_lookAtTriggers_2 : decode b_MQ_lookAtTriggers 2 = .ok (.iload_n 1, 1) := by decide +kernel
theorem d_MQ_lookAtTriggers_3 : decode b_MQ_lookAtTriggers 3 = .ok (.aload_n 0, 1) := by decide +kernel
theorem d_MQ_lookAtTriggers_4 : decode b_MQ_lookAtTriggers 4 = .ok (.getfield 24, 3) := by decide +kernel
theorem d_MQ_lookAtTriggers_7 : decode b_MQ_lookAtTriggers 7 = .ok (.arraylength, 1) := by decide +kernel
theorem d_MQ_lookAtTriggers_8 : decode b_MQ_lookAtTriggers 8 = .ok (.if_icmp .ge 37, 3) := by decide +kernel
theorem d_MQ_lookAtTriggers_11 : decode b_MQ_lookAtTriggers 11 = .ok (.aload_n 0, 1) := by decide +kernel
theorem d_MQ_lookAtTriggers_12 : decode b_MQ_lookAtTriggers 12 = .ok (.getfield 24, 3) := by decide +kernel
theorem d_MQ_lookAtTriggers_15 : decode b_MQ_lookAtTriggers 15 = .ok (.iload_n 1, 1) := by decide +kernel
theorem d_MQ_lookAtTriggers_16 : decode b_MQ_lookAtTriggers 16 = .ok (.aaload, 1) := by decide +kernel
theorem d_MQ_lookAtTriggers_17 : decode b_MQ_lookAtTriggers 17 = .ok (.getfield 128, 3) := by decide +kernel
theorem d_MQ_lookAtTriggers_20 : decode b_MQ_lookAtTriggers 20 = .ok (.astore_n 2, 1) := by decide +kernel
theorem d_MQ_lookAtTriggers_21 : decode b_MQ_lookAtTriggers 21 = .ok (.aload_n 2, 1) := by decide +kernel
theorem d_MQ_lookAtTriggers_22 : decode b_MQ_lookAtTriggers 22 = .ok (.ifnull 17, 3) := by decide +kernel
theorem d_MQ_lookAtTriggers_25 : decode b_MQ_lookAtTriggers 25 = .ok (.aload_n 0, 1) := by decide +kernel
theorem d_MQ_lookAtTriggers_26 : decode b_MQ_lookAtTriggers 26 = .ok (.aload_n 2, 1) := by decide +kernel
theorem d_MQ_lookAtTriggers_27 : decode b_MQ_lookAtTriggers 27 = .ok (.aload_n 0, 1) := by decide +kernel
theorem d_MQ_lookAtTriggers_28 : decode b_MQ_lookAtTriggers 28 = .ok (.getfield 24, 3) := by decide +kernel
theorem d_MQ_lookAtTriggers_31 : decode b_MQ_lookAtTriggers 31 = .ok (.iload_n 1, 1) := by decide +kernel
theorem d_MQ_lookAtTriggers_32 : decode b_MQ_lookAtTriggers 32 = .ok (.aaload, 1) := by decide +kernel
theorem d_MQ_lookAtTriggers_33 : decode b_MQ_lookAtTriggers 33 = .ok (.invokevirtual 117, 3) := by decide +kernel
theorem d_MQ_lookAtTriggers_36 : decode b_MQ_lookAtTriggers 36 = .ok (.invokevirtual 205, 3) := by decide +kernel
theorem d_MQ_lookAtTriggers_39 : decode b_MQ_lookAtTriggers 39 = .ok (.iinc 1 1, 3) := by decide +kernel
theorem d_MQ_lookAtTriggers_42 : decode b_MQ_lookAtTriggers 42 = .ok (.goto (-40), 3) := by decide +kernel
theorem d_MQ_lookAtTriggers_45 : decode b_MQ_lookAtTriggers 45 = .ok (.return_, 1) := by decide +kernel
theorem d_MQ_look_0 : decode b_MQ_look 0 = .ok (.iload_n 2, 1) := by decide +kernel
theorem d_MQ_look_1 : decode b_MQ_look 1 = .ok (.aload_n 1, 1) := by decide +kernel
theorem d_MQ_look_2 : decode b_MQ_look 2 = .ok (.getfield 209, 3) := by decide +kernel
theorem d_MQ_look_5 : decode b_MQ_look 5 = .ok (.if_icmp .ge 11, 3) := by decide +kernel
theorem d_MQ_look_8 : decode b_MQ_look 8 = .ok (.aload_n 1, 1) := by decide +kernel
theorem d_MQ_look_9 : decode b_MQ_look 9 = .ok (.iconst 1, 1) := by decide +kernel
theorem d_MQ_look_10 : decode b_MQ_look 10 = .ok (.putfield 212, 3) := by decide +kernel
theorem d_MQ_look_13 : decode b_MQ_look 13 = .ok (.goto 28, 3) := by decide +kernel
theorem d_MQ_look_16 : decode b_MQ_look 16 = .ok (.aload_n 1, 1) := by decide +kernel
theorem d_MQ_look_17 : decode b_MQ_look 17 = .ok (.getfield 212, 3) := by decide +kernel
theorem d_MQ_look_20 : decode b_MQ_look 20 = .ok (.ifCond .eq 21, 3) := by decide +kernel
theorem d_MQ_look_23 : decode b_MQ_look 23 = .ok (.aload_n 1, 1) := by decide +kernel
theorem d_MQ_look_24 : decode b_MQ_look 24 = .ok (.getfield 199, 3) := by decide +kernel
theorem d_MQ_look_27 : decode b_MQ_look 27 = .ok (.ifCond .ne 14, 3) := by decide +kernel
theorem d_MQ_look_30 : decode b_MQ_look 30 = .ok (.aload_n 0, 1) := by decide +kernel
theorem d_MQ_look_31 : decode b_MQ_look 31 = .ok (.aload_n 1, 1) := by decide +kernel
theorem d_MQ_look_32 : decode b_MQ_look 32 = .ok (.invokevirtual 215, 3) := by decide +kernel
theorem d_MQ_look_35 : decode b_MQ_look 35 = .ok (.pop, 1) := by decide +kernel
theorem d_MQ_look_36 : decode b_MQ_look 36 = .ok (.aload_n 1, 1) := by decide +kernel
theorem d_MQ_look_37 : decode b_MQ_look 37 = .ok (.iconst 0, 1) := by decide +kernel
theorem d_MQ_look_38 : decode b_MQ_look 38 = .ok (.putfield 212, 3) := by decide +kernel
theorem d_MQ_look_41 : decode b_MQ_look 41 = .ok (.return_, 1) := by decide +kernel
theorem d_MQ_beginFor_0 : decode b_MQ_beginFor 0 = .ok (.aload_n 1, 1) := by decide +kernel
theorem d_MQ_beginFor_1 : decode b_MQ_beginFor 1 = .ok (.aload_n 0, 1) := by decide +kernel
theorem d_MQ_beginFor_2 : decode b_MQ_beginFor 2 = .ok (.aload_n 1, 1) := by decide +kernel
theorem d_MQ_beginFor_3 : decode b_MQ_beginFor 3 = .ok (.getfield 195, 3) := by decide +kernel
theorem d_MQ_beginFor_6 : decode b_MQ_beginFor 6 = .ok (.invokevirtual 196, 3) := by decide +kernel
theorem d_MQ_beginFor_9 : decode b_MQ_beginFor 9 = .ok (.putfield 199, 3) := by decide +kernel
theorem d_MQ_beginFor_12 : decode b_MQ_beginFor 12 = .ok (.aload_n 1, 1) := by decide +kernel
theorem d_MQ_beginFor_13 : decode b_MQ_beginFor 13 = .ok (.iconst 0, 1) := by decide +kernel
theorem d_MQ_beginFor_14 : decode b_MQ_beginFor 14 = .ok (.putfield 202, 3) := by decide +kernel
theorem d_MQ_beginFor_17 : decode b_MQ_beginFor 17 = .ok (.aload_n 1, 1) := by decide +kernel
theorem d_MQ_beginFor_18 : decode b_MQ_beginFor 18 = .ok (.getfield 199, 3) := by decide +kernel
theorem d_MQ_beginFor_21 : decode b_MQ_beginFor 21 = .ok (.ireturn, 1) := by decide +kernel
theorem d_MQ_begin_0 : decode b_MQ_begin 0 = .ok (.aload_n 0, 1) := by decide +kernel
theorem d_MQ_begin_1 : decode b_MQ_begin 1 = .ok (.getfield 32, 3) := by decide +kernel
theorem d_MQ_begin_4 : decode b_MQ_begin 4 = .ok (.new 135, 3) := by decide +kernel
theorem d_MQ_begin_7 : decode b_MQ_begin 7 = .ok (.dup, 1) := by decide +kernel
theorem d_MQ_begin_8 : decode b_MQ_begin 8 = .ok (.iload_n 1, 1) := by decide +kernel
theorem d_MQ_begin_9 : decode b_MQ_begin 9 = .ok (.invokespecial 188, 3) := by decide +kernel
theorem d_MQ_begin_12 : decode b_MQ_begin 12 = .ok (.invokevirtual 191, 3) := by decide +kernel
theorem d_MQ_begin_15 : decode b_MQ_begin 15 = .ok (.pop, 1) := by decide +kernel
theorem d_MQ_begin_16 : decode b_MQ_begin 16 = .ok (.aload_n 0, 1) := by decide +kernel
theorem d_MQ_begin_17 : decode b_MQ_begin 17 = .ok (.dup, 1) := by decide +kernel
theorem d_MQ_begin_18 : decode b_MQ_begin 18 = .ok (.getfield 144, 3) := by decide +kernel
theorem d_MQ_begin_21 : decode b_MQ_begin 21 = .ok (.iconst 1, 1) := by decide +kernel
theorem d_MQ_begin_22 : decode b_MQ_begin 22 = .ok (.iadd, 1) := by decide +kernel
theorem d_MQ_begin_23 : decode b_MQ_begin 23 = .ok (.putfield 144, 3) := by decide +kernel
theorem d_MQ_begin_26 : decode b_MQ_begin 26 = .ok (.aload_n 0, 1) := by decide +kernel
theorem d_MQ_begin_27 : decode b_MQ_begin 27 = .ok (.getfield 32, 3) := by decide +kernel
theorem d_MQ_begin_30 : decode b_MQ_begin 30 = .ok (.invokevirtual 151, 3) := by decide +kernel
theorem d_MQ_begin_33 : decode b_MQ_begin 33 = .ok (.ireturn, 1) := by decide +kernel
theorem d_MQ_next_0 : decode b_MQ_next 0 = .ok (.aload_n 0, 1) := by decide +kernel
theorem d_MQ_next_1 : decode b_MQ_next 1 = .ok (.iload_n 1, 1) := by decide +kernel
theorem d_MQ_next_2 : decode b_MQ_next 2 = .ok (.invokevirtual 39, 3) := by decide +kernel
theorem d_MQ_next_5 : decode b_MQ_next 5 = .ok (.ifCond .eq 13, 3) := by decide +kernel
theorem d_MQ_next_8 : decode b_MQ_next 8 = .ok (.iload_n 2, 1) := by decide +kernel
theorem d_MQ_next_9 : decode b_MQ_next 9 = .ok (.ifCond .lt 9, 3) := by decide +kernel
theorem d_MQ_next_12 : decode b_MQ_next 12 = .ok (.iload_n 2, 1) := by decide +kernel
theorem d_MQ_next_13 : decode b_MQ_next 13 = .ok (.bipush 8, 2) := by decide +kernel
theorem d_MQ_next_15 : decode b_MQ_next 15 = .ok (.if_icmp .lt 6, 3) := by decide +kernel
theorem d_MQ_next_18 : decode b_MQ_next 18 = .ok (.bipush (-2), 2) := by decide +kernel
theorem d_MQ_next_20 : decode b_MQ_next 20 = .ok (.ireturn, 1) := by decide +kernel
theorem d_MQ_next_21 : decode b_MQ_next 21 = .ok (.aload_n 0, 1) := by decide +kernel
theorem d_MQ_next_22 : decode b_MQ_next 22 = .ok (.getfield 24, 3) := by decide +kernel
theorem d_MQ_next_25 : decode b_MQ_next 25 = .ok (.iload_n 1, 1) := by decide +kernel
theorem d_MQ_next_26 : decode b_MQ_next 26 = .ok (.aaload, 1) := by decide +kernel
theorem d_MQ_next_27 : decode b_MQ_next 27 = .ok (.astore_n 3, 1) := by decide +kernel
theorem d_MQ_next_28 : decode b_MQ_next 28 = .ok (.aload_n 3, 1) := by decide +kernel
theorem d_MQ_next_29 : decode b_MQ_next 29 = .ok (.invokevirtual 107, 3) := by decide +kernel
theorem d_MQ_next_32 : decode b_MQ_next 32 = .ok (.ifCond .eq 6, 3) := by decide +kernel
theorem d_MQ_next_35 : decode b_MQ_next 35 = .ok (.bipush (-3), 2) := by decide +kernel
theorem d_MQ_next_37 : decode b_MQ_next 37 = .ok (.ireturn, 1) := by decide +kernel
theorem d_MQ_next_38 : decode b_MQ_next 38 = .ok (.aload_n 3, 1) := by decide +kernel
theorem d_MQ_next_39 : decode b_MQ_next 39 = .ok (.getfield 110, 3) := by decide +kernel
theorem d_MQ_next_42 : decode b_MQ_next 42 = .ok (.iload_n 2, 1) := by decide +kernel
theorem d_MQ_next_43 : decode b_MQ_next 43 = .ok (.iaload, 1) := by decide +kernel
theorem d_MQ_next_44 : decode b_MQ_next 44 = .ok (.iconst 1, 1) := by decide +kernel
theorem d_MQ_next_45 : decode b_MQ_next 45 = .ok (.iadd, 1) := by decide +kernel
theorem d_MQ_next_46 : decode b_MQ_next 46 = .ok (.istore 4, 2) := by decide +kernel
theorem d_MQ_next_48 : decode b_MQ_next 48 = .ok (.aload_n 3, 1) := by decide +kernel
theorem d_MQ_next_49 : decode b_MQ_next 49 = .ok (.iload 4, 2) := by decide +kernel
theorem d_MQ_next_51 : decode b_MQ_next 51 = .ok (.invokevirtual 82, 3) := by decide +kernel
theorem d_MQ_next_54 : decode b_MQ_next 54 = .ok (.ifCond .ne 6, 3) := by decide +kernel
theorem d_MQ_next_57 : decode b_MQ_next 57 = .ok (.bipush (-4), 2) := by decide +kernel
theorem d_MQ_next_59 : decode b_MQ_next 59 = .ok (.ireturn, 1) := by decide +kernel
theorem d_MQ_next_60 : decode b_MQ_next 60 = .ok (.aload_n 3, 1) := by decide +kernel
theorem d_MQ_next_61 : decode b_MQ_next 61 = .ok (.getfield 110, 3) := by decide +kernel
theorem d_MQ_next_64 : decode b_MQ_next 64 = .ok (.iload_n 2, 1) := by decide +kernel
theorem d_MQ_next_65 : decode b_MQ_next 65 = .ok (.iload 4, 2) := by decide +kernel
theorem d_MQ_next_67 : decode b_MQ_next 67 = .ok (.iastore, 1) := by decide +kernel
theorem d_MQ_next_68 : decode b_MQ_next 68 = .ok (.aload_n 3, 1) := by decide +kernel
theorem d_MQ_next_69 : decode b_MQ_next 69 = .ok (.aload_n 0, 1) := by decide +kernel
theorem d_MQ_next_70 : decode b_MQ_next 70 = .ok (.getfield 57, 3) := by decide +kernel
theorem d_MQ_next_73 : decode b_MQ_next 73 = .ok (.invokevirtual 61, 3) := by decide +kernel
theorem d_MQ_next_76 : decode b_MQ_next 76 = .ok (.iload 4, 2) := by decide +kernel
theorem d_MQ_next_78 : decode b_MQ_next 78 = .ok (.ireturn, 1) := by decide +kernel
theorem d_MQ_take_0 : decode b_MQ_take 0 = .ok (.aload_n 0, 1) := by decide +kernel
theorem d_MQ_take_1 : decode b_MQ_take 1 = .ok (.iload_n 1, 1) := by decide +kernel
theorem d_MQ_take_2 : decode b_MQ_take 2 = .ok (.invokevirtual 39, 3) := by decide +kernel
theorem d_MQ_take_5 : decode b_MQ_take 5 = .ok (.ifCond .ne 6, 3) := by decide +kernel
theorem d_MQ_take_8 : decode b_MQ_take 8 = .ok (.bipush (-2), 2) := by decide +kernel
theorem d_MQ_take_10 : decode b_MQ_take 10 = .ok (.ireturn, 1) := by decide +kernel
theorem d_MQ_take_11 : decode b_MQ_take 11 = .ok (.aload_n 0, 1) := by decide +kernel
theorem d_MQ_take_12 : decode b_MQ_take 12 = .ok (.getfield 24, 3) := by decide +kernel
theorem d_MQ_take_15 : decode b_MQ_take 15 = .ok (.iload_n 1, 1) := by decide +kernel
theorem d_MQ_take_16 : decode b_MQ_take 16 = .ok (.aaload, 1) := by decide +kernel
theorem d_MQ_take_17 : decode b_MQ_take 17 = .ok (.astore_n 2, 1) := by decide +kernel
theorem d_MQ_take_18 : decode b_MQ_take 18 = .ok (.aload_n 2, 1) := by decide +kernel
theorem d_MQ_take_19 : decode b_MQ_take 19 = .ok (.invokevirtual 79, 3) := by decide +kernel
theorem d_MQ_take_22 : decode b_MQ_take 22 = .ok (.ifCond .eq 6, 3) := by decide +kernel
theorem d_MQ_take_25 : decode b_MQ_take 25 = .ok (.bipush (-3), 2) := by decide +kernel
theorem d_MQ_take_27 : decode b_MQ_take 27 = .ok (.ireturn, 1) := by decide +kernel
theorem d_MQ_take_28 : decode b_MQ_take 28 = .ok (.aload_n 2, 1) := by decide +kernel
theorem d_MQ_take_29 : decode b_MQ_take 29 = .ok (.getfield 87, 3) := by decide +kernel
theorem d_MQ_take_32 : decode b_MQ_take 32 = .ok (.invokevirtual 114, 3) := by decide +kernel
theorem d_MQ_take_35 : decode b_MQ_take 35 = .ok (.ifCond .eq 6, 3) := by decide +kernel
theorem d_MQ_take_38 : decode b_MQ_take 38 = .ok (.bipush (-4), 2) := by decide +kernel
theorem d_MQ_take_40 : decode b_MQ_take 40 = .ok (.ireturn, 1) := by decide +kernel
theorem d_MQ_take_41 : decode b_MQ_take 41 = .ok (.aload_n 2, 1) := by decide +kernel
theorem d_MQ_take_42 : decode b_MQ_take 42 = .ok (.invokevirtual 117, 3) := by decide +kernel
theorem d_MQ_take_45 : decode b_MQ_take 45 = .ok (.ifCond .ne 6, 3) := by decide +kernel
theorem d_MQ_take_48 : decode b_MQ_take 48 = .ok (.bipush (-5), 2) := by decide +kernel
theorem d_MQ_take_50 : decode b_MQ_take 50 = .ok (.ireturn, 1) := by decide +kernel
theorem d_MQ_take_51 : decode b_MQ_take 51 = .ok (.aload_n 2, 1) := by decide +kernel
theorem d_MQ_take_52 : decode b_MQ_take 52 = .ok (.invokevirtual 120, 3) := by decide +kernel
theorem d_MQ_take_55 : decode b_MQ_take 55 = .ok (.istore_n 3, 1) := by decide +kernel
theorem d_MQ_take_56 : decode b_MQ_take 56 = .ok (.aload_n 0, 1) := by decide +kernel
theorem d_MQ_take_57 : decode b_MQ_take 57 = .ok (.invokevirtual 69, 3) := by decide +kernel
theorem d_MQ_take_60 : decode b_MQ_take 60 = .ok (.iload_n 3, 1) := by decide +kernel
theorem d_MQ_take_61 : decode b_MQ_take 61 = .ok (.ireturn, 1) := by decide +kernel
theorem d_MQ_trigger_0 : decode b_MQ_trigger 0 = .ok (.aload_n 0, 1) := by decide +kernel
theorem d_MQ_trigger_1 : decode b_MQ_trigger 1 = .ok (.iload_n 1, 1) := by decide +kernel
theorem d_MQ_trigger_2 : decode b_MQ_trigger 2 = .ok (.invokevirtual 39, 3) := by decide +kernel
theorem d_MQ_trigger_5 : decode b_MQ_trigger 5 = .ok (.ifCond .eq 14, 3) := by decide +kernel
theorem d_MQ_trigger_8 : decode b_MQ_trigger 8 = .ok (.iload_n 2, 1) := by decide +kernel
theorem d_MQ_trigger_9 : decode b_MQ_trigger 9 = .ok (.ifCond .lt 10, 3) := by decide +kernel
theorem d_MQ_trigger_12 : decode b_MQ_trigger 12 = .ok (.iload_n 2, 1) := by decide +kernel
theorem d_MQ_trigger_13 : decode b_MQ_trigger 13 = .ok (.sipush 4096, 3) := by decide +kernel
theorem d_MQ_trigger_16 : decode b_MQ_trigger 16 = .ok (.if_icmp .le 6, 3) := by decide +kernel
theorem d_MQ_trigger_19 : decode b_MQ_trigger 19 = .ok (.bipush (-2), 2) := by decide +kernel
theorem d_MQ_trigger_21 : decode b_MQ_trigger 21 = .ok (.ireturn, 1) := by decide +kernel
theorem d_MQ_trigger_22 : decode b_MQ_trigger 22 = .ok (.aload_n 0, 1) := by decide +kernel
theorem d_MQ_trigger_23 : decode b_MQ_trigger 23 = .ok (.getfield 24, 3) := by decide +kernel
theorem d_MQ_trigger_26 : decode b_MQ_trigger 26 = .ok (.iload_n 1, 1) := by decide +kernel
theorem d_MQ_trigger_27 : decode b_MQ_trigger 27 = .ok (.aaload, 1) := by decide +kernel
theorem d_MQ_trigger_28 : decode b_MQ_trigger 28 = .ok (.astore 4, 2) := by decide +kernel
theorem d_MQ_trigger_30 : decode b_MQ_trigger 30 = .ok (.aload 4, 2) := by decide +kernel
theorem d_MQ_trigger_32 : decode b_MQ_trigger 32 = .ok (.invokevirtual 79, 3) := by decide +kernel
theorem d_MQ_trigger_35 : decode b_MQ_trigger 35 = .ok (.ifCond .eq 6, 3) := by decide +kernel
theorem d_MQ_trigger_38 : decode b_MQ_trigger 38 = .ok (.bipush (-3), 2) := by decide +kernel
theorem d_MQ_trigger_40 : decode b_MQ_trigger 40 = .ok (.ireturn, 1) := by decide +kernel
theorem d_MQ_trigger_41 : decode b_MQ_trigger 41 = .ok (.aload 4, 2) := by decide +kernel
theorem d_MQ_trigger_43 : decode b_MQ_trigger 43 = .ok (.iload_n 2, 1) := by decide +kernel
theorem d_MQ_trigger_44 : decode b_MQ_trigger 44 = .ok (.ifCond .ne 7, 3) := by decide +kernel
theorem d_MQ_trigger_47 : decode b_MQ_trigger 47 = .ok (.aconst_null, 1) := by decide +kernel
theorem d_MQ_trigger_48 : decode b_MQ_trigger 48 = .ok (.goto 12, 3) := by decide +kernel
theorem d_MQ_trigger_51 : decode b_MQ_trigger 51 = .ok (.new 123, 3) := by decide +kernel
theorem d_MQ_trigger_54 : decode b_MQ_trigger 54 = .ok (.dup, 1) := by decide +kernel
theorem d_MQ_trigger_55 : decode b_MQ_trigger 55 = .ok (.iload_n 2, 1) := by decide +kernel
theorem d_MQ_trigger_56 : decode b_MQ_trigger 56 = .ok (.iload_n 3, 1) := by decide +kernel
theorem d_MQ_trigger_57 : decode b_MQ_trigger 57 = .ok (.invokespecial 125, 3) := by decide +kernel
theorem d_MQ_trigger_60 : decode b_MQ_trigger 60 = .ok (.putfield 128, 3) := by decide +kernel
theorem d_MQ_trigger_63 : decode b_MQ_trigger 63 = .ok (.aload_n 0, 1) := by decide +kernel
theorem d_MQ_trigger_64 : decode b_MQ_trigger 64 = .ok (.invokevirtual 69, 3) := by decide +kernel
theorem d_MQ_trigger_67 : decode b_MQ_trigger 67 = .ok (.iconst 1, 1) := by decide +kernel
theorem d_MQ_trigger_68 : decode b_MQ_trigger 68 = .ok (.ireturn, 1) := by decide +kernel
theorem d_MQ_started_0 : decode b_MQ_started 0 = .ok (.aload_n 0, 1) := by decide +kernel
theorem d_MQ_started_1 : decode b_MQ_started 1 = .ok (.iload_n 1, 1) := by decide +kernel
theorem d_MQ_started_2 : decode b_MQ_started 2 = .ok (.invokevirtual 132, 3) := by decide +kernel
theorem d_MQ_started_5 : decode b_MQ_started 5 = .ok (.ifCond .eq 22, 3) := by decide +kernel
theorem d_MQ_started_8 : decode b_MQ_started 8 = .ok (.aload_n 0, 1) := by decide +kernel
theorem d_MQ_started_9 : decode b_MQ_started 9 = .ok (.getfield 32, 3) := by decide +kernel
theorem d_MQ_started_12 : decode b_MQ_started 12 = .ok (.iload_n 1, 1) := by decide +kernel
theorem d_MQ_started_13 : decode b_MQ_started 13 = .ok (.iconst 1, 1) := by decide +kernel
theorem d_MQ_started_14 : decode b_MQ_started 14 = .ok (.isub, 1) := by decide +kernel
theorem d_MQ_started_15 : decode b_MQ_started 15 = .ok (.invokevirtual 90, 3) := by decide +kernel
theorem d_MQ_started_18 : decode b_MQ_started 18 = .ok (.checkcast 135, 3) := by decide +kernel
theorem d_MQ_started_21 : decode b_MQ_started 21 = .ok (.getfield 137, 3) := by decide +kernel
theorem d_MQ_started_24 : decode b_MQ_started 24 = .ok (.goto 4, 3) := by decide +kernel
theorem d_MQ_started_27 : decode b_MQ_started 27 = .ok (.iconst 0, 1) := by decide +kernel
theorem d_MQ_started_28 : decode b_MQ_started 28 = .ok (.ireturn, 1) := by decide +kernel
theorem d_MQ_isTask_0 : decode b_MQ_isTask 0 = .ok (.iload_n 1, 1) := by decide +kernel
theorem d_MQ_isTask_1 : decode b_MQ_isTask 1 = .ok (.iconst 1, 1) := by decide +kernel
theorem d_MQ_isTask_2 : decode b_MQ_isTask 2 = .ok (.if_icmp .lt 18, 3) := by decide +kernel
theorem d_MQ_isTask_5 : decode b_MQ_isTask 5 = .ok (.iload_n 1, 1) := by decide +kernel
theorem d_MQ_isTask_6 : decode b_MQ_isTask 6 = .ok (.aload_n 0, 1) := by decide +kernel
theorem d_MQ_isTask_7 : decode b_MQ_isTask 7 = .ok (.getfield 32, 3) := by decide +kernel
theorem d_MQ_isTask_10 : decode b_MQ_isTask 10 = .ok (.invokevirtual 151, 3) := by decide +kernel
theorem d_MQ_isTask_13 : decode b_MQ_isTask 13 = .ok (.if_icmp .gt 7, 3) := by decide +kernel
theorem d_MQ_isTask_16 : decode b_MQ_isTask 16 = .ok (.iconst 1, 1) := by decide +kernel
theorem d_MQ_isTask_17 : decode b_MQ_isTask 17 = .ok (.goto 4, 3) := by decide +kernel
theorem d_MQ_isTask_20 : decode b_MQ_isTask 20 = .ok (.iconst 0, 1) := by decide +kernel
theorem d_MQ_isTask_21 : decode b_MQ_isTask 21 = .ok (.ireturn, 1) := by decide +kernel
theorem d_MQ_end_0 : decode b_MQ_end 0 = .ok (.aload_n 0, 1) := by decide +kernel
theorem d_MQ_end_1 : decode b_MQ_end 1 = .ok (.iload_n 1, 1) := by decide +kernel
theorem d_MQ_end_2 : decode b_MQ_end 2 = .ok (.invokevirtual 132, 3) := by decide +kernel
theorem d_MQ_end_5 : decode b_MQ_end 5 = .ok (.ifCond .ne 6, 3) := by decide +kernel
theorem d_MQ_end_8 : decode b_MQ_end 8 = .ok (.bipush (-4), 2) := by decide +kernel
theorem d_MQ_end_10 : decode b_MQ_end 10 = .ok (.ireturn, 1) := by decide +kernel
theorem d_MQ_end_11 : decode b_MQ_end 11 = .ok (.aload_n 0, 1) := by decide +kernel
theorem d_MQ_end_12 : decode b_MQ_end 12 = .ok (.getfield 32, 3) := by decide +kernel
theorem d_MQ_end_15 : decode b_MQ_end 15 = .ok (.iload_n 1, 1) := by decide +kernel
theorem d_MQ_end_16 : decode b_MQ_end 16 = .ok (.iconst 1, 1) := by decide +kernel
theorem d_MQ_end_17 : decode b_MQ_end 17 = .ok (.isub, 1) := by decide +kernel
theorem d_MQ_end_18 : decode b_MQ_end 18 = .ok (.invokevirtual 90, 3) := by decide +kernel
theorem d_MQ_end_21 : decode b_MQ_end 21 = .ok (.checkcast 135, 3) := by decide +kernel
theorem d_MQ_end_24 : decode b_MQ_end 24 = .ok (.astore_n 2, 1) := by decide +kernel
theorem d_MQ_end_25 : decode b_MQ_end 25 = .ok (.aload_n 2, 1) := by decide +kernel
theorem d_MQ_end_26 : decode b_MQ_end 26 = .ok (.getfield 140, 3) := by decide +kernel
theorem d_MQ_end_29 : decode b_MQ_end 29 = .ok (.ifCond .ne 6, 3) := by decide +kernel
theorem d_MQ_end_32 : decode b_MQ_end 32 = .ok (.bipush (-4), 2) := by decide +kernel
theorem d_MQ_end_34 : decode b_MQ_end 34 = .ok (.ireturn, 1) := by decide +kernel
theorem d_MQ_end_35 : decode b_MQ_end 35 = .ok (.aload_n 2, 1) := by decide +kernel
theorem d_MQ_end_36 : decode b_MQ_end 36 = .ok (.iconst 0, 1) := by decide +kernel
theorem d_MQ_end_37 : decode b_MQ_end 37 = .ok (.putfield 140, 3) := by decide +kernel
theorem d_MQ_end_40 : decode b_MQ_end 40 = .ok (.aload_n 0, 1) := by decide +kernel
theorem d_MQ_end_41 : decode b_MQ_end 41 = .ok (.dup, 1) := by decide +kernel
theorem d_MQ_end_42 : decode b_MQ_end 42 = .ok (.getfield 144, 3) := by decide +kernel
theorem d_MQ_end_45 : decode b_MQ_end 45 = .ok (.iconst 1, 1) := by decide +kernel
theorem d_MQ_end_46 : decode b_MQ_end 46 = .ok (.isub, 1) := by decide +kernel
theorem d_MQ_end_47 : decode b_MQ_end 47 = .ok (.putfield 144, 3) := by decide +kernel
theorem d_MQ_end_50 : decode b_MQ_end 50 = .ok (.aload_n 0, 1) := by decide +kernel
theorem d_MQ_end_51 : decode b_MQ_end 51 = .ok (.iload_n 1, 1) := by decide +kernel
theorem d_MQ_end_52 : decode b_MQ_end 52 = .ok (.invokevirtual 147, 3) := by decide +kernel
theorem d_MQ_end_55 : decode b_MQ_end 55 = .ok (.istore_n 3, 1) := by decide +kernel
theorem d_MQ_end_56 : decode b_MQ_end 56 = .ok (.aload_n 0, 1) := by decide +kernel
theorem d_MQ_end_57 : decode b_MQ_end 57 = .ok (.invokevirtual 69, 3) := by decide +kernel
theorem d_MQ_end_60 : decode b_MQ_end 60 = .ok (.iload_n 3, 1) := by decide +kernel
theorem d_MQ_end_61 : decode b_MQ_end 61 = .ok (.ireturn, 1) := by decide +kernel
theorem d_MQ_beginAgain_0 : decode b_MQ_beginAgain 0 = .ok (.iconst 0, 1) := by decide +kernel
theorem d_MQ_beginAgain_1 : decode b_MQ_beginAgain 1 = .ok (.istore_n 2, 1) := by decide +kernel
theorem d_MQ_beginAgain_2 : decode b_MQ_beginAgain 2 = .ok (.iload_n 2, 1) := by decide +kernel
theorem d_MQ_beginAgain_3 : decode b_MQ_beginAgain 3 = .ok (.aload_n 0, 1) := by decide +kernel
theorem d_MQ_beginAgain_4 : decode b_MQ_beginAgain 4 = .ok (.getfield 24, 3) := by decide +kernel
theorem d_MQ_beginAgain_7 : decode b_MQ_beginAgain 7 = .ok (.arraylength, 1) := by decide +kernel
theorem d_MQ_beginAgain_8 : decode b_MQ_beginAgain 8 = .ok (.if_icmp .ge 77, 3) := by decide +kernel
theorem d_MQ_beginAgain_11 : decode b_MQ_beginAgain 11 = .ok (.aload_n 0, 1) := by decide +kernel
theorem d_MQ_beginAgain_12 : decode b_MQ_beginAgain 12 = .ok (.getfield 24, 3) := by decide +kernel
theorem d_MQ_beginAgain_15 : decode b_MQ_beginAgain 15 = .ok (.iload_n 2, 1) := by decide +kernel
theorem d_MQ_beginAgain_16 : decode b_MQ_beginAgain 16 = .ok (.aaload, 1) := by decide +kernel
theorem d_MQ_beginAgain_17 : decode b_MQ_beginAgain 17 = .ok (.getfield 128, 3) := by decide +kernel
theorem d_MQ_beginAgain_20 : decode b_MQ_beginAgain 20 = .ok (.astore_n 3, 1) := by decide +kernel
theorem d_MQ_beginAgain_21 : decode b_MQ_beginAgain 21 = .ok (.aload_n 3, 1) := by decide +kernel
theorem d_MQ_beginAgain_22 : decode b_MQ_beginAgain 22 = .ok (.ifnull 57, 3) := by decide +kernel
theorem d_MQ_beginAgain_25 : decode b_MQ_beginAgain 25 = .ok (.aload_n 3, 1) := by decide +kernel
theorem d_MQ_beginAgain_26 : decode b_MQ_beginAgain 26 = .ok (.getfield 199, 3) := by decide +kernel
theorem d_MQ_beginAgain_29 : decode b_MQ_beginAgain 29 = .ok (.iload_n 1, 1) := by decide +kernel
theorem d_MQ_beginAgain_30 : decode b_MQ_beginAgain 30 = .ok (.if_icmp .ne 49, 3) := by decide +kernel
theorem d_MQ_beginAgain_33 : decode b_MQ_beginAgain 33 = .ok (.aload_n 3, 1) := by decide +kernel
theorem d_MQ_beginAgain_34 : decode b_MQ_beginAgain 34 = .ok (.iconst 0, 1) := by decide +kernel
theorem d_MQ_beginAgain_35 : decode b_MQ_beginAgain 35 = .ok (.putfield 199, 3) := by decide +kernel
theorem d_MQ_beginAgain_38 : decode b_MQ_beginAgain 38 = .ok (.aload_n 3, 1) := by decide +kernel
theorem d_MQ_beginAgain_39 : decode b_MQ_beginAgain 39 = .ok (.getfield 202, 3) := by decide +kernel
theorem d_MQ_beginAgain_42 : decode b_MQ_beginAgain 42 = .ok (.ifCond .ne 19, 3) := by decide +kernel
theorem d_MQ_beginAgain_45 : decode b_MQ_beginAgain 45 = .ok (.aload_n 0, 1) := by decide +kernel
theorem d_MQ_beginAgain_46 : decode b_MQ_beginAgain 46 = .ok (.getfield 24, 3) := by decide +kernel
theorem d_MQ_beginAgain_49 : decode b_MQ_beginAgain 49 = .ok (.iload_n 2, 1) := by decide +kernel
theorem d_MQ_beginAgain_50 : decode b_MQ_beginAgain 50 = .ok (.aaload, 1) := by decide +kernel
theorem d_MQ_beginAgain_51 : decode b_MQ_beginAgain 51 = .ok (.invokevirtual 117, 3) := by decide +kernel
theorem d_MQ_beginAgain_54 : decode b_MQ_beginAgain 54 = .ok (.ifCond .le 7, 3) := by decide +kernel
theorem d_MQ_beginAgain_57 : decode b_MQ_beginAgain 57 = .ok (.iconst 1, 1) := by decide +kernel
theorem d_MQ_beginAgain_58 : decode b_MQ_beginAgain 58 = .ok (.goto 4, 3) := by decide +kernel
theorem d_MQ_beginAgain_61 : decode b_MQ_beginAgain 61 = .ok (.iconst 0, 1) := by decide +kernel
theorem d_MQ_beginAgain_62 : decode b_MQ_beginAgain 62 = .ok (.istore 4, 2) := by decide +kernel
theorem d_MQ_beginAgain_64 : decode b_MQ_beginAgain 64 = .ok (.iload 4, 2) := by decide +kernel
theorem d_MQ_beginAgain_66 : decode b_MQ_beginAgain 66 = .ok (.ifCond .eq 11, 3) := by decide +kernel
theorem d_MQ_beginAgain_69 : decode b_MQ_beginAgain 69 = .ok (.aload_n 0, 1) := by decide +kernel
theorem d_MQ_beginAgain_70 : decode b_MQ_beginAgain 70 = .ok (.aload_n 3, 1) := by decide +kernel
theorem d_MQ_beginAgain_71 : decode b_MQ_beginAgain 71 = .ok (.invokevirtual 215, 3) := by decide +kernel
theorem d_MQ_beginAgain_74 : decode b_MQ_beginAgain 74 = .ok (.goto 4, 3) := by decide +kernel
theorem d_MQ_beginAgain_77 : decode b_MQ_beginAgain 77 = .ok (.iconst 0, 1) := by decide +kernel
theorem d_MQ_beginAgain_78 : decode b_MQ_beginAgain 78 = .ok (.ireturn, 1) := by decide +kernel
theorem d_MQ_beginAgain_79 : decode b_MQ_beginAgain 79 = .ok (.iinc 2 1, 3) := by decide +kernel
theorem d_MQ_beginAgain_82 : decode b_MQ_beginAgain 82 = .ok (.goto (-80), 3) := by decide +kernel
theorem d_MQ_beginAgain_85 : decode b_MQ_beginAgain 85 = .ok (.iconst 0, 1) := by decide +kernel
theorem d_MQ_beginAgain_86 : decode b_MQ_beginAgain 86 = .ok (.ireturn, 1) := by decide +kernel
theorem d_MQ_rewrite_0 : decode b_MQ_rewrite 0 = .ok (.aload_n 0, 1) := by decide +kernel
theorem d_MQ_rewrite_1 : decode b_MQ_rewrite 1 = .ok (.iload_n 1, 1) := by decide +kernel
theorem d_MQ_rewrite_2 : decode b_MQ_rewrite 2 = .ok (.invokevirtual 39, 3) := by decide +kernel
theorem d_MQ_rewrite_5 : decode b_MQ_rewrite 5 = .ok (.ifCond .ne 6, 3) := by decide +kernel
theorem d_MQ_rewrite_8 : decode b_MQ_rewrite 8 = .ok (.bipush (-2), 2) := by decide +kernel
theorem d_MQ_rewrite_10 : decode b_MQ_rewrite 10 = .ok (.ireturn, 1) := by decide +kernel
theorem d_MQ_rewrite_11 : decode b_MQ_rewrite 11 = .ok (.aload_n 0, 1) := by decide +kernel
theorem d_MQ_rewrite_12 : decode b_MQ_rewrite 12 = .ok (.getfield 24, 3) := by decide +kernel
theorem d_MQ_rewrite_15 : decode b_MQ_rewrite 15 = .ok (.iload_n 1, 1) := by decide +kernel
theorem d_MQ_rewrite_16 : decode b_MQ_rewrite 16 = .ok (.aaload, 1) := by decide +kernel
theorem d_MQ_rewrite_17 : decode b_MQ_rewrite 17 = .ok (.astore 5, 2) := by decide +kernel
theorem d_MQ_rewrite_19 : decode b_MQ_rewrite 19 = .ok (.aload 5, 2) := by decide +kernel
theorem d_MQ_rewrite_21 : decode b_MQ_rewrite 21 = .ok (.invokevirtual 107, 3) := by decide +kernel
theorem d_MQ_rewrite_24 : decode b_MQ_rewrite 24 = .ok (.ifCond .eq 6, 3) := by decide +kernel
theorem d_MQ_rewrite_27 : decode b_MQ_rewrite 27 = .ok (.bipush (-3), 2) := by decide +kernel
theorem d_MQ_rewrite_29 : decode b_MQ_rewrite 29 = .ok (.ireturn, 1) := by decide +kernel
theorem d_MQ_rewrite_30 : decode b_MQ_rewrite 30 = .ok (.aload 5, 2) := by decide +kernel
theorem d_MQ_rewrite_32 : decode b_MQ_rewrite 32 = .ok (.iload_n 2, 1) := by decide +kernel
theorem d_MQ_rewrite_33 : decode b_MQ_rewrite 33 = .ok (.invokevirtual 82, 3) := by decide +kernel
theorem d_MQ_rewrite_36 : decode b_MQ_rewrite 36 = .ok (.ifCond .ne 6, 3) := by decide +kernel
theorem d_MQ_rewrite_39 : decode b_MQ_rewrite 39 = .ok (.bipush (-4), 2) := by decide +kernel
theorem d_MQ_rewrite_41 : decode b_MQ_rewrite 41 = .ok (.ireturn, 1) := by decide +kernel
theorem d_MQ_rewrite_42 : decode b_MQ_rewrite 42 = .ok (.aload 5, 2) := by decide +kernel
theorem d_MQ_rewrite_44 : decode b_MQ_rewrite 44 = .ok (.getfield 87, 3) := by decide +kernel
theorem d_MQ_rewrite_47 : decode b_MQ_rewrite 47 = .ok (.iload_n 2, 1) := by decide +kernel
theorem d_MQ_rewrite_48 : decode b_MQ_rewrite 48 = .ok (.iconst 1, 1) := by decide +kernel
theorem d_MQ_rewrite_49 : decode b_MQ_rewrite 49 = .ok (.isub, 1) := by decide +kernel
theorem d_MQ_rewrite_50 : decode b_MQ_rewrite 50 = .ok (.invokevirtual 90, 3) := by decide +kernel
theorem d_MQ_rewrite_53 : decode b_MQ_rewrite 53 = .ok (.checkcast 94, 3) := by decide +kernel
theorem d_MQ_rewrite_56 : decode b_MQ_rewrite 56 = .ok (.lload_n 3, 1) := by decide +kernel
theorem d_MQ_rewrite_57 : decode b_MQ_rewrite 57 = .ok (.putfield 96, 3) := by decide +kernel
theorem d_MQ_rewrite_60 : decode b_MQ_rewrite 60 = .ok (.aload 5, 2) := by decide +kernel
theorem d_MQ_rewrite_62 : decode b_MQ_rewrite 62 = .ok (.aload_n 0, 1) := by decide +kernel
theorem d_MQ_rewrite_63 : decode b_MQ_rewrite 63 = .ok (.getfield 57, 3) := by decide +kernel
theorem d_MQ_rewrite_66 : decode b_MQ_rewrite 66 = .ok (.invokevirtual 61, 3) := by decide +kernel
theorem d_MQ_rewrite_69 : decode b_MQ_rewrite 69 = .ok (.iconst 1, 1) := by decide +kernel
theorem d_MQ_rewrite_70 : decode b_MQ_rewrite 70 = .ok (.ireturn, 1) := by decide +kernel
theorem d_MQ_delay_0 : decode b_MQ_delay 0 = .ok (.aload_n 0, 1) := by decide +kernel
theorem d_MQ_delay_1 : decode b_MQ_delay 1 = .ok (.getfield 36, 3) := by decide +kernel
theorem d_MQ_delay_4 : decode b_MQ_delay 4 = .ok (.invokevirtual 151, 3) := by decide +kernel
theorem d_MQ_delay_7 : decode b_MQ_delay 7 = .ok (.sipush 200, 3) := by decide +kernel
theorem d_MQ_delay_10 : decode b_MQ_delay 10 = .ok (.if_icmp .lt 5, 3) := by decide +kernel
theorem d_MQ_delay_13 : decode b_MQ_delay 13 = .ok (.iconst (-1), 1) := by decide +kernel
theorem d_MQ_delay_14 : decode b_MQ_delay 14 = .ok (.ireturn, 1) := by decide +kernel
theorem d_MQ_delay_15 : decode b_MQ_delay 15 = .ok (.aload_n 0, 1) := by decide +kernel
theorem d_MQ_delay_16 : decode b_MQ_delay 16 = .ok (.dup, 1) := by decide +kernel
theorem d_MQ_delay_17 : decode b_MQ_delay 17 = .ok (.getfield 154, 3) := by decide +kernel
theorem d_MQ_delay_20 : decode b_MQ_delay 20 = .ok (.iconst 1, 1) := by decide +kernel
theorem d_MQ_delay_21 : decode b_MQ_delay 21 = .ok (.iadd, 1) := by decide +kernel
theorem d_MQ_delay_22 : decode b_MQ_delay 22 = .ok (.putfield 154, 3) := by decide +kernel
theorem d_MQ_delay_25 : decode b_MQ_delay 25 = .ok (.aload_n 0, 1) := by decide +kernel
theorem d_MQ_delay_26 : decode b_MQ_delay 26 = .ok (.new 157, 3) := by decide +kernel
theorem d_MQ_delay_29 : decode b_MQ_delay 29 = .ok (.dup, 1) := by decide +kernel
theorem d_MQ_delay_30 : decode b_MQ_delay 30 = .ok (.aload_n 0, 1) := by decide +kernel
theorem d_MQ_delay_31 : decode b_MQ_delay 31 = .ok (.getfield 154, 3) := by decide +kernel
theorem d_MQ_delay_34 : decode b_MQ_delay 34 = .ok (.iload_n 1, 1) := by decide +kernel
theorem d_MQ_delay_35 : decode b_MQ_delay 35 = .ok (.lload_n 2, 1) := by decide +kernel
theorem d_MQ_delay_36 : decode b_MQ_delay 36 = .ok (.invokespecial 159, 3) := by decide +kernel
theorem d_MQ_delay_39 : decode b_MQ_delay 39 = .ok (.invokevirtual 162, 3) := by decide +kernel
theorem d_MQ_delay_42 : decode b_MQ_delay 42 = .ok (.aload_n 0, 1) := by decide +kernel
theorem d_MQ_delay_43 : decode b_MQ_delay 43 = .ok (.invokevirtual 166, 3) := by decide +kernel
theorem d_MQ_delay_46 : decode b_MQ_delay 46 = .ok (.pop, 1) := by decide +kernel
theorem d_MQ_delay_47 : decode b_MQ_delay 47 = .ok (.aload_n 0, 1) := by decide +kernel
theorem d_MQ_delay_48 : decode b_MQ_delay 48 = .ok (.getfield 154, 3) := by decide +kernel
theorem d_MQ_delay_51 : decode b_MQ_delay 51 = .ok (.ireturn, 1) := by decide +kernel
theorem d_MQ_keepWaiting_0 : decode b_MQ_keepWaiting 0 = .ok (.aload_n 0, 1) := by decide +kernel
theorem d_MQ_keepWaiting_1 : decode b_MQ_keepWaiting 1 = .ok (.getfield 36, 3) := by decide +kernel
theorem d_MQ_keepWaiting_4 : decode b_MQ_keepWaiting 4 = .ok (.invokevirtual 151, 3) := by decide +kernel
theorem d_MQ_keepWaiting_7 : decode b_MQ_keepWaiting 7 = .ok (.istore_n 2, 1) := by decide +kernel
theorem d_MQ_keepWaiting_8 : decode b_MQ_keepWaiting 8 = .ok (.iload_n 2, 1) := by decide +kernel
theorem d_MQ_keepWaiting_9 : decode b_MQ_keepWaiting 9 = .ok (.ifCond .le 33, 3) := by decide +kernel
theorem d_MQ_keepWaiting_12 : decode b_MQ_keepWaiting 12 = .ok (.aload_n 0, 1) := by decide +kernel
theorem d_MQ_keepWaiting_13 : decode b_MQ_keepWaiting 13 = .ok (.getfield 36, 3) := by decide +kernel
theorem d_MQ_keepWaiting_16 : decode b_MQ_keepWaiting 16 = .ok (.iload_n 2, 1) := by decide +kernel
theorem d_MQ_keepWaiting_17 : decode b_MQ_keepWaiting 17 = .ok (.iconst 1, 1) := by decide +kernel
theorem d_MQ_keepWaiting_18 : decode b_MQ_keepWaiting 18 = .ok (.isub, 1) := by decide +kernel
theorem d_MQ_keepWaiting_19 : decode b_MQ_keepWaiting 19 = .ok (.invokevirtual 90, 3) := by decide +kernel
theorem d_MQ_keepWaiting_22 : decode b_MQ_keepWaiting 22 = .ok (.checkcast 157, 3) := by decide +kernel
theorem d_MQ_keepWaiting_25 : decode b_MQ_keepWaiting 25 = .ok (.getfield 219, 3) := by decide +kernel
theorem d_MQ_keepWaiting_28 : decode b_MQ_keepWaiting 28 = .ok (.aload_n 1, 1) := by decide +kernel
theorem d_MQ_keepWaiting_29 : decode b_MQ_keepWaiting 29 = .ok (.getfield 219, 3) := by decide +kernel
theorem d_MQ_keepWaiting_32 : decode b_MQ_keepWaiting 32 = .ok (.lcmp, 1) := by decide +kernel
theorem d_MQ_keepWaiting_33 : decode b_MQ_keepWaiting 33 = .ok (.ifCond .le 9, 3) := by decide +kernel
theorem d_MQ_keepWaiting_36 : decode b_MQ_keepWaiting 36 = .ok (.iinc 2 (-1), 3) := by decide +kernel
theorem d_MQ_keepWaiting_39 : decode b_MQ_keepWaiting 39 = .ok (.goto (-31), 3) := by decide +kernel
theorem d_MQ_keepWaiting_42 : decode b_MQ_keepWaiting 42 = .ok (.aload_n 0, 1) := by decide +kernel
theorem d_MQ_keepWaiting_43 : decode b_MQ_keepWaiting 43 = .ok (.getfield 36, 3) := by decide +kernel
theorem d_MQ_keepWaiting_46 : decode b_MQ_keepWaiting 46 = .ok (.iload_n 2, 1) := by decide +kernel
theorem d_MQ_keepWaiting_47 : decode b_MQ_keepWaiting 47 = .ok (.aload_n 1, 1) := by decide +kernel
theorem d_MQ_keepWaiting_48 : decode b_MQ_keepWaiting 48 = .ok (.invokevirtual 222, 3) := by decide +kernel
theorem d_MQ_keepWaiting_51 : decode b_MQ_keepWaiting 51 = .ok (.return_, 1) := by decide +kernel
theorem d_MQ_postDue_0 : decode b_MQ_postDue 0 = .ok (.iconst 0, 1) := by decide +kernel
theorem d_MQ_postDue_1 : decode b_MQ_postDue 1 = .ok (.istore_n 1, 1) := by decide +kernel
theorem d_MQ_postDue_2 : decode b_MQ_postDue 2 = .ok (.iload_n 1, 1) := by decide +kernel
theorem d_MQ_postDue_3 : decode b_MQ_postDue 3 = .ok (.sipush 200, 3) := by decide +kernel
theorem d_MQ_postDue_6 : decode b_MQ_postDue 6 = .ok (.if_icmp .ge 60, 3) := by decide +kernel
theorem d_MQ_postDue_9 : decode b_MQ_postDue 9 = .ok (.aload_n 0, 1) := by decide +kernel
theorem d_MQ_postDue_10 : decode b_MQ_postDue 10 = .ok (.getfield 36, 3) := by decide +kernel
theorem d_MQ_postDue_13 : decode b_MQ_postDue 13 = .ok (.invokevirtual 114, 3) := by decide +kernel
theorem d_MQ_postDue_16 : decode b_MQ_postDue 16 = .ok (.ifCond .ne 50, 3) := by decide +kernel
theorem d_MQ_postDue_19 : decode b_MQ_postDue 19 = .ok (.aload_n 0, 1) := by decide +kernel
theorem d_MQ_postDue_20 : decode b_MQ_postDue 20 = .ok (.getfield 36, 3) := by decide +kernel
theorem d_MQ_postDue_23 : decode b_MQ_postDue 23 = .ok (.iconst 0, 1) := by decide +kernel
theorem d_MQ_postDue_24 : decode b_MQ_postDue 24 = .ok (.invokevirtual 90, 3) := by decide +kernel
theorem d_MQ_postDue_27 : decode b_MQ_postDue 27 = .ok (.checkcast 157, 3) := by decide +kernel
theorem d_MQ_postDue_30 : decode b_MQ_postDue 30 = .ok (.getfield 219, 3) := by decide +kernel
theorem d_MQ_postDue_33 : decode b_MQ_postDue 33 = .ok (.aload_n 0, 1) := by decide +kernel
theorem d_MQ_postDue_34 : decode b_MQ_postDue 34 = .ok (.getfield 57, 3) := by decide +kernel
theorem d_MQ_postDue_37 : decode b_MQ_postDue 37 = .ok (.lcmp, 1) := by decide +kernel
theorem d_MQ_postDue_38 : decode b_MQ_postDue 38 = .ok (.ifCond .gt 28, 3) := by decide +kernel
theorem d_MQ_postDue_41 : decode b_MQ_postDue 41 = .ok (.aload_n 0, 1) := by decide +kernel
theorem d_MQ_postDue_42 : decode b_MQ_postDue 42 = .ok (.aload_n 0, 1) := by decide +kernel
theorem d_MQ_postDue_43 : decode b_MQ_postDue 43 = .ok (.getfield 36, 3) := by decide +kernel
theorem d_MQ_postDue_46 : decode b_MQ_postDue 46 = .ok (.iconst 0, 1) := by decide +kernel
theorem d_MQ_postDue_47 : decode b_MQ_postDue 47 = .ok (.invokevirtual 172, 3) := by decide +kernel
theorem d_MQ_postDue_50 : decode b_MQ_postDue 50 = .ok (.checkcast 157, 3) := by decide +kernel
theorem d_MQ_postDue_53 : decode b_MQ_postDue 53 = .ok (.getfield 225, 3) := by decide +kernel
theorem d_MQ_postDue_56 : decode b_MQ_postDue 56 = .ok (.invokevirtual 196, 3) := by decide +kernel
theorem d_MQ_postDue_59 : decode b_MQ_postDue 59 = .ok (.pop, 1) := by decide +kernel
theorem d_MQ_postDue_60 : decode b_MQ_postDue 60 = .ok (.iinc 1 1, 3) := by decide +kernel
theorem d_MQ_postDue_63 : decode b_MQ_postDue 63 = .ok (.goto (-61), 3) := by decide +kernel
theorem d_MQ_postDue_66 : decode b_MQ_postDue 66 = .ok (.iload_n 1, 1) := by decide +kernel
theorem d_MQ_postDue_67 : decode b_MQ_postDue 67 = .ok (.ireturn, 1) := by decide +kernel
theorem d_MQ_cancel_0 : decode b_MQ_cancel 0 = .ok (.iconst 0, 1) := by decide +kernel
theorem d_MQ_cancel_1 : decode b_MQ_cancel 1 = .ok (.istore_n 2, 1) := by decide +kernel
theorem d_MQ_cancel_2 : decode b_MQ_cancel 2 = .ok (.iload_n 2, 1) := by decide +kernel
theorem d_MQ_cancel_3 : decode b_MQ_cancel 3 = .ok (.aload_n 0, 1) := by decide +kernel
theorem d_MQ_cancel_4 : decode b_MQ_cancel 4 = .ok (.getfield 36, 3) := by decide +kernel
theorem d_MQ_cancel_7 : decode b_MQ_cancel 7 = .ok (.invokevirtual 151, 3) := by decide +kernel
theorem d_MQ_cancel_10 : decode b_MQ_cancel 10 = .ok (.if_icmp .ge 38, 3) := by decide +kernel
theorem d_MQ_cancel_13 : decode b_MQ_cancel 13 = .ok (.aload_n 0, 1) := by decide +kernel
theorem d_MQ_cancel_14 : decode b_MQ_cancel 14 = .ok (.getfield 36, 3) := by decide +kernel
theorem d_MQ_cancel_17 : decode b_MQ_cancel 17 = .ok (.iload_n 2, 1) := by decide +kernel
theorem d_MQ_cancel_18 : decode b_MQ_cancel 18 = .ok (.invokevirtual 90, 3) := by decide +kernel
theorem d_MQ_cancel_21 : decode b_MQ_cancel 21 = .ok (.checkcast 157, 3) := by decide +kernel
theorem d_MQ_cancel_24 : decode b_MQ_cancel 24 = .ok (.getfield 169, 3) := by decide +kernel
theorem d_MQ_cancel_27 : decode b_MQ_cancel 27 = .ok (.iload_n 1, 1) := by decide +kernel
theorem d_MQ_cancel_28 : decode b_MQ_cancel 28 = .ok (.if_icmp .ne 14, 3) := by decide +kernel
theorem d_MQ_cancel_31 : decode b_MQ_cancel 31 = .ok (.aload_n 0, 1) := by decide +kernel
theorem d_MQ_cancel_32 : decode b_MQ_cancel 32 = .ok (.getfield 36, 3) := by decide +kernel
theorem d_MQ_cancel_35 : decode b_MQ_cancel 35 = .ok (.iload_n 2, 1) := by decide +kernel
theorem d_MQ_cancel_36 : decode b_MQ_cancel 36 = .ok (.invokevirtual 172, 3) := by decide +kernel
theorem d_MQ_cancel_39 : decode b_MQ_cancel 39 = .ok (.pop, 1) := by decide +kernel
theorem d_MQ_cancel_40 : decode b_MQ_cancel 40 = .ok (.iconst 1, 1) := by decide +kernel
theorem d_MQ_cancel_41 : decode b_MQ_cancel 41 = .ok (.ireturn, 1) := by decide +kernel
theorem d_MQ_cancel_42 : decode b_MQ_cancel 42 = .ok (.iinc 2 1, 3) := by decide +kernel
theorem d_MQ_cancel_45 : decode b_MQ_cancel 45 = .ok (.goto (-43), 3) := by decide +kernel
theorem d_MQ_cancel_48 : decode b_MQ_cancel 48 = .ok (.iconst 0, 1) := by decide +kernel
theorem d_MQ_cancel_49 : decode b_MQ_cancel 49 = .ok (.ireturn, 1) := by decide +kernel
theorem d_MQ_tick_0 : decode b_MQ_tick 0 = .ok (.lload_n 1, 1) := by decide +kernel
theorem d_MQ_tick_1 : decode b_MQ_tick 1 = .ok (.aload_n 0, 1) := by decide +kernel
theorem d_MQ_tick_2 : decode b_MQ_tick 2 = .ok (.getfield 57, 3) := by decide +kernel
theorem d_MQ_tick_5 : decode b_MQ_tick 5 = .ok (.lcmp, 1) := by decide +kernel
theorem d_MQ_tick_6 : decode b_MQ_tick 6 = .ok (.ifCond .ge 5, 3) := by decide +kernel
theorem d_MQ_tick_9 : decode b_MQ_tick 9 = .ok (.iconst (-1), 1) := by decide +kernel
theorem d_MQ_tick_10 : decode b_MQ_tick 10 = .ok (.ireturn, 1) := by decide +kernel
theorem d_MQ_tick_11 : decode b_MQ_tick 11 = .ok (.aload_n 0, 1) := by decide +kernel
theorem d_MQ_tick_12 : decode b_MQ_tick 12 = .ok (.lload_n 1, 1) := by decide +kernel
theorem d_MQ_tick_13 : decode b_MQ_tick 13 = .ok (.putfield 57, 3) := by decide +kernel
theorem d_MQ_tick_16 : decode b_MQ_tick 16 = .ok (.aload_n 0, 1) := by decide +kernel
theorem d_MQ_tick_17 : decode b_MQ_tick 17 = .ok (.invokevirtual 166, 3) := by decide +kernel
theorem d_MQ_tick_20 : decode b_MQ_tick 20 = .ok (.ireturn, 1) := by decide +kernel
theorem d_MQ_unit_0 : decode b_MQ_unit 0 = .ok (.iload_n 1, 1) := by decide +kernel
theorem d_MQ_unit_1 : decode b_MQ_unit 1 = .ok (.ifCond .le 9, 3) := by decide +kernel
theorem d_MQ_unit_4 : decode b_MQ_unit 4 = .ok (.iload_n 1, 1) := by decide +kernel
theorem d_MQ_unit_5 : decode b_MQ_unit 5 = .ok (.bipush 9, 2) := by decide +kernel
theorem d_MQ_unit_7 : decode b_MQ_unit 7 = .ok (.if_icmp .le 6, 3) := by decide +kernel
theorem d_MQ_unit_10 : decode b_MQ_unit 10 = .ok (.bipush (-2), 2) := by decide +kernel
theorem d_MQ_unit_12 : decode b_MQ_unit 12 = .ok (.ireturn, 1) := by decide +kernel
theorem d_MQ_unit_13 : decode b_MQ_unit 13 = .ok (.iconst 0, 1) := by decide +kernel
theorem d_MQ_unit_14 : decode b_MQ_unit 14 = .ok (.istore_n 3, 1) := by decide +kernel
theorem d_MQ_unit_15 : decode b_MQ_unit 15 = .ok (.iconst 0, 1) := by decide +kernel
theorem d_MQ_unit_16 : decode b_MQ_unit 16 = .ok (.istore 4, 2) := by decide +kernel
theorem d_MQ_unit_18 : decode b_MQ_unit 18 = .ok (.iload 4, 2) := by decide +kernel
theorem d_MQ_unit_20 : decode b_MQ_unit 20 = .ok (.aload_n 0, 1) := by decide +kernel
theorem d_MQ_unit_21 : decode b_MQ_unit 21 = .ok (.getfield 24, 3) := by decide +kernel
theorem d_MQ_unit_24 : decode b_MQ_unit 24 = .ok (.arraylength, 1) := by decide +kernel
theorem d_MQ_unit_25 : decode b_MQ_unit 25 = .ok (.if_icmp .ge 44, 3) := by decide +kernel
theorem d_MQ_unit_28 : decode b_MQ_unit 28 = .ok (.aload_n 0, 1) := by decide +kernel
theorem d_MQ_unit_29 : decode b_MQ_unit 29 = .ok (.getfield 24, 3) := by decide +kernel
theorem d_MQ_unit_32 : decode b_MQ_unit 32 = .ok (.iload 4, 2) := by decide +kernel
theorem d_MQ_unit_34 : decode b_MQ_unit 34 = .ok (.aaload, 1) := by decide +kernel
theorem d_MQ_unit_35 : decode b_MQ_unit 35 = .ok (.astore 5, 2) := by decide +kernel
theorem d_MQ_unit_37 : decode b_MQ_unit 37 = .ok (.aload 5, 2) := by decide +kernel
theorem d_MQ_unit_39 : decode b_MQ_unit 39 = .ok (.invokevirtual 46, 3) := by decide +kernel
theorem d_MQ_unit_42 : decode b_MQ_unit 42 = .ok (.ifCond .eq 21, 3) := by decide +kernel
theorem d_MQ_unit_45 : decode b_MQ_unit 45 = .ok (.aload 5, 2) := by decide +kernel
theorem d_MQ_unit_47 : decode b_MQ_unit 47 = .ok (.getfield 50, 3) := by decide +kernel
theorem d_MQ_unit_50 : decode b_MQ_unit 50 = .ok (.iload_n 1, 1) := by decide +kernel
theorem d_MQ_unit_51 : decode b_MQ_unit 51 = .ok (.if_icmp .ne 12, 3) := by decide +kernel
theorem d_MQ_unit_54 : decode b_MQ_unit 54 = .ok (.iload_n 3, 1) := by decide +kernel
theorem d_MQ_unit_55 : decode b_MQ_unit 55 = .ok (.aload 5, 2) := by decide +kernel
theorem d_MQ_unit_57 : decode b_MQ_unit 57 = .ok (.iload_n 2, 1) := by decide +kernel
theorem d_MQ_unit_58 : decode b_MQ_unit 58 = .ok (.invokevirtual 175, 3) := by decide +kernel
theorem d_MQ_unit_61 : decode b_MQ_unit 61 = .ok (.iadd, 1) := by decide +kernel
theorem d_MQ_unit_62 : decode b_MQ_unit 62 = .ok (.istore_n 3, 1) := by decide +kernel
theorem d_MQ_unit_63 : decode b_MQ_unit 63 = .ok (.iinc 4 1, 3) := by decide +kernel
theorem d_MQ_unit_66 : decode b_MQ_unit 66 = .ok (.goto (-48), 3) := by decide +kernel
theorem d_MQ_unit_69 : decode b_MQ_unit 69 = .ok (.aload_n 0, 1) := by decide +kernel
theorem d_MQ_unit_70 : decode b_MQ_unit 70 = .ok (.invokevirtual 69, 3) := by decide +kernel
theorem d_MQ_unit_73 : decode b_MQ_unit 73 = .ok (.iload_n 3, 1) := by decide +kernel
theorem d_MQ_unit_74 : decode b_MQ_unit 74 = .ok (.ireturn, 1) := by decide +kernel
theorem d_MQ_age_0 : decode b_MQ_age 0 = .ok (.iconst 0, 1) := by decide +kernel
theorem d_MQ_age_1 : decode b_MQ_age 1 = .ok (.istore_n 3, 1) := by decide +kernel
theorem d_MQ_age_2 : decode b_MQ_age 2 = .ok (.iconst 0, 1) := by decide +kernel
theorem d_MQ_age_3 : decode b_MQ_age 3 = .ok (.istore 4, 2) := by decide +kernel
theorem d_MQ_age_5 : decode b_MQ_age 5 = .ok (.iload 4, 2) := by decide +kernel
theorem d_MQ_age_7 : decode b_MQ_age 7 = .ok (.aload_n 0, 1) := by decide +kernel
theorem d_MQ_age_8 : decode b_MQ_age 8 = .ok (.getfield 24, 3) := by decide +kernel
theorem d_MQ_age_11 : decode b_MQ_age 11 = .ok (.arraylength, 1) := by decide +kernel
theorem d_MQ_age_12 : decode b_MQ_age 12 = .ok (.if_icmp .ge 52, 3) := by decide +kernel
theorem d_MQ_age_15 : decode b_MQ_age 15 = .ok (.aload_n 0, 1) := by decide +kernel
theorem d_MQ_age_16 : decode b_MQ_age 16 = .ok (.getfield 24, 3) := by decide +kernel
theorem d_MQ_age_19 : decode b_MQ_age 19 = .ok (.iload 4, 2) := by decide +kernel
theorem d_MQ_age_21 : decode b_MQ_age 21 = .ok (.aaload, 1) := by decide +kernel
theorem d_MQ_age_22 : decode b_MQ_age 22 = .ok (.astore 5, 2) := by decide +kernel
theorem d_MQ_age_24 : decode b_MQ_age 24 = .ok (.aload 5, 2) := by decide +kernel
theorem d_MQ_age_26 : decode b_MQ_age 26 = .ok (.invokevirtual 79, 3) := by decide +kernel
theorem d_MQ_age_29 : decode b_MQ_age 29 = .ok (.ifCond .eq 29, 3) := by decide +kernel
theorem d_MQ_age_32 : decode b_MQ_age 32 = .ok (.aload 5, 2) := by decide +kernel
theorem d_MQ_age_34 : decode b_MQ_age 34 = .ok (.invokevirtual 46, 3) := by decide +kernel
theorem d_MQ_age_37 : decode b_MQ_age 37 = .ok (.ifCond .ne 21, 3) := by decide +kernel
theorem d_MQ_age_40 : decode b_MQ_age 40 = .ok (.aload 5, 2) := by decide +kernel
theorem d_MQ_age_42 : decode b_MQ_age 42 = .ok (.getfield 179, 3) := by decide +kernel
theorem d_MQ_age_45 : decode b_MQ_age 45 = .ok (.lload_n 1, 1) := by decide +kernel
theorem d_MQ_age_46 : decode b_MQ_age 46 = .ok (.lcmp, 1) := by decide +kernel
theorem d_MQ_age_47 : decode b_MQ_age 47 = .ok (.ifCond .ge 11, 3) := by decide +kernel
theorem d_MQ_age_50 : decode b_MQ_age 50 = .ok (.aload 5, 2) := by decide +kernel
theorem d_MQ_age_52 : decode b_MQ_age 52 = .ok (.invokevirtual 182, 3) := by decide +kernel
theorem d_MQ_age_55 : decode b_MQ_age 55 = .ok (.iinc 3 1, 3) := by decide +kernel
theorem d_MQ_age_58 : decode b_MQ_age 58 = .ok (.iinc 4 1, 3) := by decide +kernel
theorem d_MQ_age_61 : decode b_MQ_age 61 = .ok (.goto (-56), 3) := by decide +kernel
theorem d_MQ_age_64 : decode b_MQ_age 64 = .ok (.iload_n 3, 1) := by decide +kernel
theorem d_MQ_age_65 : decode b_MQ_age 65 = .ok (.ireturn, 1) := by decide +kernel
theorem d_MQ_count_0 : decode b_MQ_count 0 = .ok (.aload_n 0, 1) := by decide +kernel
theorem d_MQ_count_1 : decode b_MQ_count 1 = .ok (.iload_n 1, 1) := by decide +kernel
theorem d_MQ_count_2 : decode b_MQ_count 2 = .ok (.invokevirtual 39, 3) := by decide +kernel
theorem d_MQ_count_5 : decode b_MQ_count 5 = .ok (.ifCond .eq 16, 3) := by decide +kernel
theorem d_MQ_count_8 : decode b_MQ_count 8 = .ok (.aload_n 0, 1) := by decide +kernel
theorem d_MQ_count_9 : decode b_MQ_count 9 = .ok (.getfield 24, 3) := by decide +kernel
theorem d_MQ_count_12 : decode b_MQ_count 12 = .ok (.iload_n 1, 1) := by decide +kernel
theorem d_MQ_count_13 : decode b_MQ_count 13 = .ok (.aaload, 1) := by decide +kernel
theorem d_MQ_count_14 : decode b_MQ_count 14 = .ok (.getfield 87, 3) := by decide +kernel
theorem d_MQ_count_17 : decode b_MQ_count 17 = .ok (.invokevirtual 151, 3) := by decide +kernel
theorem d_MQ_count_20 : decode b_MQ_count 20 = .ok (.ireturn, 1) := by decide +kernel
theorem d_MQ_count_21 : decode b_MQ_count 21 = .ok (.iload_n 1, 1) := by decide +kernel
theorem d_MQ_count_22 : decode b_MQ_count 22 = .ok (.bipush 32, 2) := by decide +kernel
theorem d_MQ_count_24 : decode b_MQ_count 24 = .ok (.if_icmp .lt 27, 3) := by decide +kernel
theorem d_MQ_count_27 : decode b_MQ_count 27 = .ok (.aload_n 0, 1) := by decide +kernel
theorem d_MQ_count_28 : decode b_MQ_count 28 = .ok (.iload_n 1, 1) := by decide +kernel
theorem d_MQ_count_29 : decode b_MQ_count 29 = .ok (.bipush 32, 2) := by decide +kernel
theorem d_MQ_count_31 : decode b_MQ_count 31 = .ok (.isub, 1) := by decide +kernel
theorem d_MQ_count_32 : decode b_MQ_count 32 = .ok (.invokevirtual 39, 3) := by decide +kernel
theorem d_MQ_count_35 : decode b_MQ_count 35 = .ok (.ifCond .eq 16, 3) := by decide +kernel
theorem d_MQ_count_38 : decode b_MQ_count 38 = .ok (.aload_n 0, 1) := by decide +kernel
theorem d_MQ_count_39 : decode b_MQ_count 39 = .ok (.getfield 24, 3) := by decide +kernel
theorem d_MQ_count_42 : decode b_MQ_count 42 = .ok (.iload_n 1, 1) := by decide +kernel
theorem d_MQ_count_43 : decode b_MQ_count 43 = .ok (.bipush 32, 2) := by decide +kernel
theorem d_MQ_count_45 : decode b_MQ_count 45 = .ok (.isub, 1) := by decide +kernel
theorem d_MQ_count_46 : decode b_MQ_count 46 = .ok (.aaload, 1) := by decide +kernel
theorem d_MQ_count_47 : decode b_MQ_count 47 = .ok (.getfield 185, 3) := by decide +kernel
theorem d_MQ_count_50 : decode b_MQ_count 50 = .ok (.ireturn, 1) := by decide +kernel
theorem d_MQ_count_51 : decode b_MQ_count 51 = .ok (.iload_n 1, 1) := by decide +kernel
theorem d_MQ_count_52 : decode b_MQ_count 52 = .ok (.tableswitch 58 64 67 #[32, 37, 45, 50], 32) := by decide +kernel
theorem d_MQ_count_84 : decode b_MQ_count 84 = .ok (.aload_n 0, 1) := by decide +kernel
theorem d_MQ_count_85 : decode b_MQ_count 85 = .ok (.invokevirtual 53, 3) := by decide +kernel
theorem d_MQ_count_88 : decode b_MQ_count 88 = .ok (.ireturn, 1) := by decide +kernel
theorem d_MQ_count_89 : decode b_MQ_count 89 = .ok (.aload_n 0, 1) := by decide +kernel
theorem d_MQ_count_90 : decode b_MQ_count 90 = .ok (.getfield 32, 3) := by decide +kernel
theorem d_MQ_count_93 : decode b_MQ_count 93 = .ok (.invokevirtual 151, 3) := by decide +kernel
theorem d_MQ_count_96 : decode b_MQ_count 96 = .ok (.ireturn, 1) := by decide +kernel
theorem d_MQ_count_97 : decode b_MQ_count 97 = .ok (.aload_n 0, 1) := by decide +kernel
theorem d_MQ_count_98 : decode b_MQ_count 98 = .ok (.getfield 144, 3) := by decide +kernel
theorem d_MQ_count_101 : decode b_MQ_count 101 = .ok (.ireturn, 1) := by decide +kernel
theorem d_MQ_count_102 : decode b_MQ_count 102 = .ok (.aload_n 0, 1) := by decide +kernel
theorem d_MQ_count_103 : decode b_MQ_count 103 = .ok (.getfield 36, 3) := by decide +kernel
theorem d_MQ_count_106 : decode b_MQ_count 106 = .ok (.invokevirtual 151, 3) := by decide +kernel
theorem d_MQ_count_109 : decode b_MQ_count 109 = .ok (.ireturn, 1) := by decide +kernel
theorem d_MQ_count_110 : decode b_MQ_count 110 = .ok (.bipush (-2), 2) := by decide +kernel
theorem d_MQ_count_112 : decode b_MQ_count 112 = .ok (.ireturn, 1) := by decide +kernel
theorem d_MQ_get_0 : decode b_MQ_get 0 = .ok (.aload_n 0, 1) := by decide +kernel
theorem d_MQ_get_1 : decode b_MQ_get 1 = .ok (.iload_n 1, 1) := by decide +kernel
theorem d_MQ_get_2 : decode b_MQ_get 2 = .ok (.invokevirtual 39, 3) := by decide +kernel
theorem d_MQ_get_5 : decode b_MQ_get 5 = .ok (.ifCond .ne 13, 3) := by decide +kernel
theorem d_MQ_get_8 : decode b_MQ_get 8 = .ok (.new 72, 3) := by decide +kernel
theorem d_MQ_get_11 : decode b_MQ_get 11 = .ok (.dup, 1) := by decide +kernel
theorem d_MQ_get_12 : decode b_MQ_get 12 = .ok (.ldc 74, 2) := by decide +kernel
theorem d_MQ_get_14 : decode b_MQ_get 14 = .ok (.invokespecial 76, 3) := by decide +kernel
theorem d_MQ_get_17 : decode b_MQ_get 17 = .ok (.athrow, 1) := by decide +kernel
theorem d_MQ_get_18 : decode b_MQ_get 18 = .ok (.aload_n 0, 1) := by decide +kernel
theorem d_MQ_get_19 : decode b_MQ_get 19 = .ok (.getfield 24, 3) := by decide +kernel
theorem d_MQ_get_22 : decode b_MQ_get 22 = .ok (.iload_n 1, 1) := by decide +kernel
theorem d_MQ_get_23 : decode b_MQ_get 23 = .ok (.aaload, 1) := by decide +kernel
theorem d_MQ_get_24 : decode b_MQ_get 24 = .ok (.astore_n 3, 1) := by decide +kernel
theorem d_MQ_get_25 : decode b_MQ_get 25 = .ok (.aload_n 3, 1) := by decide +kernel
theorem d_MQ_get_26 : decode b_MQ_get 26 = .ok (.invokevirtual 79, 3) := by decide +kernel
theorem d_MQ_get_29 : decode b_MQ_get 29 = .ok (.ifCond .eq 46, 3) := by decide +kernel
theorem d_MQ_get_32 : decode b_MQ_get 32 = .ok (.aload_n 3, 1) := by decide +kernel
theorem d_MQ_get_33 : decode b_MQ_get 33 = .ok (.iload_n 2, 1) := by decide +kernel
theorem d_MQ_get_34 : decode b_MQ_get 34 = .ok (.invokevirtual 82, 3) := by decide +kernel
theorem d_MQ_get_37 : decode b_MQ_get 37 = .ok (.ifCond .ne 13, 3) := by decide +kernel
theorem d_MQ_get_40 : decode b_MQ_get 40 = .ok (.new 72, 3) := by decide +kernel
theorem d_MQ_get_43 : decode b_MQ_get 43 = .ok (.dup, 1) := by decide +kernel
theorem d_MQ_get_44 : decode b_MQ_get 44 = .ok (.ldc 85, 2) := by decide +kernel
theorem d_MQ_get_46 : decode b_MQ_get 46 = .ok (.invokespecial 76, 3) := by decide +kernel
theorem d_MQ_get_49 : decode b_MQ_get 49 = .ok (.athrow, 1) := by decide +kernel
theorem d_MQ_get_50 : decode b_MQ_get 50 = .ok (.aload_n 3, 1) := by decide +kernel
theorem d_MQ_get_51 : decode b_MQ_get 51 = .ok (.aload_n 0, 1) := by decide +kernel
theorem d_MQ_get_52 : decode b_MQ_get 52 = .ok (.getfield 57, 3) := by decide +kernel
theorem d_MQ_get_55 : decode b_MQ_get 55 = .ok (.invokevirtual 61, 3) := by decide +kernel
theorem d_MQ_get_58 : decode b_MQ_get 58 = .ok (.aload_n 3, 1) := by decide +kernel
theorem d_MQ_get_59 : decode b_MQ_get 59 = .ok (.getfield 87, 3) := by decide +kernel
theorem d_MQ_get_62 : decode b_MQ_get 62 = .ok (.iload_n 2, 1) := by decide +kernel
theorem d_MQ_get_63 : decode b_MQ_get 63 = .ok (.iconst 1, 1) := by decide +kernel
theorem d_MQ_get_64 : decode b_MQ_get 64 = .ok (.isub, 1) := by decide +kernel
theorem d_MQ_get_65 : decode b_MQ_get 65 = .ok (.invokevirtual 90, 3) := by decide +kernel
theorem d_MQ_get_68 : decode b_MQ_get 68 = .ok (.checkcast 94, 3) := by decide +kernel
theorem d_MQ_get_71 : decode b_MQ_get 71 = .ok (.getfield 96, 3) := by decide +kernel
theorem d_MQ_get_74 : decode b_MQ_get 74 = .ok (.lreturn, 1) := by decide +kernel
theorem d_MQ_get_75 : decode b_MQ_get 75 = .ok (.aload_n 3, 1) := by decide +kernel
theorem d_MQ_get_76 : decode b_MQ_get 76 = .ok (.getfield 99, 3) := by decide +kernel
theorem d_MQ_get_79 : decode b_MQ_get 79 = .ok (.ifCond .eq 11, 3) := by decide +kernel
theorem d_MQ_get_82 : decode b_MQ_get 82 = .ok (.iload_n 2, 1) := by decide +kernel
theorem d_MQ_get_83 : decode b_MQ_get 83 = .ok (.aload_n 3, 1) := by decide +kernel
theorem d_MQ_get_84 : decode b_MQ_get 84 = .ok (.getfield 99, 3) := by decide +kernel
theorem d_MQ_get_87 : decode b_MQ_get 87 = .ok (.if_icmp .eq 13, 3) := by decide +kernel
theorem d_MQ_get_90 : decode b_MQ_get 90 = .ok (.new 72, 3) := by decide +kernel
theorem d_MQ_get_93 : decode b_MQ_get 93 = .ok (.dup, 1) := by decide +kernel
theorem d_MQ_get_94 : decode b_MQ_get 94 = .ok (.ldc 102, 2) := by decide +kernel
theorem d_MQ_get_96 : decode b_MQ_get 96 = .ok (.invokespecial 76, 3) := by decide +kernel
theorem d_MQ_get_99 : decode b_MQ_get 99 = .ok (.athrow, 1) := by decide +kernel
theorem d_MQ_get_100 : decode b_MQ_get 100 = .ok (.aload_n 3, 1) := by decide +kernel
theorem d_MQ_get_101 : decode b_MQ_get 101 = .ok (.getfield 104, 3) := by decide +kernel
theorem d_MQ_get_104 : decode b_MQ_get 104 = .ok (.lreturn, 1) := by decide +kernel
end
section
theorem d_La_cell_0 : decode b_La_cell 0 = .ok (.iload_n 1, 1) := by decide +kernel
theorem d_La_cell_1 : decode b_La_cell 1 = .ok (.aload_n 0, 1) := by decide +kernel
theorem d_La_cell_2 : decode b_La_cell 2 = .ok (.arraylength, 1) := by decide +kernel
theorem d_La_cell_3 : decode b_La_cell 3 = .ok (.if_icmp .ge 9, 3) := by decide +kernel
theorem d_La_cell_6 : decode b_La_cell 6 = .ok (.aload_n 0, 1) := by decide +kernel
theorem d_La_cell_7 : decode b_La_cell 7 = .ok (.iload_n 1, 1) := by decide +kernel
theorem d_La_cell_8 : decode b_La_cell 8 = .ok (.iaload, 1) := by decide +kernel
theorem d_La_cell_9 : decode b_La_cell 9 = .ok (.goto 4, 3) := by decide +kernel
theorem d_La_cell_12 : decode b_La_cell 12 = .ok (.iconst 0, 1) := by decide +kernel
theorem d_La_cell_13 : decode b_La_cell 13 = .ok (.ireturn, 1) := by decide +kernel
theorem d_La_get_0 : decode b_La_get 0 = .ok (.aload_n 3, 1) := by decide +kernel
theorem d_La_get_1 : decode b_La_get 1 = .ok (.iconst 0, 1) := by decide +kernel
theorem d_La_get_2 : decode b_La_get 2 = .ok (.aload_n 0, 1) := by decide +kernel
theorem d_La_get_3 : decode b_La_get 3 = .ok (.iload_n 1, 1) := by decide +kernel
theorem d_La_get_4 : decode b_La_get 4 = .ok (.iload_n 2, 1) := by decide +kernel
theorem d_La_get_5 : decode b_La_get 5 = .ok (.invokevirtual 7, 3) := by decide +kernel
theorem d_La_get_8 : decode b_La_get 8 = .ok (.lastore, 1) := by decide +kernel
theorem d_La_get_9 : decode b_La_get 9 = .ok (.goto 7, 3) := by decide +kernel
theorem d_La_get_12 : decode b_La_get 12 = .ok (.astore 4, 2) := by decide +kernel
theorem d_La_get_14 : decode b_La_get 14 = .ok (.iconst 1, 1) := by decide +kernel
theorem d_La_get_15 : decode b_La_get 15 = .ok (.ireturn, 1) := by decide +kernel
theorem d_La_get_16 : decode b_La_get 16 = .ok (.iconst 0, 1) := by decide +kernel
theorem d_La_get_17 : decode b_La_get 17 = .ok (.ireturn, 1) := by decide +kernel
end
section
theorem d_Mo_init_0 : decode b_Mo_init 0 = .ok (.aload_n 0, 1) := by decide +kernel
theorem d_Mo_init_1 : decode b_Mo_init 1 = .ok (.invokespecial 1, 3) := by decide +kernel
theorem d_Mo_init_4 : decode b_Mo_init 4 = .ok (.aload_n 0, 1) := by decide +kernel
theorem d_Mo_init_5 : decode b_Mo_init 5 = .ok (.sipush 1100, 3) := by decide +kernel
theorem d_Mo_init_8 : decode b_Mo_init 8 = .ok (.newarray .int, 2) := by decide +kernel
theorem d_Mo_init_10 : decode b_Mo_init 10 = .ok (.putfield 7, 3) := by decide +kernel
theorem d_Mo_init_13 : decode b_Mo_init 13 = .ok (.aload_n 0, 1) := by decide +kernel
theorem d_Mo_init_14 : decode b_Mo_init 14 = .ok (.sipush 1100, 3) := by decide +kernel
theorem d_Mo_init_17 : decode b_Mo_init 17 = .ok (.newarray .int, 2) := by decide +kernel
theorem d_Mo_init_19 : decode b_Mo_init 19 = .ok (.putfield 13, 3) := by decide +kernel
theorem d_Mo_init_22 : decode b_Mo_init 22 = .ok (.aload_n 0, 1) := by decide +kernel
theorem d_Mo_init_23 : decode b_Mo_init 23 = .ok (.sipush 1100, 3) := by decide +kernel
theorem d_Mo_init_26 : decode b_Mo_init 26 = .ok (.newarray .int, 2) := by decide +kernel
theorem d_Mo_init_28 : decode b_Mo_init 28 = .ok (.putfield 16, 3) := by decide +kernel
theorem d_Mo_init_31 : decode b_Mo_init 31 = .ok (.aload_n 0, 1) := by decide +kernel
theorem d_Mo_init_32 : decode b_Mo_init 32 = .ok (.sipush 1100, 3) := by decide +kernel
theorem d_Mo_init_35 : decode b_Mo_init 35 = .ok (.newarray .long, 2) := by decide +kernel
theorem d_Mo_init_37 : decode b_Mo_init 37 = .ok (.putfield 19, 3) := by decide +kernel
theorem d_Mo_init_40 : decode b_Mo_init 40 = .ok (.aload_n 0, 1) := by decide +kernel
theorem d_Mo_init_41 : decode b_Mo_init 41 = .ok (.bipush 32, 2) := by decide +kernel
theorem d_Mo_init_43 : decode b_Mo_init 43 = .ok (.newarray .int, 2) := by decide +kernel
theorem d_Mo_init_45 : decode b_Mo_init 45 = .ok (.putfield 23, 3) := by decide +kernel
theorem d_Mo_init_48 : decode b_Mo_init 48 = .ok (.aload_n 0, 1) := by decide +kernel
theorem d_Mo_init_49 : decode b_Mo_init 49 = .ok (.bipush 32, 2) := by decide +kernel
theorem d_Mo_init_51 : decode b_Mo_init 51 = .ok (.newarray .int, 2) := by decide +kernel
theorem d_Mo_init_53 : decode b_Mo_init 53 = .ok (.putfield 26, 3) := by decide +kernel
theorem d_Mo_init_56 : decode b_Mo_init 56 = .ok (.aload_n 0, 1) := by decide +kernel
theorem d_Mo_init_57 : decode b_Mo_init 57 = .ok (.bipush 32, 2) := by decide +kernel
theorem d_Mo_init_59 : decode b_Mo_init 59 = .ok (.newarray .int, 2) := by decide +kernel
theorem d_Mo_init_61 : decode b_Mo_init 61 = .ok (.putfield 29, 3) := by decide +kernel
theorem d_Mo_init_64 : decode b_Mo_init 64 = .ok (.aload_n 0, 1) := by decide +kernel
theorem d_Mo_init_65 : decode b_Mo_init 65 = .ok (.bipush 32, 2) := by decide +kernel
theorem d_Mo_init_67 : decode b_Mo_init 67 = .ok (.newarray .int, 2) := by decide +kernel
theorem d_Mo_init_69 : decode b_Mo_init 69 = .ok (.putfield 32, 3) := by decide +kernel
theorem d_Mo_init_72 : decode b_Mo_init 72 = .ok (.aload_n 0, 1) := by decide +kernel
theorem d_Mo_init_73 : decode b_Mo_init 73 = .ok (.bipush 32, 2) := by decide +kernel
theorem d_Mo_init_75 : decode b_Mo_init 75 = .ok (.newarray .int, 2) := by decide +kernel
theorem d_Mo_init_77 : decode b_Mo_init 77 = .ok (.putfield 35, 3) := by decide +kernel
theorem d_Mo_init_80 : decode b_Mo_init 80 = .ok (.aload_n 0, 1) := by decide +kernel
theorem d_Mo_init_81 : decode b_Mo_init 81 = .ok (.bipush 32, 2) := by decide +kernel
theorem d_Mo_init_83 : decode b_Mo_init 83 = .ok (.newarray .int, 2) := by decide +kernel
theorem d_Mo_init_85 : decode b_Mo_init 85 = .ok (.putfield 38, 3) := by decide +kernel
theorem d_Mo_init_88 : decode b_Mo_init 88 = .ok (.aload_n 0, 1) := by decide +kernel
theorem d_Mo_init_89 : decode b_Mo_init 89 = .ok (.bipush 32, 2) := by decide +kernel
theorem d_Mo_init_91 : decode b_Mo_init 91 = .ok (.newarray .boolean, 2) := by decide +kernel
theorem d_Mo_init_93 : decode b_Mo_init 93 = .ok (.putfield 41, 3) := by decide +kernel
theorem d_Mo_init_96 : decode b_Mo_init 96 = .ok (.aload_n 0, 1) := by decide +kernel
theorem d_Mo_init_97 : decode b_Mo_init 97 = .ok (.bipush 32, 2) := by decide +kernel
theorem d_Mo_init_99 : decode b_Mo_init 99 = .ok (.newarray .boolean, 2) := by decide +kernel
theorem d_Mo_init_101 : decode b_Mo_init 101 = .ok (.putfield 45, 3) := by decide +kernel
theorem d_Mo_init_104 : decode b_Mo_init 104 = .ok (.aload_n 0, 1) := by decide +kernel
theorem d_Mo_init_105 : decode b_Mo_init 105 = .ok (.bipush 32, 2) := by decide +kernel
theorem d_Mo_init_107 : decode b_Mo_init 107 = .ok (.newarray .long, 2) := by decide +kernel
theorem d_Mo_init_109 : decode b_Mo_init 109 = .ok (.putfield 48, 3) := by decide +kernel
theorem d_Mo_init_112 : decode b_Mo_init 112 = .ok (.aload_n 0, 1) := by decide +kernel
theorem d_Mo_init_113 : decode b_Mo_init 113 = .ok (.bipush 32, 2) := by decide +kernel
theorem d_Mo_init_115 : decode b_Mo_init 115 = .ok (.newarray .long, 2) := by decide +kernel
theorem d_Mo_init_117 : decode b_Mo_init 117 = .ok (.putfield 51, 3) := by decide +kernel
theorem d_Mo_init_120 : decode b_Mo_init 120 = .ok (.aload_n 0, 1) := by decide +kernel
theorem d_Mo_init_121 : decode b_Mo_init 121 = .ok (.sipush 256, 3) := by decide +kernel
theorem d_Mo_init_124 : decode b_Mo_init 124 = .ok (.newarray .int, 2) := by decide +kernel
theorem d_Mo_init_126 : decode b_Mo_init 126 = .ok (.putfield 54, 3) := by decide +kernel
theorem d_Mo_init_129 : decode b_Mo_init 129 = .ok (.aload_n 0, 1) := by decide +kernel
theorem d_Mo_init_130 : decode b_Mo_init 130 = .ok (.sipush 4000, 3) := by decide +kernel
theorem d_Mo_init_133 : decode b_Mo_init 133 = .ok (.newarray .int, 2) := by decide +kernel
theorem d_Mo_init_135 : decode b_Mo_init 135 = .ok (.putfield 57, 3) := by decide +kernel
theorem d_Mo_init_138 : decode b_Mo_init 138 = .ok (.aload_n 0, 1) := by decide +kernel
theorem d_Mo_init_139 : decode b_Mo_init 139 = .ok (.sipush 4000, 3) := by decide +kernel
theorem d_Mo_init_142 : decode b_Mo_init 142 = .ok (.newarray .boolean, 2) := by decide +kernel
theorem d_Mo_init_144 : decode b_Mo_init 144 = .ok (.putfield 60, 3) := by decide +kernel
theorem d_Mo_init_147 : decode b_Mo_init 147 = .ok (.aload_n 0, 1) := by decide +kernel
theorem d_Mo_init_148 : decode b_Mo_init 148 = .ok (.sipush 200, 3) := by decide +kernel
theorem d_Mo_init_151 : decode b_Mo_init 151 = .ok (.newarray .int, 2) := by decide +kernel
theorem d_Mo_init_153 : decode b_Mo_init 153 = .ok (.putfield 63, 3) := by decide +kernel
theorem d_Mo_init_156 : decode b_Mo_init 156 = .ok (.aload_n 0, 1) := by decide +kernel
theorem d_Mo_init_157 : decode b_Mo_init 157 = .ok (.sipush 200, 3) := by decide +kernel
theorem d_Mo_init_160 : decode b_Mo_init 160 = .ok (.newarray .int, 2) := by decide +kernel
theorem d_Mo_init_162 : decode b_Mo_init 162 = .ok (.putfield 66, 3) := by decide +kernel
theorem d_Mo_init_165 : decode b_Mo_init 165 = .ok (.aload_n 0, 1) := by decide +kernel
theorem d_Mo_init_166 : decode b_Mo_init 166 = .ok (.sipush 200, 3) := by decide +kernel
theorem d_Mo_init_169 : decode b_Mo_init 169 = .ok (.newarray .long, 2) := by decide +kernel
theorem d_Mo_init_171 : decode b_Mo_init 171 = .ok (.putfield 69, 3) := by decide +kernel
theorem d_Mo_init_174 : decode b_Mo_init 174 = .ok (.aload_n 0, 1) := by decide +kernel
theorem d_Mo_init_175 : decode b_Mo_init 175 = .ok (.iload_n 1, 1) := by decide +kernel
theorem d_Mo_init_176 : decode b_Mo_init 176 = .ok (.iconst 1, 1) := by decide +kernel
theorem d_Mo_init_177 : decode b_Mo_init 177 = .ok (.if_icmp .ge 7, 3) := by decide +kernel
theorem d_Mo_init_180 : decode b_Mo_init 180 = .ok (.iconst 1, 1) := by decide +kernel
theorem d_Mo_init_181 : decode b_Mo_init 181 = .ok (.goto 17, 3) := by decide +kernel
theorem d_Mo_init_184 : decode b_Mo_init 184 = .ok (.iload_n 1, 1) := by decide +kernel
theorem d_Mo_init_185 : decode b_Mo_init 185 = .ok (.sipush 4096, 3) := by decide +kernel
theorem d_Mo_init_188 : decode b_Mo_init 188 = .ok (.if_icmp .le 9, 3) := by decide +kernel
theorem d_Mo_init_191 : decode b_Mo_init 191 = .ok (.sipush 4096, 3) := by decide +kernel
theorem d_Mo_init_194 : decode b_Mo_init 194 = .ok (.goto 4, 3) := by decide +kernel
theorem d_Mo_init_197 : decode b_Mo_init 197 = .ok (.iload_n 1, 1) := by decide +kernel
theorem d_Mo_init_198 : decode b_Mo_init 198 = .ok (.putfield 72, 3) := by decide +kernel
theorem d_Mo_init_201 : decode b_Mo_init 201 = .ok (.iconst 0, 1) := by decide +kernel
theorem d_Mo_init_202 : decode b_Mo_init 202 = .ok (.istore_n 2, 1) := by decide +kernel
theorem d_Mo_init_203 : decode b_Mo_init 203 = .ok (.iload_n 2, 1) := by decide +kernel
theorem d_Mo_init_204 : decode b_Mo_init 204 = .ok (.bipush 32, 2) := by decide +kernel
theorem d_Mo_init_206 : decode b_Mo_init 206 = .ok (.if_icmp .ge 16, 3) := by decide +kernel
theorem d_Mo_init_209 : decode b_Mo_init 209 = .ok (.aload_n 0, 1) := by decide +kernel
theorem d_Mo_init_210 : decode b_Mo_init 210 = .ok (.getfield 23, 3) := by decide +kernel
theorem d_Mo_init_213 : decode b_Mo_init 213 = .ok (.iload_n 2, 1) := by decide +kernel
theorem d_Mo_init_214 : decode b_Mo_init 214 = .ok (.iconst (-1), 1) := by decide +kernel
theorem d_Mo_init_215 : decode b_Mo_init 215 = .ok (.iastore, 1) := by decide +kernel
theorem d_Mo_init_216 : decode b_Mo_init 216 = .ok (.iinc 2 1, 3) := by decide +kernel
theorem d_Mo_init_219 : decode b_Mo_init 219 = .ok (.goto (-16), 3) := by decide +kernel
theorem d_Mo_init_222 : decode b_Mo_init 222 = .ok (.return_, 1) := by decide +kernel
theorem d_Mo_thrown_0 : decode b_Mo_thrown 0 = .ok (.aload_n 0, 1) := by decide +kernel
theorem d_Mo_thrown_1 : decode b_Mo_thrown 1 = .ok (.getfield 76, 3) := by decide +kernel
theorem d_Mo_thrown_4 : decode b_Mo_thrown 4 = .ok (.ireturn, 1) := by decide +kernel
theorem d_Mo_put_0 : decode b_Mo_put 0 = .ok (.aload_n 0, 1) := by decide +kernel
theorem d_Mo_put_1 : decode b_Mo_put 1 = .ok (.aload_n 0, 1) := by decide +kernel
theorem d_Mo_put_2 : decode b_Mo_put 2 = .ok (.iload_n 1, 1) := by decide +kernel
theorem d_Mo_put_3 : decode b_Mo_put 3 = .ok (.iload_n 2, 1) := by decide +kernel
theorem d_Mo_put_4 : decode b_Mo_put 4 = .ok (.lload_n 3, 1) := by decide +kernel
theorem d_Mo_put_5 : decode b_Mo_put 5 = .ok (.iload 5, 2) := by decide +kernel
theorem d_Mo_put_7 : decode b_Mo_put 7 = .ok (.invokevirtual 116, 3) := by decide +kernel
theorem d_Mo_put_10 : decode b_Mo_put 10 = .ok (.invokevirtual 120, 3) := by decide +kernel
theorem d_Mo_put_13 : decode b_Mo_put 13 = .ok (.ireturn, 1) := by decide +kernel
theorem d_Mo_putting_0 : decode b_Mo_putting 0 = .ok (.iload_n 1, 1) := by decide +kernel
theorem d_Mo_putting_1 : decode b_Mo_putting 1 = .ok (.invokestatic 105, 3) := by decide +kernel
theorem d_Mo_putting_4 : decode b_Mo_putting 4 = .ok (.ifCond .eq 24, 3) := by decide +kernel
theorem d_Mo_putting_7 : decode b_Mo_putting 7 = .ok (.iload_n 2, 1) := by decide +kernel
theorem d_Mo_putting_8 : decode b_Mo_putting 8 = .ok (.ifCond .lt 20, 3) := by decide +kernel
theorem d_Mo_putting_11 : decode b_Mo_putting 11 = .ok (.iload_n 2, 1) := by decide +kernel
theorem d_Mo_putting_12 : decode b_Mo_putting 12 = .ok (.iconst 3, 1) := by decide +kernel
theorem d_Mo_putting_13 : decode b_Mo_putting 13 = .ok (.if_icmp .gt 15, 3) := by decide +kernel
theorem d_Mo_putting_16 : decode b_Mo_putting 16 = .ok (.iload 5, 2) := by decide +kernel
theorem d_Mo_putting_18 : decode b_Mo_putting 18 = .ok (.ifCond .lt 10, 3) := by decide +kernel
theorem d_Mo_putting_21 : decode b_Mo_putting 21 = .ok (.iload 5, 2) := by decide +kernel
theorem d_Mo_putting_23 : decode b_Mo_putting 23 = .ok (.bipush 9, 2) := by decide +kernel
theorem d_Mo_putting_25 : decode b_Mo_putting 25 = .ok (.if_icmp .le 6, 3) := by decide +kernel
theorem d_Mo_putting_28 : decode b_Mo_putting 28 = .ok (.bipush (-2), 2) := by decide +kernel
theorem d_Mo_putting_30 : decode b_Mo_putting 30 = .ok (.ireturn, 1) := by decide +kernel
theorem d_Mo_putting_31 : decode b_Mo_putting 31 = .ok (.aload_n 0, 1) := by decide +kernel
theorem d_Mo_putting_32 : decode b_Mo_putting 32 = .ok (.getfield 23, 3) := by decide +kernel
theorem d_Mo_putting_35 : decode b_Mo_putting 35 = .ok (.iload_n 1, 1) := by decide +kernel
theorem d_Mo_putting_36 : decode b_Mo_putting 36 = .ok (.iaload, 1) := by decide +kernel
theorem d_Mo_putting_37 : decode b_Mo_putting 37 = .ok (.iconst (-1), 1) := by decide +kernel
theorem d_Mo_putting_38 : decode b_Mo_putting 38 = .ok (.if_icmp .eq 13, 3) := by decide +kernel
theorem d_Mo_putting_41 : decode b_Mo_putting 41 = .ok (.aload_n 0, 1) := by decide +kernel
theorem d_Mo_putting_42 : decode b_Mo_putting 42 = .ok (.getfield 23, 3) := by decide +kernel
theorem d_Mo_putting_45 : decode b_Mo_putting 45 = .ok (.iload_n 1, 1) := by decide +kernel
theorem d_Mo_putting_46 : decode b_Mo_putting 46 = .ok (.iaload, 1) := by decide +kernel
theorem d_Mo_putting_47 : decode b_Mo_putting 47 = .ok (.iload_n 2, 1) := by decide +kernel
theorem d_Mo_putting_48 : decode b_Mo_putting 48 = .ok (.if_icmp .ne 17, 3) := by decide +kernel
theorem d_Mo_putting_51 : decode b_Mo_putting 51 = .ok (.aload_n 0, 1) := by decide +kernel
theorem d_Mo_putting_52 : decode b_Mo_putting 52 = .ok (.getfield 29, 3) := by decide +kernel
theorem d_Mo_putting_55 : decode b_Mo_putting 55 = .ok (.iload_n 1, 1) := by decide +kernel
theorem d_Mo_putting_56 : decode b_Mo_putting 56 = .ok (.iaload, 1) := by decide +kernel
theorem d_Mo_putting_57 : decode b_Mo_putting 57 = .ok (.ifCond .le 11, 3) := by decide +kernel
theorem d_Mo_putting_60 : decode b_Mo_putting 60 = .ok (.iload_n 2, 1) := by decide +kernel
theorem d_Mo_putting_61 : decode b_Mo_putting 61 = .ok (.iconst 2, 1) := by decide +kernel
theorem d_Mo_putting_62 : decode b_Mo_putting 62 = .ok (.if_icmp .ge 6, 3) := by decide +kernel
theorem d_Mo_putting_65 : decode b_Mo_putting 65 = .ok (.bipush (-3), 2) := by decide +kernel
theorem d_Mo_putting_67 : decode b_Mo_putting 67 = .ok (.ireturn, 1) := by decide +kernel
theorem d_Mo_putting_68 : decode b_Mo_putting 68 = .ok (.iload_n 2, 1) := by decide +kernel
theorem d_Mo_putting_69 : decode b_Mo_putting 69 = .ok (.iconst 2, 1) := by decide +kernel
theorem d_Mo_putting_70 : decode b_Mo_putting 70 = .ok (.irem, 1) := by decide +kernel
theorem d_Mo_putting_71 : decode b_Mo_putting 71 = .ok (.iconst 1, 1) := by decide +kernel
theorem d_Mo_putting_72 : decode b_Mo_putting 72 = .ok (.if_icmp .ne 7, 3) := by decide +kernel
theorem d_Mo_putting_75 : decode b_Mo_putting 75 = .ok (.iconst 1, 1) := by decide +kernel
theorem d_Mo_putting_76 : decode b_Mo_putting 76 = .ok (.goto 4, 3) := by decide +kernel
theorem d_Mo_putting_79 : decode b_Mo_putting 79 = .ok (.iconst 0, 1) := by decide +kernel
theorem d_Mo_putting_80 : decode b_Mo_putting 80 = .ok (.istore 6, 2) := by decide +kernel
theorem d_Mo_putting_82 : decode b_Mo_putting 82 = .ok (.iload 6, 2) := by decide +kernel
theorem d_Mo_putting_84 : decode b_Mo_putting 84 = .ok (.ifCond .eq 24, 3) := by decide +kernel
theorem d_Mo_putting_87 : decode b_Mo_putting 87 = .ok (.aload_n 0, 1) := by decide +kernel
theorem d_Mo_putting_88 : decode b_Mo_putting 88 = .ok (.iload_n 1, 1) := by decide +kernel
theorem d_Mo_putting_89 : decode b_Mo_putting 89 = .ok (.invokevirtual 109, 3) := by decide +kernel
theorem d_Mo_putting_92 : decode b_Mo_putting 92 = .ok (.ifCond .eq 16, 3) := by decide +kernel
theorem d_Mo_putting_95 : decode b_Mo_putting 95 = .ok (.aload_n 0, 1) := by decide +kernel
theorem d_Mo_putting_96 : decode b_Mo_putting 96 = .ok (.iload_n 1, 1) := by decide +kernel
theorem d_Mo_putting_97 : decode b_Mo_putting 97 = .ok (.invokevirtual 109, 3) := by decide +kernel
theorem d_Mo_putting_100 : decode b_Mo_putting 100 = .ok (.iload 5, 2) := by decide +kernel
theorem d_Mo_putting_102 : decode b_Mo_putting 102 = .ok (.if_icmp .eq 6, 3) := by decide +kernel
theorem d_Mo_putting_105 : decode b_Mo_putting 105 = .ok (.bipush (-5), 2) := by decide +kernel
theorem d_Mo_putting_107 : decode b_Mo_putting 107 = .ok (.ireturn, 1) := by decide +kernel
theorem d_Mo_putting_108 : decode b_Mo_putting 108 = .ok (.aload_n 0, 1) := by decide +kernel
theorem d_Mo_putting_109 : decode b_Mo_putting 109 = .ok (.getfield 79, 3) := by decide +kernel
theorem d_Mo_putting_112 : decode b_Mo_putting 112 = .ok (.aload_n 0, 1) := by decide +kernel
theorem d_Mo_putting_113 : decode b_Mo_putting 113 = .ok (.getfield 72, 3) := by decide +kernel
theorem d_Mo_putting_116 : decode b_Mo_putting 116 = .ok (.if_icmp .lt 5, 3) := by decide +kernel
theorem d_Mo_putting_119 : decode b_Mo_putting 119 = .ok (.iconst (-1), 1) := by decide +kernel
theorem d_Mo_putting_120 : decode b_Mo_putting 120 = .ok (.ireturn, 1) := by decide +kernel
theorem d_Mo_putting_121 : decode b_Mo_putting 121 = .ok (.aload_n 0, 1) := by decide +kernel
theorem d_Mo_putting_122 : decode b_Mo_putting 122 = .ok (.getfield 23, 3) := by decide +kernel
theorem d_Mo_putting_125 : decode b_Mo_putting 125 = .ok (.iload_n 1, 1) := by decide +kernel
theorem d_Mo_putting_126 : decode b_Mo_putting 126 = .ok (.iload_n 2, 1) := by decide +kernel
theorem d_Mo_putting_127 : decode b_Mo_putting 127 = .ok (.iastore, 1) := by decide +kernel
theorem d_Mo_putting_128 : decode b_Mo_putting 128 = .ok (.aload_n 0, 1) := by decide +kernel
theorem d_Mo_putting_129 : decode b_Mo_putting 129 = .ok (.getfield 26, 3) := by decide +kernel
theorem d_Mo_putting_132 : decode b_Mo_putting 132 = .ok (.iload_n 1, 1) := by decide +kernel
theorem d_Mo_putting_133 : decode b_Mo_putting 133 = .ok (.iload_n 2, 1) := by decide +kernel
theorem d_Mo_putting_134 : decode b_Mo_putting 134 = .ok (.iconst 1, 1) := by decide +kernel
theorem d_Mo_putting_135 : decode b_Mo_putting 135 = .ok (.if_icmp .le 14, 3) := by decide +kernel
theorem d_Mo_putting_138 : decode b_Mo_putting 138 = .ok (.aload_n 0, 1) := by decide +kernel
theorem d_Mo_putting_139 : decode b_Mo_putting 139 = .ok (.getfield 26, 3) := by decide +kernel
theorem d_Mo_putting_142 : decode b_Mo_putting 142 = .ok (.iload_n 1, 1) := by decide +kernel
theorem d_Mo_putting_143 : decode b_Mo_putting 143 = .ok (.iaload, 1) := by decide +kernel
theorem d_Mo_putting_144 : decode b_Mo_putting 144 = .ok (.iconst 1, 1) := by decide +kernel
theorem d_Mo_putting_145 : decode b_Mo_putting 145 = .ok (.iadd, 1) := by decide +kernel
theorem d_Mo_putting_146 : decode b_Mo_putting 146 = .ok (.goto 9, 3) := by decide +kernel
theorem d_Mo_putting_149 : decode b_Mo_putting 149 = .ok (.aload_n 0, 1) := by decide +kernel
theorem d_Mo_putting_150 : decode b_Mo_putting 150 = .ok (.getfield 26, 3) := by decide +kernel
theorem d_Mo_putting_153 : decode b_Mo_putting 153 = .ok (.iload_n 1, 1) := by decide +kernel
theorem d_Mo_putting_154 : decode b_Mo_putting 154 = .ok (.iaload, 1) := by decide +kernel
theorem d_Mo_putting_155 : decode b_Mo_putting 155 = .ok (.iastore, 1) := by decide +kernel
theorem d_Mo_putting_156 : decode b_Mo_putting 156 = .ok (.aload_n 0, 1) := by decide +kernel
theorem d_Mo_putting_157 : decode b_Mo_putting 157 = .ok (.getfield 7, 3) := by decide +kernel
theorem d_Mo_putting_160 : decode b_Mo_putting 160 = .ok (.aload_n 0, 1) := by decide +kernel
theorem d_Mo_putting_161 : decode b_Mo_putting 161 = .ok (.getfield 79, 3) := by decide +kernel
theorem d_Mo_putting_164 : decode b_Mo_putting 164 = .ok (.iload_n 1, 1) := by decide +kernel
theorem d_Mo_putting_165 : decode b_Mo_putting 165 = .ok (.iastore, 1) := by decide +kernel
theorem d_Mo_putting_166 : decode b_Mo_putting 166 = .ok (.aload_n 0, 1) := by decide +kernel
theorem d_Mo_putting_167 : decode b_Mo_putting 167 = .ok (.getfield 19, 3) := by decide +kernel
theorem d_Mo_putting_170 : decode b_Mo_putting 170 = .ok (.aload_n 0, 1) := by decide +kernel
theorem d_Mo_putting_171 : decode b_Mo_putting 171 = .ok (.getfield 79, 3) := by decide +kernel
theorem d_Mo_putting_174 : decode b_Mo_putting 174 = .ok (.lload_n 3, 1) := by decide +kernel
theorem d_Mo_putting_175 : decode b_Mo_putting 175 = .ok (.lastore, 1) := by decide +kernel
theorem d_Mo_putting_176 : decode b_Mo_putting 176 = .ok (.aload_n 0, 1) := by decide +kernel
theorem d_Mo_putting_177 : decode b_Mo_putting 177 = .ok (.getfield 16, 3) := by decide +kernel
theorem d_Mo_putting_180 : decode b_Mo_putting 180 = .ok (.aload_n 0, 1) := by decide +kernel
theorem d_Mo_putting_181 : decode b_Mo_putting 181 = .ok (.getfield 79, 3) := by decide +kernel
theorem d_Mo_putting_184 : decode b_Mo_putting 184 = .ok (.iload 6, 2) := by decide +kernel
theorem d_Mo_putting_186 : decode b_Mo_putting 186 = .ok (.ifCond .eq 8, 3) := by decide +kernel
theorem d_Mo_putting_189 : decode b_Mo_putting 189 = .ok (.iload 5, 2) := by decide +kernel
theorem d_Mo_putting_191 : decode b_Mo_putting 191 = .ok (.goto 4, 3) := by decide +kernel
theorem d_Mo_putting_194 : decode b_Mo_putting 194 = .ok (.iconst 0, 1) := by decide +kernel
theorem d_Mo_putting_195 : decode b_Mo_putting 195 = .ok (.iastore, 1) := by decide +kernel
theorem d_Mo_putting_196 : decode b_Mo_putting 196 = .ok (.aload_n 0, 1) := by decide +kernel
theorem d_Mo_putting_197 : decode b_Mo_putting 197 = .ok (.dup, 1) := by decide +kernel
theorem d_Mo_putting_198 : decode b_Mo_putting 198 = .ok (.getfield 79, 3) := by decide +kernel
theorem d_Mo_putting_201 : decode b_Mo_putting 201 = .ok (.iconst 1, 1) := by decide +kernel
theorem d_Mo_putting_202 : decode b_Mo_putting 202 = .ok (.iadd, 1) := by decide +kernel
theorem d_Mo_putting_203 : decode b_Mo_putting 203 = .ok (.putfield 79, 3) := by decide +kernel
theorem d_Mo_putting_206 : decode b_Mo_putting 206 = .ok (.aload_n 0, 1) := by decide +kernel
theorem d_Mo_putting_207 : decode b_Mo_putting 207 = .ok (.getfield 13, 3) := by decide +kernel
theorem d_Mo_putting_210 : decode b_Mo_putting 210 = .ok (.aload_n 0, 1) := by decide +kernel
theorem d_Mo_putting_211 : decode b_Mo_putting 211 = .ok (.getfield 79, 3) := by decide +kernel
theorem d_Mo_putting_214 : decode b_Mo_putting 214 = .ok (.iconst 1, 1) := by decide +kernel
theorem d_Mo_putting_215 : decode b_Mo_putting 215 = .ok (.isub, 1) := by decide +kernel
theorem d_Mo_putting_216 : decode b_Mo_putting 216 = .ok (.iload_n 2, 1) := by decide +kernel
theorem d_Mo_putting_217 : decode b_Mo_putting 217 = .ok (.iconst 1, 1) := by decide +kernel
theorem d_Mo_putting_218 : decode b_Mo_putting 218 = .ok (.if_icmp .le 12, 3) := by decide +kernel
theorem d_Mo_putting_221 : decode b_Mo_putting 221 = .ok (.aload_n 0, 1) := by decide +kernel
theorem d_Mo_putting_222 : decode b_Mo_putting 222 = .ok (.getfield 26, 3) := by decide +kernel
theorem d_Mo_putting_225 : decode b_Mo_putting 225 = .ok (.iload_n 1, 1) := by decide +kernel
theorem d_Mo_putting_226 : decode b_Mo_putting 226 = .ok (.iaload, 1) := by decide +kernel
theorem d_Mo_putting_227 : decode b_Mo_putting 227 = .ok (.goto 8, 3) := by decide +kernel
theorem d_Mo_putting_230 : decode b_Mo_putting 230 = .ok (.aload_n 0, 1) := by decide +kernel
theorem d_Mo_putting_231 : decode b_Mo_putting 231 = .ok (.iload_n 1, 1) := by decide +kernel
theorem d_Mo_putting_232 : decode b_Mo_putting 232 = .ok (.invokevirtual 82, 3) := by decide +kernel
theorem d_Mo_putting_235 : decode b_Mo_putting 235 = .ok (.iastore, 1) := by decide +kernel
theorem d_Mo_putting_236 : decode b_Mo_putting 236 = .ok (.aload_n 0, 1) := by decide +kernel
theorem d_Mo_putting_237 : decode b_Mo_putting 237 = .ok (.getfield 48, 3) := by decide +kernel
theorem d_Mo_putting_240 : decode b_Mo_putting 240 = .ok (.iload_n 1, 1) := by decide +kernel
theorem d_Mo_putting_241 : decode b_Mo_putting 241 = .ok (.aload_n 0, 1) := by decide +kernel
theorem d_Mo_putting_242 : decode b_Mo_putting 242 = .ok (.getfield 112, 3) := by decide +kernel
theorem d_Mo_putting_245 : decode b_Mo_putting 245 = .ok (.lastore, 1) := by decide +kernel
theorem d_Mo_putting_246 : decode b_Mo_putting 246 = .ok (.aload_n 0, 1) := by decide +kernel
theorem d_Mo_putting_247 : decode b_Mo_putting 247 = .ok (.getfield 13, 3) := by decide +kernel
theorem d_Mo_putting_250 : decode b_Mo_putting 250 = .ok (.aload_n 0, 1) := by decide +kernel
theorem d_Mo_putting_251 : decode b_Mo_putting 251 = .ok (.getfield 79, 3) := by decide +kernel
theorem d_Mo_putting_254 : decode b_Mo_putting 254 = .ok (.iconst 1, 1) := by decide +kernel
theorem d_Mo_putting_255 : decode b_Mo_putting 255 = .ok (.isub, 1) := by decide +kernel
theorem d_Mo_putting_256 : decode b_Mo_putting 256 = .ok (.iaload, 1) := by decide +kernel
theorem d_Mo_putting_257 : decode b_Mo_putting 257 = .ok (.ireturn, 1) := by decide +kernel
theorem d_Mo_isQueue_0 : decode b_Mo_isQueue 0 = .ok (.iload_n 0, 1) := by decide +kernel
theorem d_Mo_isQueue_1 : decode b_Mo_isQueue 1 = .ok (.ifCond .lt 13, 3) := by decide +kernel
theorem d_Mo_isQueue_4 : decode b_Mo_isQueue 4 = .ok (.iload_n 0, 1) := by decide +kernel
theorem d_Mo_isQueue_5 : decode b_Mo_isQueue 5 = .ok (.bipush 32, 2) := by decide +kernel
theorem d_Mo_isQueue_7 : decode b_Mo_isQueue 7 = .ok (.if_icmp .ge 7, 3) := by decide +kernel
theorem d_Mo_isQueue_10 : decode b_Mo_isQueue 10 = .ok (.iconst 1, 1) := by decide +kernel
theorem d_Mo_isQueue_11 : decode b_Mo_isQueue 11 = .ok (.goto 4, 3) := by decide +kernel
theorem d_Mo_isQueue_14 : decode b_Mo_isQueue 14 = .ok (.iconst 0, 1) := by decide +kernel
theorem d_Mo_isQueue_15 : decode b_Mo_isQueue 15 = .ok (.ireturn, 1) := by decide +kernel
theorem d_Mo_lockOf_0 : decode b_Mo_lockOf 0 = .ok (.iconst 0, 1) := by decide +kernel
theorem d_Mo_lockOf_1 : decode b_Mo_lockOf 1 = .ok (.istore_n 2, 1) := by decide +kernel
theorem d_Mo_lockOf_2 : decode b_Mo_lockOf 2 = .ok (.iconst 0, 1) := by decide +kernel
theorem d_Mo_lockOf_3 : decode b_Mo_lockOf 3 = .ok (.istore_n 3, 1) := by decide +kernel
theorem d_Mo_lockOf_4 : decode b_Mo_lockOf 4 = .ok (.iload_n 3, 1) := by decide +kernel
theorem d_Mo_lockOf_5 : decode b_Mo_lockOf 5 = .ok (.aload_n 0, 1) := by decide +kernel
theorem d_Mo_lockOf_6 : decode b_Mo_lockOf 6 = .ok (.getfield 79, 3) := by decide +kernel
theorem d_Mo_lockOf_9 : decode b_Mo_lockOf 9 = .ok (.if_icmp .ge 39, 3) := by decide +kernel
theorem d_Mo_lockOf_12 : decode b_Mo_lockOf 12 = .ok (.aload_n 0, 1) := by decide +kernel
theorem d_Mo_lockOf_13 : decode b_Mo_lockOf 13 = .ok (.getfield 7, 3) := by decide +kernel
theorem d_Mo_lockOf_16 : decode b_Mo_lockOf 16 = .ok (.iload_n 3, 1) := by decide +kernel
theorem d_Mo_lockOf_17 : decode b_Mo_lockOf 17 = .ok (.iaload, 1) := by decide +kernel
theorem d_Mo_lockOf_18 : decode b_Mo_lockOf 18 = .ok (.iload_n 1, 1) := by decide +kernel
theorem d_Mo_lockOf_19 : decode b_Mo_lockOf 19 = .ok (.if_icmp .ne 21, 3) := by decide +kernel
theorem d_Mo_lockOf_22 : decode b_Mo_lockOf 22 = .ok (.aload_n 0, 1) := by decide +kernel
theorem d_Mo_lockOf_23 : decode b_Mo_lockOf 23 = .ok (.getfield 16, 3) := by decide +kernel
theorem d_Mo_lockOf_26 : decode b_Mo_lockOf 26 = .ok (.iload_n 3, 1) := by decide +kernel
theorem d_Mo_lockOf_27 : decode b_Mo_lockOf 27 = .ok (.iaload, 1) := by decide +kernel
theorem d_Mo_lockOf_28 : decode b_Mo_lockOf 28 = .ok (.ifCond .le 12, 3) := by decide +kernel
theorem d_Mo_lockOf_31 : decode b_Mo_lockOf 31 = .ok (.aload_n 0, 1) := by decide +kernel
theorem d_Mo_lockOf_32 : decode b_Mo_lockOf 32 = .ok (.getfield 16, 3) := by decide +kernel
theorem d_Mo_lockOf_35 : decode b_Mo_lockOf 35 = .ok (.iload_n 3, 1) := by decide +kernel
theorem d_Mo_lockOf_36 : decode b_Mo_lockOf 36 = .ok (.iaload, 1) := by decide +kernel
theorem d_Mo_lockOf_37 : decode b_Mo_lockOf 37 = .ok (.goto 4, 3) := by decide +kernel
theorem d_Mo_lockOf_40 : decode b_Mo_lockOf 40 = .ok (.iload_n 2, 1) := by decide +kernel
theorem d_Mo_lockOf_41 : decode b_Mo_lockOf 41 = .ok (.istore_n 2, 1) := by decide +kernel
theorem d_Mo_lockOf_42 : decode b_Mo_lockOf 42 = .ok (.iinc 3 1, 3) := by decide +kernel
theorem d_Mo_lockOf_45 : decode b_Mo_lockOf 45 = .ok (.goto (-41), 3) := by decide +kernel
theorem d_Mo_lockOf_48 : decode b_Mo_lockOf 48 = .ok (.iload_n 2, 1) := by decide +kernel
theorem d_Mo_lockOf_49 : decode b_Mo_lockOf 49 = .ok (.ireturn, 1) := by decide +kernel
theorem d_Mo_many_0 : decode b_Mo_many 0 = .ok (.iconst 0, 1) := by decide +kernel
theorem d_Mo_many_1 : decode b_Mo_many 1 = .ok (.istore_n 2, 1) := by decide +kernel
theorem d_Mo_many_2 : decode b_Mo_many 2 = .ok (.iconst 0, 1) := by decide +kernel
theorem d_Mo_many_3 : decode b_Mo_many 3 = .ok (.istore_n 3, 1) := by decide +kernel
theorem d_Mo_many_4 : decode b_Mo_many 4 = .ok (.iload_n 3, 1) := by decide +kernel
theorem d_Mo_many_5 : decode b_Mo_many 5 = .ok (.aload_n 0, 1) := by decide +kernel
theorem d_Mo_many_6 : decode b_Mo_many 6 = .ok (.getfield 79, 3) := by decide +kernel
theorem d_Mo_many_9 : decode b_Mo_many 9 = .ok (.if_icmp .ge 27, 3) := by decide +kernel
theorem d_Mo_many_12 : decode b_Mo_many 12 = .ok (.iload_n 2, 1) := by decide +kernel
theorem d_Mo_many_13 : decode b_Mo_many 13 = .ok (.aload_n 0, 1) := by decide +kernel
theorem d_Mo_many_14 : decode b_Mo_many 14 = .ok (.getfield 7, 3) := by decide +kernel
theorem d_Mo_many_17 : decode b_Mo_many 17 = .ok (.iload_n 3, 1) := by decide +kernel
theorem d_Mo_many_18 : decode b_Mo_many 18 = .ok (.iaload, 1) := by decide +kernel
theorem d_Mo_many_19 : decode b_Mo_many 19 = .ok (.iload_n 1, 1) := by decide +kernel
theorem d_Mo_many_20 : decode b_Mo_many 20 = .ok (.if_icmp .ne 7, 3) := by decide +kernel
theorem d_Mo_many_23 : decode b_Mo_many 23 = .ok (.iconst 1, 1) := by decide +kernel
theorem d_Mo_many_24 : decode b_Mo_many 24 = .ok (.goto 4, 3) := by decide +kernel
theorem d_Mo_many_27 : decode b_Mo_many 27 = .ok (.iconst 0, 1) := by decide +kernel
theorem d_Mo_many_28 : decode b_Mo_many 28 = .ok (.iadd, 1) := by decide +kernel
theorem d_Mo_many_29 : decode b_Mo_many 29 = .ok (.istore_n 2, 1) := by decide +kernel
theorem d_Mo_many_30 : decode b_Mo_many 30 = .ok (.iinc 3 1, 3) := by decide +kernel
theorem d_Mo_many_33 : decode b_Mo_many 33 = .ok (.goto (-29), 3) := by decide +kernel
theorem d_Mo_many_36 : decode b_Mo_many 36 = .ok (.iload_n 2, 1) := by decide +kernel
theorem d_Mo_many_37 : decode b_Mo_many 37 = .ok (.ireturn, 1) := by decide +kernel
theorem d_Mo_answer_0 : decode b_Mo_answer 0 = .ok (.aload_n 0, 1) := by decide +kernel
theorem d_Mo_answer_1 : decode b_Mo_answer 1 = .ok (.iconst 0, 1) := by decide +kernel
theorem d_Mo_answer_2 : decode b_Mo_answer 2 = .ok (.putfield 76, 3) := by decide +kernel
theorem d_Mo_answer_5 : decode b_Mo_answer 5 = .ok (.aload_n 0, 1) := by decide +kernel
theorem d_Mo_answer_6 : decode b_Mo_answer 6 = .ok (.invokevirtual 102, 3) := by decide +kernel
theorem d_Mo_answer_9 : decode b_Mo_answer 9 = .ok (.iload_n 1, 1) := by decide +kernel
theorem d_Mo_answer_10 : decode b_Mo_answer 10 = .ok (.ireturn, 1) := by decide +kernel
theorem d_Mo_look_0 : decode b_Mo_look 0 = .ok (.iconst 0, 1) := by decide +kernel
theorem d_Mo_look_1 : decode b_Mo_look 1 = .ok (.istore_n 1, 1) := by decide +kernel
theorem d_Mo_look_2 : decode b_Mo_look 2 = .ok (.iload_n 1, 1) := by decide +kernel
theorem d_Mo_look_3 : decode b_Mo_look 3 = .ok (.bipush 32, 2) := by decide +kernel
theorem d_Mo_look_5 : decode b_Mo_look 5 = .ok (.if_icmp .ge 115, 3) := by decide +kernel
theorem d_Mo_look_8 : decode b_Mo_look 8 = .ok (.aload_n 0, 1) := by decide +kernel
theorem d_Mo_look_9 : decode b_Mo_look 9 = .ok (.getfield 29, 3) := by decide +kernel
theorem d_Mo_look_12 : decode b_Mo_look 12 = .ok (.iload_n 1, 1) := by decide +kernel
theorem d_Mo_look_13 : decode b_Mo_look 13 = .ok (.iaload, 1) := by decide +kernel
theorem d_Mo_look_14 : decode b_Mo_look 14 = .ok (.ifCond .ne 6, 3) := by decide +kernel
theorem d_Mo_look_17 : decode b_Mo_look 17 = .ok (.goto 97, 3) := by decide +kernel
theorem d_Mo_look_20 : decode b_Mo_look 20 = .ok (.aload_n 0, 1) := by decide +kernel
theorem d_Mo_look_21 : decode b_Mo_look 21 = .ok (.iload_n 1, 1) := by decide +kernel
theorem d_Mo_look_22 : decode b_Mo_look 22 = .ok (.invokevirtual 96, 3) := by decide +kernel
theorem d_Mo_look_25 : decode b_Mo_look 25 = .ok (.istore_n 2, 1) := by decide +kernel
theorem d_Mo_look_26 : decode b_Mo_look 26 = .ok (.aload_n 0, 1) := by decide +kernel
theorem d_Mo_look_27 : decode b_Mo_look 27 = .ok (.getfield 41, 3) := by decide +kernel
theorem d_Mo_look_30 : decode b_Mo_look 30 = .ok (.iload_n 1, 1) := by decide +kernel
theorem d_Mo_look_31 : decode b_Mo_look 31 = .ok (.aload_n 0, 1) := by decide +kernel
theorem d_Mo_look_32 : decode b_Mo_look 32 = .ok (.getfield 41, 3) := by decide +kernel
theorem d_Mo_look_35 : decode b_Mo_look 35 = .ok (.iload_n 1, 1) := by decide +kernel
theorem d_Mo_look_36 : decode b_Mo_look 36 = .ok (.baload, 1) := by decide +kernel
theorem d_Mo_look_37 : decode b_Mo_look 37 = .ok (.ifCond .ne 13, 3) := by decide +kernel
theorem d_Mo_look_40 : decode b_Mo_look 40 = .ok (.iload_n 2, 1) := by decide +kernel
theorem d_Mo_look_41 : decode b_Mo_look 41 = .ok (.aload_n 0, 1) := by decide +kernel
theorem d_Mo_look_42 : decode b_Mo_look 42 = .ok (.getfield 29, 3) := by decide +kernel
theorem d_Mo_look_45 : decode b_Mo_look 45 = .ok (.iload_n 1, 1) := by decide +kernel
theorem d_Mo_look_46 : decode b_Mo_look 46 = .ok (.iaload, 1) := by decide +kernel
theorem d_Mo_look_47 : decode b_Mo_look 47 = .ok (.if_icmp .ge 7, 3) := by decide +kernel
theorem d_Mo_look_50 : decode b_Mo_look 50 = .ok (.iconst 1, 1) := by decide +kernel
theorem d_Mo_look_51 : decode b_Mo_look 51 = .ok (.goto 4, 3) := by decide +kernel
theorem d_Mo_look_54 : decode b_Mo_look 54 = .ok (.iconst 0, 1) := by decide +kernel
theorem d_Mo_look_55 : decode b_Mo_look 55 = .ok (.bastore, 1) := by decide +kernel
theorem d_Mo_look_56 : decode b_Mo_look 56 = .ok (.aload_n 0, 1) := by decide +kernel
theorem d_Mo_look_57 : decode b_Mo_look 57 = .ok (.getfield 41, 3) := by decide +kernel
theorem d_Mo_look_60 : decode b_Mo_look 60 = .ok (.iload_n 1, 1) := by decide +kernel
theorem d_Mo_look_61 : decode b_Mo_look 61 = .ok (.baload, 1) := by decide +kernel
theorem d_Mo_look_62 : decode b_Mo_look 62 = .ok (.ifCond .eq 52, 3) := by decide +kernel
theorem d_Mo_look_65 : decode b_Mo_look 65 = .ok (.aload_n 0, 1) := by decide +kernel
theorem d_Mo_look_66 : decode b_Mo_look 66 = .ok (.getfield 35, 3) := by decide +kernel
theorem d_Mo_look_69 : decode b_Mo_look 69 = .ok (.iload_n 1, 1) := by decide +kernel
theorem d_Mo_look_70 : decode b_Mo_look 70 = .ok (.iaload, 1) := by decide +kernel
theorem d_Mo_look_71 : decode b_Mo_look 71 = .ok (.ifCond .ne 43, 3) := by decide +kernel
theorem d_Mo_look_74 : decode b_Mo_look 74 = .ok (.iload_n 2, 1) := by decide +kernel
theorem d_Mo_look_75 : decode b_Mo_look 75 = .ok (.aload_n 0, 1) := by decide +kernel
theorem d_Mo_look_76 : decode b_Mo_look 76 = .ok (.getfield 29, 3) := by decide +kernel
theorem d_Mo_look_79 : decode b_Mo_look 79 = .ok (.iload_n 1, 1) := by decide +kernel
theorem d_Mo_look_80 : decode b_Mo_look 80 = .ok (.iaload, 1) := by decide +kernel
theorem d_Mo_look_81 : decode b_Mo_look 81 = .ok (.if_icmp .lt 33, 3) := by decide +kernel
theorem d_Mo_look_84 : decode b_Mo_look 84 = .ok (.aload_n 0, 1) := by decide +kernel
theorem d_Mo_look_85 : decode b_Mo_look 85 = .ok (.getfield 35, 3) := by decide +kernel
theorem d_Mo_look_88 : decode b_Mo_look 88 = .ok (.iload_n 1, 1) := by decide +kernel
theorem d_Mo_look_89 : decode b_Mo_look 89 = .ok (.aload_n 0, 1) := by decide +kernel
theorem d_Mo_look_90 : decode b_Mo_look 90 = .ok (.aload_n 0, 1) := by decide +kernel
theorem d_Mo_look_91 : decode b_Mo_look 91 = .ok (.getfield 32, 3) := by decide +kernel
theorem d_Mo_look_94 : decode b_Mo_look 94 = .ok (.iload_n 1, 1) := by decide +kernel
theorem d_Mo_look_95 : decode b_Mo_look 95 = .ok (.iaload, 1) := by decide +kernel
theorem d_Mo_look_96 : decode b_Mo_look 96 = .ok (.invokevirtual 99, 3) := by decide +kernel
theorem d_Mo_look_99 : decode b_Mo_look 99 = .ok (.iastore, 1) := by decide +kernel
theorem d_Mo_look_100 : decode b_Mo_look 100 = .ok (.aload_n 0, 1) := by decide +kernel
theorem d_Mo_look_101 : decode b_Mo_look 101 = .ok (.getfield 45, 3) := by decide +kernel
theorem d_Mo_look_104 : decode b_Mo_look 104 = .ok (.iload_n 1, 1) := by decide +kernel
theorem d_Mo_look_105 : decode b_Mo_look 105 = .ok (.iconst 0, 1) := by decide +kernel
theorem d_Mo_look_106 : decode b_Mo_look 106 = .ok (.bastore, 1) := by decide +kernel
theorem d_Mo_look_107 : decode b_Mo_look 107 = .ok (.aload_n 0, 1) := by decide +kernel
theorem d_Mo_look_108 : decode b_Mo_look 108 = .ok (.getfield 41, 3) := by decide +kernel
theorem d_Mo_look_111 : decode b_Mo_look 111 = .ok (.iload_n 1, 1) := by decide +kernel
theorem d_Mo_look_112 : decode b_Mo_look 112 = .ok (.iconst 0, 1) := by decide +kernel
theorem d_Mo_look_113 : decode b_Mo_look 113 = .ok (.bastore, 1) := by decide +kernel
theorem d_Mo_look_114 : decode b_Mo_look 114 = .ok (.iinc 1 1, 3) := by decide +kernel
theorem d_Mo_look_117 : decode b_Mo_look 117 = .ok (.goto (-115), 3) := by decide +kernel
theorem d_Mo_look_120 : decode b_Mo_look 120 = .ok (.return_, 1) := by decide +kernel
theorem d_Mo_standing_0 : decode b_Mo_standing 0 = .ok (.iconst 0, 1) := by decide +kernel
theorem d_Mo_standing_1 : decode b_Mo_standing 1 = .ok (.istore_n 2, 1) := by decide +kernel
theorem d_Mo_standing_2 : decode b_Mo_standing 2 = .ok (.iconst 0, 1) := by decide +kernel
theorem d_Mo_standing_3 : decode b_Mo_standing 3 = .ok (.istore_n 3, 1) := by decide +kernel
theorem d_Mo_standing_4 : decode b_Mo_standing 4 = .ok (.iload_n 3, 1) := by decide +kernel
theorem d_Mo_standing_5 : decode b_Mo_standing 5 = .ok (.aload_n 0, 1) := by decide +kernel
theorem d_Mo_standing_6 : decode b_Mo_standing 6 = .ok (.getfield 79, 3) := by decide +kernel
theorem d_Mo_standing_9 : decode b_Mo_standing 9 = .ok (.if_icmp .ge 36, 3) := by decide +kernel
theorem d_Mo_standing_12 : decode b_Mo_standing 12 = .ok (.iload_n 2, 1) := by decide +kernel
theorem d_Mo_standing_13 : decode b_Mo_standing 13 = .ok (.aload_n 0, 1) := by decide +kernel
theorem d_Mo_standing_14 : decode b_Mo_standing 14 = .ok (.getfield 7, 3) := by decide +kernel
theorem d_Mo_standing_17 : decode b_Mo_standing 17 = .ok (.iload_n 3, 1) := by decide +kernel
theorem d_Mo_standing_18 : decode b_Mo_standing 18 = .ok (.iaload, 1) := by decide +kernel
theorem d_Mo_standing_19 : decode b_Mo_standing 19 = .ok (.iload_n 1, 1) := by decide +kernel
theorem d_Mo_standing_20 : decode b_Mo_standing 20 = .ok (.if_icmp .ne 16, 3) := by decide +kernel
theorem d_Mo_standing_23 : decode b_Mo_standing 23 = .ok (.aload_n 0, 1) := by decide +kernel
theorem d_Mo_standing_24 : decode b_Mo_standing 24 = .ok (.getfield 16, 3) := by decide +kernel
theorem d_Mo_standing_27 : decode b_Mo_standing 27 = .ok (.iload_n 3, 1) := by decide +kernel
theorem d_Mo_standing_28 : decode b_Mo_standing 28 = .ok (.iaload, 1) := by decide +kernel
theorem d_Mo_standing_29 : decode b_Mo_standing 29 = .ok (.ifCond .ne 7, 3) := by decide +kernel
theorem d_Mo_standing_32 : decode b_Mo_standing 32 = .ok (.iconst 1, 1) := by decide +kernel
theorem d_Mo_standing_33 : decode b_Mo_standing 33 = .ok (.goto 4, 3) := by decide +kernel
theorem d_Mo_standing_36 : decode b_Mo_standing 36 = .ok (.iconst 0, 1) := by decide +kernel
theorem d_Mo_standing_37 : decode b_Mo_standing 37 = .ok (.iadd, 1) := by decide +kernel
theorem d_Mo_standing_38 : decode b_Mo_standing 38 = .ok (.istore_n 2, 1) := by decide +kernel
theorem d_Mo_standing_39 : decode b_Mo_standing 39 = .ok (.iinc 3 1, 3) := by decide +kernel
theorem d_Mo_standing_42 : decode b_Mo_standing 42 = .ok (.goto (-38), 3) := by decide +kernel
theorem d_Mo_standing_45 : decode b_Mo_standing 45 = .ok (.iload_n 2, 1) := by decide +kernel
theorem d_Mo_standing_46 : decode b_Mo_standing 46 = .ok (.ireturn, 1) := by decide +kernel
theorem d_Mo_task_0 : decode b_Mo_task 0 = .ok (.aload_n 0, 1) := by decide +kernel
theorem d_Mo_task_1 : decode b_Mo_task 1 = .ok (.getfield 57, 3) := by decide +kernel
theorem d_Mo_task_4 : decode b_Mo_task 4 = .ok (.aload_n 0, 1) := by decide +kernel
theorem d_Mo_task_5 : decode b_Mo_task 5 = .ok (.getfield 90, 3) := by decide +kernel
theorem d_Mo_task_8 : decode b_Mo_task 8 = .ok (.iload_n 1, 1) := by decide +kernel
theorem d_Mo_task_9 : decode b_Mo_task 9 = .ok (.iastore, 1) := by decide +kernel
theorem d_Mo_task_10 : decode b_Mo_task 10 = .ok (.aload_n 0, 1) := by decide +kernel
theorem d_Mo_task_11 : decode b_Mo_task 11 = .ok (.getfield 60, 3) := by decide +kernel
theorem d_Mo_task_14 : decode b_Mo_task 14 = .ok (.aload_n 0, 1) := by decide +kernel
theorem d_Mo_task_15 : decode b_Mo_task 15 = .ok (.getfield 90, 3) := by decide +kernel
theorem d_Mo_task_18 : decode b_Mo_task 18 = .ok (.iconst 1, 1) := by decide +kernel
theorem d_Mo_task_19 : decode b_Mo_task 19 = .ok (.bastore, 1) := by decide +kernel
theorem d_Mo_task_20 : decode b_Mo_task 20 = .ok (.aload_n 0, 1) := by decide +kernel
theorem d_Mo_task_21 : decode b_Mo_task 21 = .ok (.dup, 1) := by decide +kernel
theorem d_Mo_task_22 : decode b_Mo_task 22 = .ok (.getfield 90, 3) := by decide +kernel
theorem d_Mo_task_25 : decode b_Mo_task 25 = .ok (.iconst 1, 1) := by decide +kernel
theorem d_Mo_task_26 : decode b_Mo_task 26 = .ok (.iadd, 1) := by decide +kernel
theorem d_Mo_task_27 : decode b_Mo_task 27 = .ok (.putfield 90, 3) := by decide +kernel
theorem d_Mo_task_30 : decode b_Mo_task 30 = .ok (.aload_n 0, 1) := by decide +kernel
theorem d_Mo_task_31 : decode b_Mo_task 31 = .ok (.dup, 1) := by decide +kernel
theorem d_Mo_task_32 : decode b_Mo_task 32 = .ok (.getfield 93, 3) := by decide +kernel
theorem d_Mo_task_35 : decode b_Mo_task 35 = .ok (.iconst 1, 1) := by decide +kernel
theorem d_Mo_task_36 : decode b_Mo_task 36 = .ok (.iadd, 1) := by decide +kernel
theorem d_Mo_task_37 : decode b_Mo_task 37 = .ok (.putfield 93, 3) := by decide +kernel
theorem d_Mo_task_40 : decode b_Mo_task 40 = .ok (.aload_n 0, 1) := by decide +kernel
theorem d_Mo_task_41 : decode b_Mo_task 41 = .ok (.getfield 90, 3) := by decide +kernel
theorem d_Mo_task_44 : decode b_Mo_task 44 = .ok (.ireturn, 1) := by decide +kernel
theorem d_Mo_get_0 : decode b_Mo_get 0 = .ok (.aload_n 0, 1) := by decide +kernel
theorem d_Mo_get_1 : decode b_Mo_get 1 = .ok (.iconst 1, 1) := by decide +kernel
theorem d_Mo_get_2 : decode b_Mo_get 2 = .ok (.putfield 76, 3) := by decide +kernel
theorem d_Mo_get_5 : decode b_Mo_get 5 = .ok (.iload_n 1, 1) := by decide +kernel
theorem d_Mo_get_6 : decode b_Mo_get 6 = .ok (.invokestatic 105, 3) := by decide +kernel
theorem d_Mo_get_9 : decode b_Mo_get 9 = .ok (.ifCond .ne 5, 3) := by decide +kernel
theorem d_Mo_get_12 : decode b_Mo_get 12 = .ok (.lconst 0, 1) := by decide +kernel
theorem d_Mo_get_13 : decode b_Mo_get 13 = .ok (.lreturn, 1) := by decide +kernel
theorem d_Mo_get_14 : decode b_Mo_get 14 = .ok (.aload_n 0, 1) := by decide +kernel
theorem d_Mo_get_15 : decode b_Mo_get 15 = .ok (.iload_n 1, 1) := by decide +kernel
theorem d_Mo_get_16 : decode b_Mo_get 16 = .ok (.invokevirtual 123, 3) := by decide +kernel
theorem d_Mo_get_19 : decode b_Mo_get 19 = .ok (.ifCond .ne 44, 3) := by decide +kernel
theorem d_Mo_get_22 : decode b_Mo_get 22 = .ok (.aload_n 0, 1) := by decide +kernel
theorem d_Mo_get_23 : decode b_Mo_get 23 = .ok (.aload_n 0, 1) := by decide +kernel
theorem d_Mo_get_24 : decode b_Mo_get 24 = .ok (.getfield 38, 3) := by decide +kernel
theorem d_Mo_get_27 : decode b_Mo_get 27 = .ok (.iload_n 1, 1) := by decide +kernel
theorem d_Mo_get_28 : decode b_Mo_get 28 = .ok (.iaload, 1) := by decide +kernel
theorem d_Mo_get_29 : decode b_Mo_get 29 = .ok (.iload_n 2, 1) := by decide +kernel
theorem d_Mo_get_30 : decode b_Mo_get 30 = .ok (.if_icmp .ne 11, 3) := by decide +kernel
theorem d_Mo_get_33 : decode b_Mo_get 33 = .ok (.iload_n 2, 1) := by decide +kernel
theorem d_Mo_get_34 : decode b_Mo_get 34 = .ok (.ifCond .le 7, 3) := by decide +kernel
theorem d_Mo_get_37 : decode b_Mo_get 37 = .ok (.iconst 0, 1) := by decide +kernel
theorem d_Mo_get_38 : decode b_Mo_get 38 = .ok (.goto 4, 3) := by decide +kernel
theorem d_Mo_get_41 : decode b_Mo_get 41 = .ok (.iconst 1, 1) := by decide +kernel
theorem d_Mo_get_42 : decode b_Mo_get 42 = .ok (.putfield 76, 3) := by decide +kernel
theorem d_Mo_get_45 : decode b_Mo_get 45 = .ok (.aload_n 0, 1) := by decide +kernel
theorem d_Mo_get_46 : decode b_Mo_get 46 = .ok (.getfield 76, 3) := by decide +kernel
theorem d_Mo_get_49 : decode b_Mo_get 49 = .ok (.ifCond .ne 12, 3) := by decide +kernel
theorem d_Mo_get_52 : decode b_Mo_get 52 = .ok (.aload_n 0, 1) := by decide +kernel
theorem d_Mo_get_53 : decode b_Mo_get 53 = .ok (.getfield 51, 3) := by decide +kernel
theorem d_Mo_get_56 : decode b_Mo_get 56 = .ok (.iload_n 1, 1) := by decide +kernel
theorem d_Mo_get_57 : decode b_Mo_get 57 = .ok (.laload, 1) := by decide +kernel
theorem d_Mo_get_58 : decode b_Mo_get 58 = .ok (.goto 4, 3) := by decide +kernel
theorem d_Mo_get_61 : decode b_Mo_get 61 = .ok (.lconst 0, 1) := by decide +kernel
theorem d_Mo_get_62 : decode b_Mo_get 62 = .ok (.lreturn, 1) := by decide +kernel
theorem d_Mo_get_63 : decode b_Mo_get 63 = .ok (.aload_n 0, 1) := by decide +kernel
theorem d_Mo_get_64 : decode b_Mo_get 64 = .ok (.iload_n 1, 1) := by decide +kernel
theorem d_Mo_get_65 : decode b_Mo_get 65 = .ok (.iload_n 2, 1) := by decide +kernel
theorem d_Mo_get_66 : decode b_Mo_get 66 = .ok (.invokevirtual 126, 3) := by decide +kernel
theorem d_Mo_get_69 : decode b_Mo_get 69 = .ok (.istore_n 3, 1) := by decide +kernel
theorem d_Mo_get_70 : decode b_Mo_get 70 = .ok (.iload_n 3, 1) := by decide +kernel
theorem d_Mo_get_71 : decode b_Mo_get 71 = .ok (.iconst (-1), 1) := by decide +kernel
theorem d_Mo_get_72 : decode b_Mo_get 72 = .ok (.if_icmp .ne 5, 3) := by decide +kernel
theorem d_Mo_get_75 : decode b_Mo_get 75 = .ok (.lconst 0, 1) := by decide +kernel
theorem d_Mo_get_76 : decode b_Mo_get 76 = .ok (.lreturn, 1) := by decide +kernel
theorem d_Mo_get_77 : decode b_Mo_get 77 = .ok (.aload_n 0, 1) := by decide +kernel
theorem d_Mo_get_78 : decode b_Mo_get 78 = .ok (.iconst 0, 1) := by decide +kernel
theorem d_Mo_get_79 : decode b_Mo_get 79 = .ok (.putfield 76, 3) := by decide +kernel
theorem d_Mo_get_82 : decode b_Mo_get 82 = .ok (.aload_n 0, 1) := by decide +kernel
theorem d_Mo_get_83 : decode b_Mo_get 83 = .ok (.getfield 48, 3) := by decide +kernel
theorem d_Mo_get_86 : decode b_Mo_get 86 = .ok (.iload_n 1, 1) := by decide +kernel
theorem d_Mo_get_87 : decode b_Mo_get 87 = .ok (.aload_n 0, 1) := by decide +kernel
theorem d_Mo_get_88 : decode b_Mo_get 88 = .ok (.getfield 112, 3) := by decide +kernel
theorem d_Mo_get_91 : decode b_Mo_get 91 = .ok (.lastore, 1) := by decide +kernel
theorem d_Mo_get_92 : decode b_Mo_get 92 = .ok (.aload_n 0, 1) := by decide +kernel
theorem d_Mo_get_93 : decode b_Mo_get 93 = .ok (.getfield 19, 3) := by decide +kernel
theorem d_Mo_get_96 : decode b_Mo_get 96 = .ok (.iload_n 3, 1) := by decide +kernel
theorem d_Mo_get_97 : decode b_Mo_get 97 = .ok (.laload, 1) := by decide +kernel
theorem d_Mo_get_98 : decode b_Mo_get 98 = .ok (.lreturn, 1) := by decide +kernel
theorem d_Mo_isTemporary_0 : decode b_Mo_isTemporary 0 = .ok (.aload_n 0, 1) := by decide +kernel
theorem d_Mo_isTemporary_1 : decode b_Mo_isTemporary 1 = .ok (.getfield 23, 3) := by decide +kernel
theorem d_Mo_isTemporary_4 : decode b_Mo_isTemporary 4 = .ok (.iload_n 1, 1) := by decide +kernel
theorem d_Mo_isTemporary_5 : decode b_Mo_isTemporary 5 = .ok (.iaload, 1) := by decide +kernel
theorem d_Mo_isTemporary_6 : decode b_Mo_isTemporary 6 = .ok (.ifCond .eq 13, 3) := by decide +kernel
theorem d_Mo_isTemporary_9 : decode b_Mo_isTemporary 9 = .ok (.aload_n 0, 1) := by decide +kernel
theorem d_Mo_isTemporary_10 : decode b_Mo_isTemporary 10 = .ok (.getfield 23, 3) := by decide +kernel
theorem d_Mo_isTemporary_13 : decode b_Mo_isTemporary 13 = .ok (.iload_n 1, 1) := by decide +kernel
theorem d_Mo_isTemporary_14 : decode b_Mo_isTemporary 14 = .ok (.iaload, 1) := by decide +kernel
theorem d_Mo_isTemporary_15 : decode b_Mo_isTemporary 15 = .ok (.iconst 1, 1) := by decide +kernel
theorem d_Mo_isTemporary_16 : decode b_Mo_isTemporary 16 = .ok (.if_icmp .ne 7, 3) := by decide +kernel
theorem d_Mo_isTemporary_19 : decode b_Mo_isTemporary 19 = .ok (.iconst 1, 1) := by decide +kernel
theorem d_Mo_isTemporary_20 : decode b_Mo_isTemporary 20 = .ok (.goto 4, 3) := by decide +kernel
theorem d_Mo_isTemporary_23 : decode b_Mo_isTemporary 23 = .ok (.iconst 0, 1) := by decide +kernel
theorem d_Mo_isTemporary_24 : decode b_Mo_isTemporary 24 = .ok (.ireturn, 1) := by decide +kernel
theorem d_Mo_placeOf_0 : decode b_Mo_placeOf 0 = .ok (.iconst 0, 1) := by decide +kernel
theorem d_Mo_placeOf_1 : decode b_Mo_placeOf 1 = .ok (.istore_n 3, 1) := by decide +kernel
theorem d_Mo_placeOf_2 : decode b_Mo_placeOf 2 = .ok (.iconst 0, 1) := by decide +kernel
theorem d_Mo_placeOf_3 : decode b_Mo_placeOf 3 = .ok (.istore 4, 2) := by decide +kernel
theorem d_Mo_placeOf_5 : decode b_Mo_placeOf 5 = .ok (.iload 4, 2) := by decide +kernel
theorem d_Mo_placeOf_7 : decode b_Mo_placeOf 7 = .ok (.aload_n 0, 1) := by decide +kernel
theorem d_Mo_placeOf_8 : decode b_Mo_placeOf 8 = .ok (.getfield 79, 3) := by decide +kernel
theorem d_Mo_placeOf_11 : decode b_Mo_placeOf 11 = .ok (.if_icmp .ge 47, 3) := by decide +kernel
theorem d_Mo_placeOf_14 : decode b_Mo_placeOf 14 = .ok (.iload_n 3, 1) := by decide +kernel
theorem d_Mo_placeOf_15 : decode b_Mo_placeOf 15 = .ok (.aload_n 0, 1) := by decide +kernel
theorem d_Mo_placeOf_16 : decode b_Mo_placeOf 16 = .ok (.getfield 7, 3) := by decide +kernel
theorem d_Mo_placeOf_19 : decode b_Mo_placeOf 19 = .ok (.iload 4, 2) := by decide +kernel
theorem d_Mo_placeOf_21 : decode b_Mo_placeOf 21 = .ok (.iaload, 1) := by decide +kernel
theorem d_Mo_placeOf_22 : decode b_Mo_placeOf 22 = .ok (.iload_n 1, 1) := by decide +kernel
theorem d_Mo_placeOf_23 : decode b_Mo_placeOf 23 = .ok (.if_icmp .ne 7, 3) := by decide +kernel
theorem d_Mo_placeOf_26 : decode b_Mo_placeOf 26 = .ok (.iconst 1, 1) := by decide +kernel
theorem d_Mo_placeOf_27 : decode b_Mo_placeOf 27 = .ok (.goto 4, 3) := by decide +kernel
theorem d_Mo_placeOf_30 : decode b_Mo_placeOf 30 = .ok (.iconst 0, 1) := by decide +kernel
theorem d_Mo_placeOf_31 : decode b_Mo_placeOf 31 = .ok (.iadd, 1) := by decide +kernel
theorem d_Mo_placeOf_32 : decode b_Mo_placeOf 32 = .ok (.istore_n 3, 1) := by decide +kernel
theorem d_Mo_placeOf_33 : decode b_Mo_placeOf 33 = .ok (.aload_n 0, 1) := by decide +kernel
theorem d_Mo_placeOf_34 : decode b_Mo_placeOf 34 = .ok (.getfield 7, 3) := by decide +kernel
theorem d_Mo_placeOf_37 : decode b_Mo_placeOf 37 = .ok (.iload 4, 2) := by decide +kernel
theorem d_Mo_placeOf_39 : decode b_Mo_placeOf 39 = .ok (.iaload, 1) := by decide +kernel
theorem d_Mo_placeOf_40 : decode b_Mo_placeOf 40 = .ok (.iload_n 1, 1) := by decide +kernel
theorem d_Mo_placeOf_41 : decode b_Mo_placeOf 41 = .ok (.if_icmp .ne 11, 3) := by decide +kernel
theorem d_Mo_placeOf_44 : decode b_Mo_placeOf 44 = .ok (.iload_n 3, 1) := by decide +kernel
theorem d_Mo_placeOf_45 : decode b_Mo_placeOf 45 = .ok (.iload_n 2, 1) := by decide +kernel
theorem d_Mo_placeOf_46 : decode b_Mo_placeOf 46 = .ok (.if_icmp .ne 6, 3) := by decide +kernel
theorem d_Mo_placeOf_49 : decode b_Mo_placeOf 49 = .ok (.iload 4, 2) := by decide +kernel
theorem d_Mo_placeOf_51 : decode b_Mo_placeOf 51 = .ok (.ireturn, 1) := by decide +kernel
theorem d_Mo_placeOf_52 : decode b_Mo_placeOf 52 = .ok (.iinc 4 1, 3) := by decide +kernel
theorem d_Mo_placeOf_55 : decode b_Mo_placeOf 55 = .ok (.goto (-50), 3) := by decide +kernel
theorem d_Mo_placeOf_58 : decode b_Mo_placeOf 58 = .ok (.iconst (-1), 1) := by decide +kernel
theorem d_Mo_placeOf_59 : decode b_Mo_placeOf 59 = .ok (.ireturn, 1) := by decide +kernel
theorem d_Mo_next_0 : decode b_Mo_next 0 = .ok (.aload_n 0, 1) := by decide +kernel
theorem d_Mo_next_1 : decode b_Mo_next 1 = .ok (.aload_n 0, 1) := by decide +kernel
theorem d_Mo_next_2 : decode b_Mo_next 2 = .ok (.iload_n 1, 1) := by decide +kernel
theorem d_Mo_next_3 : decode b_Mo_next 3 = .ok (.iload_n 2, 1) := by decide +kernel
theorem d_Mo_next_4 : decode b_Mo_next 4 = .ok (.invokevirtual 133, 3) := by decide +kernel
theorem d_Mo_next_7 : decode b_Mo_next 7 = .ok (.invokevirtual 120, 3) := by decide +kernel
theorem d_Mo_next_10 : decode b_Mo_next 10 = .ok (.ireturn, 1) := by decide +kernel
theorem d_Mo_nexting_0 : decode b_Mo_nexting 0 = .ok (.iload_n 1, 1) := by decide +kernel
theorem d_Mo_nexting_1 : decode b_Mo_nexting 1 = .ok (.invokestatic 105, 3) := by decide +kernel
theorem d_Mo_nexting_4 : decode b_Mo_nexting 4 = .ok (.ifCond .eq 13, 3) := by decide +kernel
theorem d_Mo_nexting_7 : decode b_Mo_nexting 7 = .ok (.iload_n 2, 1) := by decide +kernel
theorem d_Mo_nexting_8 : decode b_Mo_nexting 8 = .ok (.ifCond .lt 9, 3) := by decide +kernel
theorem d_Mo_nexting_11 : decode b_Mo_nexting 11 = .ok (.iload_n 2, 1) := by decide +kernel
theorem d_Mo_nexting_12 : decode b_Mo_nexting 12 = .ok (.bipush 8, 2) := by decide +kernel
theorem d_Mo_nexting_14 : decode b_Mo_nexting 14 = .ok (.if_icmp .lt 6, 3) := by decide +kernel
theorem d_Mo_nexting_17 : decode b_Mo_nexting 17 = .ok (.bipush (-2), 2) := by decide +kernel
theorem d_Mo_nexting_19 : decode b_Mo_nexting 19 = .ok (.ireturn, 1) := by decide +kernel
theorem d_Mo_nexting_20 : decode b_Mo_nexting 20 = .ok (.aload_n 0, 1) := by decide +kernel
theorem d_Mo_nexting_21 : decode b_Mo_nexting 21 = .ok (.iload_n 1, 1) := by decide +kernel
theorem d_Mo_nexting_22 : decode b_Mo_nexting 22 = .ok (.invokevirtual 130, 3) := by decide +kernel
theorem d_Mo_nexting_25 : decode b_Mo_nexting 25 = .ok (.ifCond .eq 6, 3) := by decide +kernel
theorem d_Mo_nexting_28 : decode b_Mo_nexting 28 = .ok (.bipush (-3), 2) := by decide +kernel
theorem d_Mo_nexting_30 : decode b_Mo_nexting 30 = .ok (.ireturn, 1) := by decide +kernel
theorem d_Mo_nexting_31 : decode b_Mo_nexting 31 = .ok (.aload_n 0, 1) := by decide +kernel
theorem d_Mo_nexting_32 : decode b_Mo_nexting 32 = .ok (.getfield 54, 3) := by decide +kernel
theorem d_Mo_nexting_35 : decode b_Mo_nexting 35 = .ok (.bipush 8, 2) := by decide +kernel
theorem d_Mo_nexting_37 : decode b_Mo_nexting 37 = .ok (.iload_n 1, 1) := by decide +kernel
theorem d_Mo_nexting_38 : decode b_Mo_nexting 38 = .ok (.imul, 1) := by decide +kernel
theorem d_Mo_nexting_39 : decode b_Mo_nexting 39 = .ok (.iload_n 2, 1) := by decide +kernel
theorem d_Mo_nexting_40 : decode b_Mo_nexting 40 = .ok (.iadd, 1) := by decide +kernel
theorem d_Mo_nexting_41 : decode b_Mo_nexting 41 = .ok (.iaload, 1) := by decide +kernel
theorem d_Mo_nexting_42 : decode b_Mo_nexting 42 = .ok (.iconst 1, 1) := by decide +kernel
theorem d_Mo_nexting_43 : decode b_Mo_nexting 43 = .ok (.iadd, 1) := by decide +kernel
theorem d_Mo_nexting_44 : decode b_Mo_nexting 44 = .ok (.istore_n 3, 1) := by decide +kernel
theorem d_Mo_nexting_45 : decode b_Mo_nexting 45 = .ok (.iload_n 3, 1) := by decide +kernel
theorem d_Mo_nexting_46 : decode b_Mo_nexting 46 = .ok (.aload_n 0, 1) := by decide +kernel
theorem d_Mo_nexting_47 : decode b_Mo_nexting 47 = .ok (.iload_n 1, 1) := by decide +kernel
theorem d_Mo_nexting_48 : decode b_Mo_nexting 48 = .ok (.invokevirtual 82, 3) := by decide +kernel
theorem d_Mo_nexting_51 : decode b_Mo_nexting 51 = .ok (.if_icmp .le 6, 3) := by decide +kernel
theorem d_Mo_nexting_54 : decode b_Mo_nexting 54 = .ok (.bipush (-4), 2) := by decide +kernel
theorem d_Mo_nexting_56 : decode b_Mo_nexting 56 = .ok (.ireturn, 1) := by decide +kernel
theorem d_Mo_nexting_57 : decode b_Mo_nexting 57 = .ok (.aload_n 0, 1) := by decide +kernel
theorem d_Mo_nexting_58 : decode b_Mo_nexting 58 = .ok (.getfield 54, 3) := by decide +kernel
theorem d_Mo_nexting_61 : decode b_Mo_nexting 61 = .ok (.bipush 8, 2) := by decide +kernel
theorem d_Mo_nexting_63 : decode b_Mo_nexting 63 = .ok (.iload_n 1, 1) := by decide +kernel
theorem d_Mo_nexting_64 : decode b_Mo_nexting 64 = .ok (.imul, 1) := by decide +kernel
theorem d_Mo_nexting_65 : decode b_Mo_nexting 65 = .ok (.iload_n 2, 1) := by decide +kernel
theorem d_Mo_nexting_66 : decode b_Mo_nexting 66 = .ok (.iadd, 1) := by decide +kernel
theorem d_Mo_nexting_67 : decode b_Mo_nexting 67 = .ok (.iload_n 3, 1) := by decide +kernel
theorem d_Mo_nexting_68 : decode b_Mo_nexting 68 = .ok (.iastore, 1) := by decide +kernel
theorem d_Mo_nexting_69 : decode b_Mo_nexting 69 = .ok (.aload_n 0, 1) := by decide +kernel
theorem d_Mo_nexting_70 : decode b_Mo_nexting 70 = .ok (.getfield 48, 3) := by decide +kernel
theorem d_Mo_nexting_73 : decode b_Mo_nexting 73 = .ok (.iload_n 1, 1) := by decide +kernel
theorem d_Mo_nexting_74 : decode b_Mo_nexting 74 = .ok (.aload_n 0, 1) := by decide +kernel
theorem d_Mo_nexting_75 : decode b_Mo_nexting 75 = .ok (.getfield 112, 3) := by decide +kernel
theorem d_Mo_nexting_78 : decode b_Mo_nexting 78 = .ok (.lastore, 1) := by decide +kernel
theorem d_Mo_nexting_79 : decode b_Mo_nexting 79 = .ok (.iload_n 3, 1) := by decide +kernel
theorem d_Mo_nexting_80 : decode b_Mo_nexting 80 = .ok (.ireturn, 1) := by decide +kernel
theorem d_Mo_isTransient_0 : decode b_Mo_isTransient 0 = .ok (.aload_n 0, 1) := by decide +kernel
theorem d_Mo_isTransient_1 : decode b_Mo_isTransient 1 = .ok (.getfield 23, 3) := by decide +kernel
theorem d_Mo_isTransient_4 : decode b_Mo_isTransient 4 = .ok (.iload_n 1, 1) := by decide +kernel
theorem d_Mo_isTransient_5 : decode b_Mo_isTransient 5 = .ok (.iaload, 1) := by decide +kernel
theorem d_Mo_isTransient_6 : decode b_Mo_isTransient 6 = .ok (.iconst 1, 1) := by decide +kernel
theorem d_Mo_isTransient_7 : decode b_Mo_isTransient 7 = .ok (.if_icmp .le 7, 3) := by decide +kernel
theorem d_Mo_isTransient_10 : decode b_Mo_isTransient 10 = .ok (.iconst 1, 1) := by decide +kernel
theorem d_Mo_isTransient_11 : decode b_Mo_isTransient 11 = .ok (.goto 4, 3) := by decide +kernel
theorem d_Mo_isTransient_14 : decode b_Mo_isTransient 14 = .ok (.iconst 0, 1) := by decide +kernel
theorem d_Mo_isTransient_15 : decode b_Mo_isTransient 15 = .ok (.ireturn, 1) := by decide +kernel
theorem d_Mo_take_0 : decode b_Mo_take 0 = .ok (.aload_n 0, 1) := by decide +kernel
theorem d_Mo_take_1 : decode b_Mo_take 1 = .ok (.aload_n 0, 1) := by decide +kernel
theorem d_Mo_take_2 : decode b_Mo_take 2 = .ok (.iload_n 1, 1) := by decide +kernel
theorem d_Mo_take_3 : decode b_Mo_take 3 = .ok (.invokevirtual 139, 3) := by decide +kernel
theorem d_Mo_take_6 : decode b_Mo_take 6 = .ok (.invokevirtual 120, 3) := by decide +kernel
theorem d_Mo_take_9 : decode b_Mo_take 9 = .ok (.ireturn, 1) := by decide +kernel
theorem d_Mo_taking_0 : decode b_Mo_taking 0 = .ok (.iload_n 1, 1) := by decide +kernel
theorem d_Mo_taking_1 : decode b_Mo_taking 1 = .ok (.invokestatic 105, 3) := by decide +kernel
theorem d_Mo_taking_4 : decode b_Mo_taking 4 = .ok (.ifCond .ne 6, 3) := by decide +kernel
theorem d_Mo_taking_7 : decode b_Mo_taking 7 = .ok (.bipush (-2), 2) := by decide +kernel
theorem d_Mo_taking_9 : decode b_Mo_taking 9 = .ok (.ireturn, 1) := by decide +kernel
theorem d_Mo_taking_10 : decode b_Mo_taking 10 = .ok (.aload_n 0, 1) := by decide +kernel
theorem d_Mo_taking_11 : decode b_Mo_taking 11 = .ok (.iload_n 1, 1) := by decide +kernel
theorem d_Mo_taking_12 : decode b_Mo_taking 12 = .ok (.invokevirtual 123, 3) := by decide +kernel
theorem d_Mo_taking_15 : decode b_Mo_taking 15 = .ok (.ifCond .eq 6, 3) := by decide +kernel
theorem d_Mo_taking_18 : decode b_Mo_taking 18 = .ok (.bipush (-3), 2) := by decide +kernel
theorem d_Mo_taking_20 : decode b_Mo_taking 20 = .ok (.ireturn, 1) := by decide +kernel
theorem d_Mo_taking_21 : decode b_Mo_taking 21 = .ok (.aload_n 0, 1) := by decide +kernel
theorem d_Mo_taking_22 : decode b_Mo_taking 22 = .ok (.iload_n 1, 1) := by decide +kernel
theorem d_Mo_taking_23 : decode b_Mo_taking 23 = .ok (.iconst 1, 1) := by decide +kernel
theorem d_Mo_taking_24 : decode b_Mo_taking 24 = .ok (.invokevirtual 126, 3) := by decide +kernel
theorem d_Mo_taking_27 : decode b_Mo_taking 27 = .ok (.istore_n 2, 1) := by decide +kernel
theorem d_Mo_taking_28 : decode b_Mo_taking 28 = .ok (.iload_n 2, 1) := by decide +kernel
theorem d_Mo_taking_29 : decode b_Mo_taking 29 = .ok (.iconst (-1), 1) := by decide +kernel
theorem d_Mo_taking_30 : decode b_Mo_taking 30 = .ok (.if_icmp .ne 6, 3) := by decide +kernel
theorem d_Mo_taking_33 : decode b_Mo_taking 33 = .ok (.bipush (-4), 2) := by decide +kernel
theorem d_Mo_taking_35 : decode b_Mo_taking 35 = .ok (.ireturn, 1) := by decide +kernel
theorem d_Mo_taking_36 : decode b_Mo_taking 36 = .ok (.aload_n 0, 1) := by decide +kernel
theorem d_Mo_taking_37 : decode b_Mo_taking 37 = .ok (.getfield 16, 3) := by decide +kernel
theorem d_Mo_taking_40 : decode b_Mo_taking 40 = .ok (.iload_n 2, 1) := by decide +kernel
theorem d_Mo_taking_41 : decode b_Mo_taking 41 = .ok (.iaload, 1) := by decide +kernel
theorem d_Mo_taking_42 : decode b_Mo_taking 42 = .ok (.ifCond .le 6, 3) := by decide +kernel
theorem d_Mo_taking_45 : decode b_Mo_taking 45 = .ok (.bipush (-5), 2) := by decide +kernel
theorem d_Mo_taking_47 : decode b_Mo_taking 47 = .ok (.ireturn, 1) := by decide +kernel
theorem d_Mo_taking_48 : decode b_Mo_taking 48 = .ok (.aload_n 0, 1) := by decide +kernel
theorem d_Mo_taking_49 : decode b_Mo_taking 49 = .ok (.getfield 38, 3) := by decide +kernel
theorem d_Mo_taking_52 : decode b_Mo_taking 52 = .ok (.iload_n 1, 1) := by decide +kernel
theorem d_Mo_taking_53 : decode b_Mo_taking 53 = .ok (.aload_n 0, 1) := by decide +kernel
theorem d_Mo_taking_54 : decode b_Mo_taking 54 = .ok (.getfield 13, 3) := by decide +kernel
theorem d_Mo_taking_57 : decode b_Mo_taking 57 = .ok (.iload_n 2, 1) := by decide +kernel
theorem d_Mo_taking_58 : decode b_Mo_taking 58 = .ok (.iaload, 1) := by decide +kernel
theorem d_Mo_taking_59 : decode b_Mo_taking 59 = .ok (.iastore, 1) := by decide +kernel
theorem d_Mo_taking_60 : decode b_Mo_taking 60 = .ok (.aload_n 0, 1) := by decide +kernel
theorem d_Mo_taking_61 : decode b_Mo_taking 61 = .ok (.getfield 51, 3) := by decide +kernel
theorem d_Mo_taking_64 : decode b_Mo_taking 64 = .ok (.iload_n 1, 1) := by decide +kernel
theorem d_Mo_taking_65 : decode b_Mo_taking 65 = .ok (.aload_n 0, 1) := by decide +kernel
theorem d_Mo_taking_66 : decode b_Mo_taking 66 = .ok (.getfield 19, 3) := by decide +kernel
theorem d_Mo_taking_69 : decode b_Mo_taking 69 = .ok (.iload_n 2, 1) := by decide +kernel
theorem d_Mo_taking_70 : decode b_Mo_taking 70 = .ok (.laload, 1) := by decide +kernel
theorem d_Mo_taking_71 : decode b_Mo_taking 71 = .ok (.lastore, 1) := by decide +kernel
theorem d_Mo_taking_72 : decode b_Mo_taking 72 = .ok (.aload_n 0, 1) := by decide +kernel
theorem d_Mo_taking_73 : decode b_Mo_taking 73 = .ok (.getfield 45, 3) := by decide +kernel
theorem d_Mo_taking_76 : decode b_Mo_taking 76 = .ok (.iload_n 1, 1) := by decide +kernel
theorem d_Mo_taking_77 : decode b_Mo_taking 77 = .ok (.iconst 1, 1) := by decide +kernel
theorem d_Mo_taking_78 : decode b_Mo_taking 78 = .ok (.bastore, 1) := by decide +kernel
theorem d_Mo_taking_79 : decode b_Mo_taking 79 = .ok (.aload_n 0, 1) := by decide +kernel
theorem d_Mo_taking_80 : decode b_Mo_taking 80 = .ok (.iload_n 2, 1) := by decide +kernel
theorem d_Mo_taking_81 : decode b_Mo_taking 81 = .ok (.invokevirtual 136, 3) := by decide +kernel
theorem d_Mo_taking_84 : decode b_Mo_taking 84 = .ok (.aload_n 0, 1) := by decide +kernel
theorem d_Mo_taking_85 : decode b_Mo_taking 85 = .ok (.getfield 38, 3) := by decide +kernel
theorem d_Mo_taking_88 : decode b_Mo_taking 88 = .ok (.iload_n 1, 1) := by decide +kernel
theorem d_Mo_taking_89 : decode b_Mo_taking 89 = .ok (.iaload, 1) := by decide +kernel
theorem d_Mo_taking_90 : decode b_Mo_taking 90 = .ok (.ireturn, 1) := by decide +kernel
theorem d_Mo_remove_0 : decode b_Mo_remove 0 = .ok (.aload_n 0, 1) := by decide +kernel
theorem d_Mo_remove_1 : decode b_Mo_remove 1 = .ok (.getfield 7, 3) := by decide +kernel
theorem d_Mo_remove_4 : decode b_Mo_remove 4 = .ok (.iload_n 1, 1) := by decide +kernel
theorem d_Mo_remove_5 : decode b_Mo_remove 5 = .ok (.iaload, 1) := by decide +kernel
theorem d_Mo_remove_6 : decode b_Mo_remove 6 = .ok (.istore_n 2, 1) := by decide +kernel
theorem d_Mo_remove_7 : decode b_Mo_remove 7 = .ok (.aload_n 0, 1) := by decide +kernel
theorem d_Mo_remove_8 : decode b_Mo_remove 8 = .ok (.dup, 1) := by decide +kernel
theorem d_Mo_remove_9 : decode b_Mo_remove 9 = .ok (.getfield 79, 3) := by decide +kernel
theorem d_Mo_remove_12 : decode b_Mo_remove 12 = .ok (.iconst 1, 1) := by decide +kernel
theorem d_Mo_remove_13 : decode b_Mo_remove 13 = .ok (.isub, 1) := by decide +kernel
theorem d_Mo_remove_14 : decode b_Mo_remove 14 = .ok (.putfield 79, 3) := by decide +kernel
theorem d_Mo_remove_17 : decode b_Mo_remove 17 = .ok (.iload_n 1, 1) := by decide +kernel
theorem d_Mo_remove_18 : decode b_Mo_remove 18 = .ok (.istore_n 3, 1) := by decide +kernel
theorem d_Mo_remove_19 : decode b_Mo_remove 19 = .ok (.iload_n 3, 1) := by decide +kernel
theorem d_Mo_remove_20 : decode b_Mo_remove 20 = .ok (.aload_n 0, 1) := by decide +kernel
theorem d_Mo_remove_21 : decode b_Mo_remove 21 = .ok (.getfield 79, 3) := by decide +kernel
theorem d_Mo_remove_24 : decode b_Mo_remove 24 = .ok (.if_icmp .ge 65, 3) := by decide +kernel
theorem d_Mo_remove_27 : decode b_Mo_remove 27 = .ok (.aload_n 0, 1) := by decide +kernel
theorem d_Mo_remove_28 : decode b_Mo_remove 28 = .ok (.getfield 7, 3) := by decide +kernel
theorem d_Mo_remove_31 : decode b_Mo_remove 31 = .ok (.iload_n 3, 1) := by decide +kernel
theorem d_Mo_remove_32 : decode b_Mo_remove 32 = .ok (.aload_n 0, 1) := by decide +kernel
theorem d_Mo_remove_33 : decode b_Mo_remove 33 = .ok (.getfield 7, 3) := by decide +kernel
theorem d_Mo_remove_36 : decode b_Mo_remove 36 = .ok (.iload_n 3, 1) := by decide +kernel
theorem d_Mo_remove_37 : decode b_Mo_remove 37 = .ok (.iconst 1, 1) := by decide +kernel
theorem d_Mo_remove_38 : decode b_Mo_remove 38 = .ok (.iadd, 1) := by decide +kernel
theorem d_Mo_remove_39 : decode b_Mo_remove 39 = .ok (.iaload, 1) := by decide +kernel
theorem d_Mo_remove_40 : decode b_Mo_remove 40 = .ok (.iastore, 1) := by decide +kernel
theorem d_Mo_remove_41 : decode b_Mo_remove 41 = .ok (.aload_n 0, 1) := by decide +kernel
theorem d_Mo_remove_42 : decode b_Mo_remove 42 = .ok (.getfield 13, 3) := by decide +kernel
theorem d_Mo_remove_45 : decode b_Mo_remove 45 = .ok (.iload_n 3, 1) := by decide +kernel
theorem d_Mo_remove_46 : decode b_Mo_remove 46 = .ok (.aload_n 0, 1) := by decide +kernel
theorem d_Mo_remove_47 : decode b_Mo_remove 47 = .ok (.getfield 13, 3) := by decide +kernel
theorem d_Mo_remove_50 : decode b_Mo_remove 50 = .ok (.iload_n 3, 1) := by decide +kernel
theorem d_Mo_remove_51 : decode b_Mo_remove 51 = .ok (.iconst 1, 1) := by decide +kernel
theorem d_Mo_remove_52 : decode b_Mo_remove 52 = .ok (.iadd, 1) := by decide +kernel
theorem d_Mo_remove_53 : decode b_Mo_remove 53 = .ok (.iaload, 1) := by decide +kernel
theorem d_Mo_remove_54 : decode b_Mo_remove 54 = .ok (.iastore, 1) := by decide +kernel
theorem d_Mo_remove_55 : decode b_Mo_remove 55 = .ok (.aload_n 0, 1) := by decide +kernel
theorem d_Mo_remove_56 : decode b_Mo_remove 56 = .ok (.getfield 16, 3) := by decide +kernel
theorem d_Mo_remove_59 : decode b_Mo_remove 59 = .ok (.iload_n 3, 1) := by decide +kernel
theorem d_Mo_remove_60 : decode b_Mo_remove 60 = .ok (.aload_n 0, 1) := by decide +kernel
theorem d_Mo_remove_61 : decode b_Mo_remove 61 = .ok (.getfield 16, 3) := by decide +kernel
theorem d_Mo_remove_64 : decode b_Mo_remove 64 = .ok (.iload_n 3, 1) := by decide +kernel
theorem d_Mo_remove_65 : decode b_Mo_remove 65 = .ok (.iconst 1, 1) := by decide +kernel
theorem d_Mo_remove_66 : decode b_Mo_remove 66 = .ok (.iadd, 1) := by decide +kernel
theorem d_Mo_remove_67 : decode b_Mo_remove 67 = .ok (.iaload, 1) := by decide +kernel
theorem d_Mo_remove_68 : decode b_Mo_remove 68 = .ok (.iastore, 1) := by decide +kernel
theorem d_Mo_remove_69 : decode b_Mo_remove 69 = .ok (.aload_n 0, 1) := by decide +kernel
theorem d_Mo_remove_70 : decode b_Mo_remove 70 = .ok (.getfield 19, 3) := by decide +kernel
theorem d_Mo_remove_73 : decode b_Mo_remove 73 = .ok (.iload_n 3, 1) := by decide +kernel
theorem d_Mo_remove_74 : decode b_Mo_remove 74 = .ok (.aload_n 0, 1) := by decide +kernel
theorem d_Mo_remove_75 : decode b_Mo_remove 75 = .ok (.getfield 19, 3) := by decide +kernel
theorem d_Mo_remove_78 : decode b_Mo_remove 78 = .ok (.iload_n 3, 1) := by decide +kernel
theorem d_Mo_remove_79 : decode b_Mo_remove 79 = .ok (.iconst 1, 1) := by decide +kernel
theorem d_Mo_remove_80 : decode b_Mo_remove 80 = .ok (.iadd, 1) := by decide +kernel
theorem d_Mo_remove_81 : decode b_Mo_remove 81 = .ok (.laload, 1) := by decide +kernel
theorem d_Mo_remove_82 : decode b_Mo_remove 82 = .ok (.lastore, 1) := by decide +kernel
theorem d_Mo_remove_83 : decode b_Mo_remove 83 = .ok (.iinc 3 1, 3) := by decide +kernel
theorem d_Mo_remove_86 : decode b_Mo_remove 86 = .ok (.goto (-67), 3) := by decide +kernel
theorem d_Mo_remove_89 : decode b_Mo_remove 89 = .ok (.aload_n 0, 1) := by decide +kernel
theorem d_Mo_remove_90 : decode b_Mo_remove 90 = .ok (.iload_n 2, 1) := by decide +kernel
theorem d_Mo_remove_91 : decode b_Mo_remove 91 = .ok (.invokevirtual 82, 3) := by decide +kernel
theorem d_Mo_remove_94 : decode b_Mo_remove 94 = .ok (.ifCond .ne 8, 3) := by decide +kernel
theorem d_Mo_remove_97 : decode b_Mo_remove 97 = .ok (.aload_n 0, 1) := by decide +kernel
theorem d_Mo_remove_98 : decode b_Mo_remove 98 = .ok (.iload_n 2, 1) := by decide +kernel
theorem d_Mo_remove_99 : decode b_Mo_remove 99 = .ok (.invokevirtual 86, 3) := by decide +kernel
theorem d_Mo_remove_102 : decode b_Mo_remove 102 = .ok (.return_, 1) := by decide +kernel
theorem d_Mo_emptied_0 : decode b_Mo_emptied 0 = .ok (.aload_n 0, 1) := by decide +kernel
theorem d_Mo_emptied_1 : decode b_Mo_emptied 1 = .ok (.getfield 23, 3) := by decide +kernel
theorem d_Mo_emptied_4 : decode b_Mo_emptied 4 = .ok (.iload_n 1, 1) := by decide +kernel
theorem d_Mo_emptied_5 : decode b_Mo_emptied 5 = .ok (.iconst (-1), 1) := by decide +kernel
theorem d_Mo_emptied_6 : decode b_Mo_emptied 6 = .ok (.iastore, 1) := by decide +kernel
theorem d_Mo_emptied_7 : decode b_Mo_emptied 7 = .ok (.iconst 0, 1) := by decide +kernel
theorem d_Mo_emptied_8 : decode b_Mo_emptied 8 = .ok (.istore_n 2, 1) := by decide +kernel
theorem d_Mo_emptied_9 : decode b_Mo_emptied 9 = .ok (.iload_n 2, 1) := by decide +kernel
theorem d_Mo_emptied_10 : decode b_Mo_emptied 10 = .ok (.bipush 8, 2) := by decide +kernel
theorem d_Mo_emptied_12 : decode b_Mo_emptied 12 = .ok (.if_icmp .ge 21, 3) := by decide +kernel
theorem d_Mo_emptied_15 : decode b_Mo_emptied 15 = .ok (.aload_n 0, 1) := by decide +kernel
theorem d_Mo_emptied_16 : decode b_Mo_emptied 16 = .ok (.getfield 54, 3) := by decide +kernel
theorem d_Mo_emptied_19 : decode b_Mo_emptied 19 = .ok (.bipush 8, 2) := by decide +kernel
theorem d_Mo_emptied_21 : decode b_Mo_emptied 21 = .ok (.iload_n 1, 1) := by decide +kernel
theorem d_Mo_emptied_22 : decode b_Mo_emptied 22 = .ok (.imul, 1) := by decide +kernel
theorem d_Mo_emptied_23 : decode b_Mo_emptied 23 = .ok (.iload_n 2, 1) := by decide +kernel
theorem d_Mo_emptied_24 : decode b_Mo_emptied 24 = .ok (.iadd, 1) := by decide +kernel
theorem d_Mo_emptied_25 : decode b_Mo_emptied 25 = .ok (.iconst 0, 1) := by decide +kernel
theorem d_Mo_emptied_26 : decode b_Mo_emptied 26 = .ok (.iastore, 1) := by decide +kernel
theorem d_Mo_emptied_27 : decode b_Mo_emptied 27 = .ok (.iinc 2 1, 3) := by decide +kernel
theorem d_Mo_emptied_30 : decode b_Mo_emptied 30 = .ok (.goto (-21), 3) := by decide +kernel
theorem d_Mo_emptied_33 : decode b_Mo_emptied 33 = .ok (.return_, 1) := by decide +kernel
theorem d_Mo_trigger_0 : decode b_Mo_trigger 0 = .ok (.aload_n 0, 1) := by decide +kernel
theorem d_Mo_trigger_1 : decode b_Mo_trigger 1 = .ok (.aload_n 0, 1) := by decide +kernel
theorem d_Mo_trigger_2 : decode b_Mo_trigger 2 = .ok (.iload_n 1, 1) := by decide +kernel
theorem d_Mo_trigger_3 : decode b_Mo_trigger 3 = .ok (.iload_n 2, 1) := by decide +kernel
theorem d_Mo_trigger_4 : decode b_Mo_trigger 4 = .ok (.iload_n 3, 1) := by decide +kernel
theorem d_Mo_trigger_5 : decode b_Mo_trigger 5 = .ok (.invokevirtual 142, 3) := by decide +kernel
theorem d_Mo_trigger_8 : decode b_Mo_trigger 8 = .ok (.invokevirtual 120, 3) := by decide +kernel
theorem d_Mo_trigger_11 : decode b_Mo_trigger 11 = .ok (.ireturn, 1) := by decide +kernel
theorem d_Mo_triggers_0 : decode b_Mo_triggers 0 = .ok (.iload_n 1, 1) := by decide +kernel
theorem d_Mo_triggers_1 : decode b_Mo_triggers 1 = .ok (.invokestatic 105, 3) := by decide +kernel
theorem d_Mo_triggers_4 : decode b_Mo_triggers 4 = .ok (.ifCond .eq 14, 3) := by decide +kernel
theorem d_Mo_triggers_7 : decode b_Mo_triggers 7 = .ok (.iload_n 2, 1) := by decide +kernel
theorem d_Mo_triggers_8 : decode b_Mo_triggers 8 = .ok (.ifCond .lt 10, 3) := by decide +kernel
theorem d_Mo_triggers_11 : decode b_Mo_triggers 11 = .ok (.iload_n 2, 1) := by decide +kernel
theorem d_Mo_triggers_12 : decode b_Mo_triggers 12 = .ok (.sipush 4096, 3) := by decide +kernel
theorem d_Mo_triggers_15 : decode b_Mo_triggers 15 = .ok (.if_icmp .le 6, 3) := by decide +kernel
theorem d_Mo_triggers_18 : decode b_Mo_triggers 18 = .ok (.bipush (-2), 2) := by decide +kernel
theorem d_Mo_triggers_20 : decode b_Mo_triggers 20 = .ok (.ireturn, 1) := by decide +kernel
theorem d_Mo_triggers_21 : decode b_Mo_triggers 21 = .ok (.aload_n 0, 1) := by decide +kernel
theorem d_Mo_triggers_22 : decode b_Mo_triggers 22 = .ok (.iload_n 1, 1) := by decide +kernel
theorem d_Mo_triggers_23 : decode b_Mo_triggers 23 = .ok (.invokevirtual 123, 3) := by decide +kernel
theorem d_Mo_triggers_26 : decode b_Mo_triggers 26 = .ok (.ifCond .eq 6, 3) := by decide +kernel
theorem d_Mo_triggers_29 : decode b_Mo_triggers 29 = .ok (.bipush (-3), 2) := by decide +kernel
theorem d_Mo_triggers_31 : decode b_Mo_triggers 31 = .ok (.ireturn, 1) := by decide +kernel
theorem d_Mo_triggers_32 : decode b_Mo_triggers 32 = .ok (.aload_n 0, 1) := by decide +kernel
theorem d_Mo_triggers_33 : decode b_Mo_triggers 33 = .ok (.getfield 29, 3) := by decide +kernel
theorem d_Mo_triggers_36 : decode b_Mo_triggers 36 = .ok (.iload_n 1, 1) := by decide +kernel
theorem d_Mo_triggers_37 : decode b_Mo_triggers 37 = .ok (.iload_n 2, 1) := by decide +kernel
theorem d_Mo_triggers_38 : decode b_Mo_triggers 38 = .ok (.iastore, 1) := by decide +kernel
theorem d_Mo_triggers_39 : decode b_Mo_triggers 39 = .ok (.aload_n 0, 1) := by decide +kernel
theorem d_Mo_triggers_40 : decode b_Mo_triggers 40 = .ok (.getfield 32, 3) := by decide +kernel
theorem d_Mo_triggers_43 : decode b_Mo_triggers 43 = .ok (.iload_n 1, 1) := by decide +kernel
theorem d_Mo_triggers_44 : decode b_Mo_triggers 44 = .ok (.iload_n 3, 1) := by decide +kernel
theorem d_Mo_triggers_45 : decode b_Mo_triggers 45 = .ok (.iastore, 1) := by decide +kernel
theorem d_Mo_triggers_46 : decode b_Mo_triggers 46 = .ok (.aload_n 0, 1) := by decide +kernel
theorem d_Mo_triggers_47 : decode b_Mo_triggers 47 = .ok (.getfield 41, 3) := by decide +kernel
theorem d_Mo_triggers_50 : decode b_Mo_triggers 50 = .ok (.iload_n 1, 1) := by decide +kernel
theorem d_Mo_triggers_51 : decode b_Mo_triggers 51 = .ok (.iconst 1, 1) := by decide +kernel
theorem d_Mo_triggers_52 : decode b_Mo_triggers 52 = .ok (.bastore, 1) := by decide +kernel
theorem d_Mo_triggers_53 : decode b_Mo_triggers 53 = .ok (.aload_n 0, 1) := by decide +kernel
theorem d_Mo_triggers_54 : decode b_Mo_triggers 54 = .ok (.getfield 35, 3) := by decide +kernel
theorem d_Mo_triggers_57 : decode b_Mo_triggers 57 = .ok (.iload_n 1, 1) := by decide +kernel
theorem d_Mo_triggers_58 : decode b_Mo_triggers 58 = .ok (.iconst 0, 1) := by decide +kernel
theorem d_Mo_triggers_59 : decode b_Mo_triggers 59 = .ok (.iastore, 1) := by decide +kernel
theorem d_Mo_triggers_60 : decode b_Mo_triggers 60 = .ok (.aload_n 0, 1) := by decide +kernel
theorem d_Mo_triggers_61 : decode b_Mo_triggers 61 = .ok (.getfield 45, 3) := by decide +kernel
theorem d_Mo_triggers_64 : decode b_Mo_triggers 64 = .ok (.iload_n 1, 1) := by decide +kernel
theorem d_Mo_triggers_65 : decode b_Mo_triggers 65 = .ok (.iconst 0, 1) := by decide +kernel
theorem d_Mo_triggers_66 : decode b_Mo_triggers 66 = .ok (.bastore, 1) := by decide +kernel
theorem d_Mo_triggers_67 : decode b_Mo_triggers 67 = .ok (.iconst 1, 1) := by decide +kernel
theorem d_Mo_triggers_68 : decode b_Mo_triggers 68 = .ok (.ireturn, 1) := by decide +kernel
theorem d_Mo_started_0 : decode b_Mo_started 0 = .ok (.aload_n 0, 1) := by decide +kernel
theorem d_Mo_started_1 : decode b_Mo_started 1 = .ok (.iconst 0, 1) := by decide +kernel
theorem d_Mo_started_2 : decode b_Mo_started 2 = .ok (.putfield 76, 3) := by decide +kernel
theorem d_Mo_started_5 : decode b_Mo_started 5 = .ok (.iload_n 1, 1) := by decide +kernel
theorem d_Mo_started_6 : decode b_Mo_started 6 = .ok (.ifCond .le 22, 3) := by decide +kernel
theorem d_Mo_started_9 : decode b_Mo_started 9 = .ok (.iload_n 1, 1) := by decide +kernel
theorem d_Mo_started_10 : decode b_Mo_started 10 = .ok (.aload_n 0, 1) := by decide +kernel
theorem d_Mo_started_11 : decode b_Mo_started 11 = .ok (.getfield 90, 3) := by decide +kernel
theorem d_Mo_started_14 : decode b_Mo_started 14 = .ok (.if_icmp .gt 14, 3) := by decide +kernel
theorem d_Mo_started_17 : decode b_Mo_started 17 = .ok (.aload_n 0, 1) := by decide +kernel
theorem d_Mo_started_18 : decode b_Mo_started 18 = .ok (.getfield 57, 3) := by decide +kernel
theorem d_Mo_started_21 : decode b_Mo_started 21 = .ok (.iload_n 1, 1) := by decide +kernel
theorem d_Mo_started_22 : decode b_Mo_started 22 = .ok (.iconst 1, 1) := by decide +kernel
theorem d_Mo_started_23 : decode b_Mo_started 23 = .ok (.isub, 1) := by decide +kernel
theorem d_Mo_started_24 : decode b_Mo_started 24 = .ok (.iaload, 1) := by decide +kernel
theorem d_Mo_started_25 : decode b_Mo_started 25 = .ok (.goto 4, 3) := by decide +kernel
theorem d_Mo_started_28 : decode b_Mo_started 28 = .ok (.iconst 0, 1) := by decide +kernel
theorem d_Mo_started_29 : decode b_Mo_started 29 = .ok (.ireturn, 1) := by decide +kernel
theorem d_Mo_end_0 : decode b_Mo_end 0 = .ok (.aload_n 0, 1) := by decide +kernel
theorem d_Mo_end_1 : decode b_Mo_end 1 = .ok (.aload_n 0, 1) := by decide +kernel
theorem d_Mo_end_2 : decode b_Mo_end 2 = .ok (.iload_n 1, 1) := by decide +kernel
theorem d_Mo_end_3 : decode b_Mo_end 3 = .ok (.invokevirtual 146, 3) := by decide +kernel
theorem d_Mo_end_6 : decode b_Mo_end 6 = .ok (.invokevirtual 120, 3) := by decide +kernel
theorem d_Mo_end_9 : decode b_Mo_end 9 = .ok (.ireturn, 1) := by decide +kernel
theorem d_Mo_ending_0 : decode b_Mo_ending 0 = .ok (.iload_n 1, 1) := by decide +kernel
theorem d_Mo_ending_1 : decode b_Mo_ending 1 = .ok (.iconst 1, 1) := by decide +kernel
theorem d_Mo_ending_2 : decode b_Mo_ending 2 = .ok (.if_icmp .lt 22, 3) := by decide +kernel
theorem d_Mo_ending_5 : decode b_Mo_ending 5 = .ok (.iload_n 1, 1) := by decide +kernel
theorem d_Mo_ending_6 : decode b_Mo_ending 6 = .ok (.aload_n 0, 1) := by decide +kernel
theorem d_Mo_ending_7 : decode b_Mo_ending 7 = .ok (.getfield 90, 3) := by decide +kernel
theorem d_Mo_ending_10 : decode b_Mo_ending 10 = .ok (.if_icmp .gt 14, 3) := by decide +kernel
theorem d_Mo_ending_13 : decode b_Mo_ending 13 = .ok (.aload_n 0, 1) := by decide +kernel
theorem d_Mo_ending_14 : decode b_Mo_ending 14 = .ok (.getfield 60, 3) := by decide +kernel
theorem d_Mo_ending_17 : decode b_Mo_ending 17 = .ok (.iload_n 1, 1) := by decide +kernel
theorem d_Mo_ending_18 : decode b_Mo_ending 18 = .ok (.iconst 1, 1) := by decide +kernel
theorem d_Mo_ending_19 : decode b_Mo_ending 19 = .ok (.isub, 1) := by decide +kernel
theorem d_Mo_ending_20 : decode b_Mo_ending 20 = .ok (.baload, 1) := by decide +kernel
theorem d_Mo_ending_21 : decode b_Mo_ending 21 = .ok (.ifCond .ne 6, 3) := by decide +kernel
theorem d_Mo_ending_24 : decode b_Mo_ending 24 = .ok (.bipush (-4), 2) := by decide +kernel
theorem d_Mo_ending_26 : decode b_Mo_ending 26 = .ok (.ireturn, 1) := by decide +kernel
theorem d_Mo_ending_27 : decode b_Mo_ending 27 = .ok (.aload_n 0, 1) := by decide +kernel
theorem d_Mo_ending_28 : decode b_Mo_ending 28 = .ok (.getfield 60, 3) := by decide +kernel
theorem d_Mo_ending_31 : decode b_Mo_ending 31 = .ok (.iload_n 1, 1) := by decide +kernel
theorem d_Mo_ending_32 : decode b_Mo_ending 32 = .ok (.iconst 1, 1) := by decide +kernel
theorem d_Mo_ending_33 : decode b_Mo_ending 33 = .ok (.isub, 1) := by decide +kernel
theorem d_Mo_ending_34 : decode b_Mo_ending 34 = .ok (.iconst 0, 1) := by decide +kernel
theorem d_Mo_ending_35 : decode b_Mo_ending 35 = .ok (.bastore, 1) := by decide +kernel
theorem d_Mo_ending_36 : decode b_Mo_ending 36 = .ok (.aload_n 0, 1) := by decide +kernel
theorem d_Mo_ending_37 : decode b_Mo_ending 37 = .ok (.dup, 1) := by decide +kernel
theorem d_Mo_ending_38 : decode b_Mo_ending 38 = .ok (.getfield 93, 3) := by decide +kernel
theorem d_Mo_ending_41 : decode b_Mo_ending 41 = .ok (.iconst 1, 1) := by decide +kernel
theorem d_Mo_ending_42 : decode b_Mo_ending 42 = .ok (.isub, 1) := by decide +kernel
theorem d_Mo_ending_43 : decode b_Mo_ending 43 = .ok (.putfield 93, 3) := by decide +kernel
theorem d_Mo_ending_46 : decode b_Mo_ending 46 = .ok (.iconst 0, 1) := by decide +kernel
theorem d_Mo_ending_47 : decode b_Mo_ending 47 = .ok (.istore_n 2, 1) := by decide +kernel
theorem d_Mo_ending_48 : decode b_Mo_ending 48 = .ok (.iload_n 2, 1) := by decide +kernel
theorem d_Mo_ending_49 : decode b_Mo_ending 49 = .ok (.bipush 32, 2) := by decide +kernel
theorem d_Mo_ending_51 : decode b_Mo_ending 51 = .ok (.if_icmp .ge 92, 3) := by decide +kernel
theorem d_Mo_ending_54 : decode b_Mo_ending 54 = .ok (.aload_n 0, 1) := by decide +kernel
theorem d_Mo_ending_55 : decode b_Mo_ending 55 = .ok (.getfield 29, 3) := by decide +kernel
theorem d_Mo_ending_58 : decode b_Mo_ending 58 = .ok (.iload_n 2, 1) := by decide +kernel
theorem d_Mo_ending_59 : decode b_Mo_ending 59 = .ok (.iaload, 1) := by decide +kernel
theorem d_Mo_ending_60 : decode b_Mo_ending 60 = .ok (.ifCond .eq 77, 3) := by decide +kernel
theorem d_Mo_ending_63 : decode b_Mo_ending 63 = .ok (.aload_n 0, 1) := by decide +kernel
theorem d_Mo_ending_64 : decode b_Mo_ending 64 = .ok (.getfield 35, 3) := by decide +kernel
theorem d_Mo_ending_67 : decode b_Mo_ending 67 = .ok (.iload_n 2, 1) := by decide +kernel
theorem d_Mo_ending_68 : decode b_Mo_ending 68 = .ok (.iaload, 1) := by decide +kernel
theorem d_Mo_ending_69 : decode b_Mo_ending 69 = .ok (.iload_n 1, 1) := by decide +kernel
theorem d_Mo_ending_70 : decode b_Mo_ending 70 = .ok (.if_icmp .eq 6, 3) := by decide +kernel
theorem d_Mo_ending_73 : decode b_Mo_ending 73 = .ok (.goto 64, 3) := by decide +kernel
theorem d_Mo_ending_76 : decode b_Mo_ending 76 = .ok (.aload_n 0, 1) := by decide +kernel
theorem d_Mo_ending_77 : decode b_Mo_ending 77 = .ok (.getfield 45, 3) := by decide +kernel
theorem d_Mo_ending_80 : decode b_Mo_ending 80 = .ok (.iload_n 2, 1) := by decide +kernel
theorem d_Mo_ending_81 : decode b_Mo_ending 81 = .ok (.baload, 1) := by decide +kernel
theorem d_Mo_ending_82 : decode b_Mo_ending 82 = .ok (.ifCond .ne 15, 3) := by decide +kernel
theorem d_Mo_ending_85 : decode b_Mo_ending 85 = .ok (.aload_n 0, 1) := by decide +kernel
theorem d_Mo_ending_86 : decode b_Mo_ending 86 = .ok (.iload_n 2, 1) := by decide +kernel
theorem d_Mo_ending_87 : decode b_Mo_ending 87 = .ok (.invokevirtual 96, 3) := by decide +kernel
theorem d_Mo_ending_90 : decode b_Mo_ending 90 = .ok (.ifCond .le 7, 3) := by decide +kernel
theorem d_Mo_ending_93 : decode b_Mo_ending 93 = .ok (.iconst 1, 1) := by decide +kernel
theorem d_Mo_ending_94 : decode b_Mo_ending 94 = .ok (.goto 4, 3) := by decide +kernel
theorem d_Mo_ending_97 : decode b_Mo_ending 97 = .ok (.iconst 0, 1) := by decide +kernel
theorem d_Mo_ending_98 : decode b_Mo_ending 98 = .ok (.istore_n 3, 1) := by decide +kernel
theorem d_Mo_ending_99 : decode b_Mo_ending 99 = .ok (.aload_n 0, 1) := by decide +kernel
theorem d_Mo_ending_100 : decode b_Mo_ending 100 = .ok (.getfield 35, 3) := by decide +kernel
theorem d_Mo_ending_103 : decode b_Mo_ending 103 = .ok (.iload_n 2, 1) := by decide +kernel
theorem d_Mo_ending_104 : decode b_Mo_ending 104 = .ok (.iload_n 3, 1) := by decide +kernel
theorem d_Mo_ending_105 : decode b_Mo_ending 105 = .ok (.ifCond .eq 16, 3) := by decide +kernel
theorem d_Mo_ending_108 : decode b_Mo_ending 108 = .ok (.aload_n 0, 1) := by decide +kernel
theorem d_Mo_ending_109 : decode b_Mo_ending 109 = .ok (.aload_n 0, 1) := by decide +kernel
theorem d_Mo_ending_110 : decode b_Mo_ending 110 = .ok (.getfield 32, 3) := by decide +kernel
theorem d_Mo_ending_113 : decode b_Mo_ending 113 = .ok (.iload_n 2, 1) := by decide +kernel
theorem d_Mo_ending_114 : decode b_Mo_ending 114 = .ok (.iaload, 1) := by decide +kernel
theorem d_Mo_ending_115 : decode b_Mo_ending 115 = .ok (.invokevirtual 99, 3) := by decide +kernel
theorem d_Mo_ending_118 : decode b_Mo_ending 118 = .ok (.goto 4, 3) := by decide +kernel
theorem d_Mo_ending_121 : decode b_Mo_ending 121 = .ok (.iconst 0, 1) := by decide +kernel
theorem d_Mo_ending_122 : decode b_Mo_ending 122 = .ok (.iastore, 1) := by decide +kernel
theorem d_Mo_ending_123 : decode b_Mo_ending 123 = .ok (.aload_n 0, 1) := by decide +kernel
theorem d_Mo_ending_124 : decode b_Mo_ending 124 = .ok (.getfield 45, 3) := by decide +kernel
theorem d_Mo_ending_127 : decode b_Mo_ending 127 = .ok (.iload_n 2, 1) := by decide +kernel
theorem d_Mo_ending_128 : decode b_Mo_ending 128 = .ok (.iconst 0, 1) := by decide +kernel
theorem d_Mo_ending_129 : decode b_Mo_ending 129 = .ok (.bastore, 1) := by decide +kernel
theorem d_Mo_ending_130 : decode b_Mo_ending 130 = .ok (.aload_n 0, 1) := by decide +kernel
theorem d_Mo_ending_131 : decode b_Mo_ending 131 = .ok (.getfield 35, 3) := by decide +kernel
theorem d_Mo_ending_134 : decode b_Mo_ending 134 = .ok (.iload_n 2, 1) := by decide +kernel
theorem d_Mo_ending_135 : decode b_Mo_ending 135 = .ok (.iaload, 1) := by decide +kernel
theorem d_Mo_ending_136 : decode b_Mo_ending 136 = .ok (.ireturn, 1) := by decide +kernel
theorem d_Mo_ending_137 : decode b_Mo_ending 137 = .ok (.iinc 2 1, 3) := by decide +kernel
theorem d_Mo_ending_140 : decode b_Mo_ending 140 = .ok (.goto (-92), 3) := by decide +kernel
theorem d_Mo_ending_143 : decode b_Mo_ending 143 = .ok (.iconst 0, 1) := by decide +kernel
theorem d_Mo_ending_144 : decode b_Mo_ending 144 = .ok (.ireturn, 1) := by decide +kernel
theorem d_Mo_rewrite_0 : decode b_Mo_rewrite 0 = .ok (.aload_n 0, 1) := by decide +kernel
theorem d_Mo_rewrite_1 : decode b_Mo_rewrite 1 = .ok (.aload_n 0, 1) := by decide +kernel
theorem d_Mo_rewrite_2 : decode b_Mo_rewrite 2 = .ok (.iload_n 1, 1) := by decide +kernel
theorem d_Mo_rewrite_3 : decode b_Mo_rewrite 3 = .ok (.iload_n 2, 1) := by decide +kernel
theorem d_Mo_rewrite_4 : decode b_Mo_rewrite 4 = .ok (.lload_n 3, 1) := by decide +kernel
theorem d_Mo_rewrite_5 : decode b_Mo_rewrite 5 = .ok (.invokevirtual 149, 3) := by decide +kernel
theorem d_Mo_rewrite_8 : decode b_Mo_rewrite 8 = .ok (.invokevirtual 120, 3) := by decide +kernel
theorem d_Mo_rewrite_11 : decode b_Mo_rewrite 11 = .ok (.ireturn, 1) := by decide +kernel
theorem d_Mo_rewriting_0 : decode b_Mo_rewriting 0 = .ok (.iload_n 1, 1) := by decide +kernel
theorem d_Mo_rewriting_1 : decode b_Mo_rewriting 1 = .ok (.invokestatic 105, 3) := by decide +kernel
theorem d_Mo_rewriting_4 : decode b_Mo_rewriting 4 = .ok (.ifCond .ne 6, 3) := by decide +kernel
theorem d_Mo_rewriting_7 : decode b_Mo_rewriting 7 = .ok (.bipush (-2), 2) := by decide +kernel
theorem d_Mo_rewriting_9 : decode b_Mo_rewriting 9 = .ok (.ireturn, 1) := by decide +kernel
theorem d_Mo_rewriting_10 : decode b_Mo_rewriting 10 = .ok (.aload_n 0, 1) := by decide +kernel
theorem d_Mo_rewriting_11 : decode b_Mo_rewriting 11 = .ok (.iload_n 1, 1) := by decide +kernel
theorem d_Mo_rewriting_12 : decode b_Mo_rewriting 12 = .ok (.invokevirtual 130, 3) := by decide +kernel
theorem d_Mo_rewriting_15 : decode b_Mo_rewriting 15 = .ok (.ifCond .eq 6, 3) := by decide +kernel
theorem d_Mo_rewriting_18 : decode b_Mo_rewriting 18 = .ok (.bipush (-3), 2) := by decide +kernel
theorem d_Mo_rewriting_20 : decode b_Mo_rewriting 20 = .ok (.ireturn, 1) := by decide +kernel
theorem d_Mo_rewriting_21 : decode b_Mo_rewriting 21 = .ok (.aload_n 0, 1) := by decide +kernel
theorem d_Mo_rewriting_22 : decode b_Mo_rewriting 22 = .ok (.iload_n 1, 1) := by decide +kernel
theorem d_Mo_rewriting_23 : decode b_Mo_rewriting 23 = .ok (.iload_n 2, 1) := by decide +kernel
theorem d_Mo_rewriting_24 : decode b_Mo_rewriting 24 = .ok (.invokevirtual 126, 3) := by decide +kernel
theorem d_Mo_rewriting_27 : decode b_Mo_rewriting 27 = .ok (.istore 5, 2) := by decide +kernel
theorem d_Mo_rewriting_29 : decode b_Mo_rewriting 29 = .ok (.iload 5, 2) := by decide +kernel
theorem d_Mo_rewriting_31 : decode b_Mo_rewriting 31 = .ok (.iconst (-1), 1) := by decide +kernel
theorem d_Mo_rewriting_32 : decode b_Mo_rewriting 32 = .ok (.if_icmp .ne 6, 3) := by decide +kernel
theorem d_Mo_rewriting_35 : decode b_Mo_rewriting 35 = .ok (.bipush (-4), 2) := by decide +kernel
theorem d_Mo_rewriting_37 : decode b_Mo_rewriting 37 = .ok (.ireturn, 1) := by decide +kernel
theorem d_Mo_rewriting_38 : decode b_Mo_rewriting 38 = .ok (.aload_n 0, 1) := by decide +kernel
theorem d_Mo_rewriting_39 : decode b_Mo_rewriting 39 = .ok (.getfield 19, 3) := by decide +kernel
theorem d_Mo_rewriting_42 : decode b_Mo_rewriting 42 = .ok (.iload 5, 2) := by decide +kernel
theorem d_Mo_rewriting_44 : decode b_Mo_rewriting 44 = .ok (.lload_n 3, 1) := by decide +kernel
theorem d_Mo_rewriting_45 : decode b_Mo_rewriting 45 = .ok (.lastore, 1) := by decide +kernel
theorem d_Mo_rewriting_46 : decode b_Mo_rewriting 46 = .ok (.aload_n 0, 1) := by decide +kernel
theorem d_Mo_rewriting_47 : decode b_Mo_rewriting 47 = .ok (.getfield 48, 3) := by decide +kernel
theorem d_Mo_rewriting_50 : decode b_Mo_rewriting 50 = .ok (.iload_n 1, 1) := by decide +kernel
theorem d_Mo_rewriting_51 : decode b_Mo_rewriting 51 = .ok (.aload_n 0, 1) := by decide +kernel
theorem d_Mo_rewriting_52 : decode b_Mo_rewriting 52 = .ok (.getfield 112, 3) := by decide +kernel
theorem d_Mo_rewriting_55 : decode b_Mo_rewriting 55 = .ok (.lastore, 1) := by decide +kernel
theorem d_Mo_rewriting_56 : decode b_Mo_rewriting 56 = .ok (.iconst 1, 1) := by decide +kernel
theorem d_Mo_rewriting_57 : decode b_Mo_rewriting 57 = .ok (.ireturn, 1) := by decide +kernel
theorem d_Mo_delay_0 : decode b_Mo_delay 0 = .ok (.aload_n 0, 1) := by decide +kernel
theorem d_Mo_delay_1 : decode b_Mo_delay 1 = .ok (.getfield 153, 3) := by decide +kernel
theorem d_Mo_delay_4 : decode b_Mo_delay 4 = .ok (.sipush 200, 3) := by decide +kernel
theorem d_Mo_delay_7 : decode b_Mo_delay 7 = .ok (.if_icmp .ne 9, 3) := by decide +kernel
theorem d_Mo_delay_10 : decode b_Mo_delay 10 = .ok (.aload_n 0, 1) := by decide +kernel
theorem d_Mo_delay_11 : decode b_Mo_delay 11 = .ok (.iconst (-1), 1) := by decide +kernel
theorem d_Mo_delay_12 : decode b_Mo_delay 12 = .ok (.invokevirtual 120, 3) := by decide +kernel
theorem d_Mo_delay_15 : decode b_Mo_delay 15 = .ok (.ireturn, 1) := by decide +kernel
theorem d_Mo_delay_16 : decode b_Mo_delay 16 = .ok (.aload_n 0, 1) := by decide +kernel
theorem d_Mo_delay_17 : decode b_Mo_delay 17 = .ok (.dup, 1) := by decide +kernel
theorem d_Mo_delay_18 : decode b_Mo_delay 18 = .ok (.getfield 156, 3) := by decide +kernel
theorem d_Mo_delay_21 : decode b_Mo_delay 21 = .ok (.iconst 1, 1) := by decide +kernel
theorem d_Mo_delay_22 : decode b_Mo_delay 22 = .ok (.iadd, 1) := by decide +kernel
theorem d_Mo_delay_23 : decode b_Mo_delay 23 = .ok (.putfield 156, 3) := by decide +kernel
theorem d_Mo_delay_26 : decode b_Mo_delay 26 = .ok (.lload_n 2, 1) := by decide +kernel
theorem d_Mo_delay_27 : decode b_Mo_delay 27 = .ok (.aload_n 0, 1) := by decide +kernel
theorem d_Mo_delay_28 : decode b_Mo_delay 28 = .ok (.getfield 112, 3) := by decide +kernel
theorem d_Mo_delay_31 : decode b_Mo_delay 31 = .ok (.lcmp, 1) := by decide +kernel
theorem d_Mo_delay_32 : decode b_Mo_delay 32 = .ok (.ifCond .gt 18, 3) := by decide +kernel
theorem d_Mo_delay_35 : decode b_Mo_delay 35 = .ok (.aload_n 0, 1) := by decide +kernel
theorem d_Mo_delay_36 : decode b_Mo_delay 36 = .ok (.iload_n 1, 1) := by decide +kernel
theorem d_Mo_delay_37 : decode b_Mo_delay 37 = .ok (.invokevirtual 99, 3) := by decide +kernel
theorem d_Mo_delay_40 : decode b_Mo_delay 40 = .ok (.pop, 1) := by decide +kernel
theorem d_Mo_delay_41 : decode b_Mo_delay 41 = .ok (.aload_n 0, 1) := by decide +kernel
theorem d_Mo_delay_42 : decode b_Mo_delay 42 = .ok (.aload_n 0, 1) := by decide +kernel
theorem d_Mo_delay_43 : decode b_Mo_delay 43 = .ok (.getfield 156, 3) := by decide +kernel
theorem d_Mo_delay_46 : decode b_Mo_delay 46 = .ok (.invokevirtual 120, 3) := by decide +kernel
theorem d_Mo_delay_49 : decode b_Mo_delay 49 = .ok (.ireturn, 1) := by decide +kernel
theorem d_Mo_delay_50 : decode b_Mo_delay 50 = .ok (.aload_n 0, 1) := by decide +kernel
theorem d_Mo_delay_51 : decode b_Mo_delay 51 = .ok (.getfield 63, 3) := by decide +kernel
theorem d_Mo_delay_54 : decode b_Mo_delay 54 = .ok (.aload_n 0, 1) := by decide +kernel
theorem d_Mo_delay_55 : decode b_Mo_delay 55 = .ok (.getfield 153, 3) := by decide +kernel
theorem d_Mo_delay_58 : decode b_Mo_delay 58 = .ok (.aload_n 0, 1) := by decide +kernel
theorem d_Mo_delay_59 : decode b_Mo_delay 59 = .ok (.getfield 156, 3) := by decide +kernel
theorem d_Mo_delay_62 : decode b_Mo_delay 62 = .ok (.iastore, 1) := by decide +kernel
theorem d_Mo_delay_63 : decode b_Mo_delay 63 = .ok (.aload_n 0, 1) := by decide +kernel
theorem d_Mo_delay_64 : decode b_Mo_delay 64 = .ok (.getfield 66, 3) := by decide +kernel
theorem d_Mo_delay_67 : decode b_Mo_delay 67 = .ok (.aload_n 0, 1) := by decide +kernel
theorem d_Mo_delay_68 : decode b_Mo_delay 68 = .ok (.getfield 153, 3) := by decide +kernel
theorem d_Mo_delay_71 : decode b_Mo_delay 71 = .ok (.iload_n 1, 1) := by decide +kernel
theorem d_Mo_delay_72 : decode b_Mo_delay 72 = .ok (.iastore, 1) := by decide +kernel
theorem d_Mo_delay_73 : decode b_Mo_delay 73 = .ok (.aload_n 0, 1) := by decide +kernel
theorem d_Mo_delay_74 : decode b_Mo_delay 74 = .ok (.getfield 69, 3) := by decide +kernel
theorem d_Mo_delay_77 : decode b_Mo_delay 77 = .ok (.aload_n 0, 1) := by decide +kernel
theorem d_Mo_delay_78 : decode b_Mo_delay 78 = .ok (.getfield 153, 3) := by decide +kernel
theorem d_Mo_delay_81 : decode b_Mo_delay 81 = .ok (.lload_n 2, 1) := by decide +kernel
theorem d_Mo_delay_82 : decode b_Mo_delay 82 = .ok (.lastore, 1) := by decide +kernel
theorem d_Mo_delay_83 : decode b_Mo_delay 83 = .ok (.aload_n 0, 1) := by decide +kernel
theorem d_Mo_delay_84 : decode b_Mo_delay 84 = .ok (.dup, 1) := by decide +kernel
theorem d_Mo_delay_85 : decode b_Mo_delay 85 = .ok (.getfield 153, 3) := by decide +kernel
theorem d_Mo_delay_88 : decode b_Mo_delay 88 = .ok (.iconst 1, 1) := by decide +kernel
theorem d_Mo_delay_89 : decode b_Mo_delay 89 = .ok (.iadd, 1) := by decide +kernel
theorem d_Mo_delay_90 : decode b_Mo_delay 90 = .ok (.putfield 153, 3) := by decide +kernel
theorem d_Mo_delay_93 : decode b_Mo_delay 93 = .ok (.aload_n 0, 1) := by decide +kernel
theorem d_Mo_delay_94 : decode b_Mo_delay 94 = .ok (.aload_n 0, 1) := by decide +kernel
theorem d_Mo_delay_95 : decode b_Mo_delay 95 = .ok (.getfield 156, 3) := by decide +kernel
theorem d_Mo_delay_98 : decode b_Mo_delay 98 = .ok (.invokevirtual 120, 3) := by decide +kernel
theorem d_Mo_delay_101 : decode b_Mo_delay 101 = .ok (.ireturn, 1) := by decide +kernel
theorem d_Mo_cancel_0 : decode b_Mo_cancel 0 = .ok (.iconst (-1), 1) := by decide +kernel
theorem d_Mo_cancel_1 : decode b_Mo_cancel 1 = .ok (.istore_n 2, 1) := by decide +kernel
theorem d_Mo_cancel_2 : decode b_Mo_cancel 2 = .ok (.iconst 0, 1) := by decide +kernel
theorem d_Mo_cancel_3 : decode b_Mo_cancel 3 = .ok (.istore_n 3, 1) := by decide +kernel
theorem d_Mo_cancel_4 : decode b_Mo_cancel 4 = .ok (.iload_n 3, 1) := by decide +kernel
theorem d_Mo_cancel_5 : decode b_Mo_cancel 5 = .ok (.aload_n 0, 1) := by decide +kernel
theorem d_Mo_cancel_6 : decode b_Mo_cancel 6 = .ok (.getfield 153, 3) := by decide +kernel
theorem d_Mo_cancel_9 : decode b_Mo_cancel 9 = .ok (.if_icmp .ge 25, 3) := by decide +kernel
theorem d_Mo_cancel_12 : decode b_Mo_cancel 12 = .ok (.aload_n 0, 1) := by decide +kernel
theorem d_Mo_cancel_13 : decode b_Mo_cancel 13 = .ok (.getfield 63, 3) := by decide +kernel
theorem d_Mo_cancel_16 : decode b_Mo_cancel 16 = .ok (.iload_n 3, 1) := by decide +kernel
theorem d_Mo_cancel_17 : decode b_Mo_cancel 17 = .ok (.iaload, 1) := by decide +kernel
theorem d_Mo_cancel_18 : decode b_Mo_cancel 18 = .ok (.iload_n 1, 1) := by decide +kernel
theorem d_Mo_cancel_19 : decode b_Mo_cancel 19 = .ok (.if_icmp .ne 7, 3) := by decide +kernel
theorem d_Mo_cancel_22 : decode b_Mo_cancel 22 = .ok (.iload_n 3, 1) := by decide +kernel
theorem d_Mo_cancel_23 : decode b_Mo_cancel 23 = .ok (.goto 4, 3) := by decide +kernel
theorem d_Mo_cancel_26 : decode b_Mo_cancel 26 = .ok (.iload_n 2, 1) := by decide +kernel
theorem d_Mo_cancel_27 : decode b_Mo_cancel 27 = .ok (.istore_n 2, 1) := by decide +kernel
theorem d_Mo_cancel_28 : decode b_Mo_cancel 28 = .ok (.iinc 3 1, 3) := by decide +kernel
theorem d_Mo_cancel_31 : decode b_Mo_cancel 31 = .ok (.goto (-27), 3) := by decide +kernel
theorem d_Mo_cancel_34 : decode b_Mo_cancel 34 = .ok (.iload_n 2, 1) := by decide +kernel
theorem d_Mo_cancel_35 : decode b_Mo_cancel 35 = .ok (.iconst (-1), 1) := by decide +kernel
theorem d_Mo_cancel_36 : decode b_Mo_cancel 36 = .ok (.if_icmp .ne 9, 3) := by decide +kernel
theorem d_Mo_cancel_39 : decode b_Mo_cancel 39 = .ok (.aload_n 0, 1) := by decide +kernel
theorem d_Mo_cancel_40 : decode b_Mo_cancel 40 = .ok (.iconst 0, 1) := by decide +kernel
theorem d_Mo_cancel_41 : decode b_Mo_cancel 41 = .ok (.invokevirtual 120, 3) := by decide +kernel
theorem d_Mo_cancel_44 : decode b_Mo_cancel 44 = .ok (.ireturn, 1) := by decide +kernel
theorem d_Mo_cancel_45 : decode b_Mo_cancel 45 = .ok (.aload_n 0, 1) := by decide +kernel
theorem d_Mo_cancel_46 : decode b_Mo_cancel 46 = .ok (.iload_n 2, 1) := by decide +kernel
theorem d_Mo_cancel_47 : decode b_Mo_cancel 47 = .ok (.invokevirtual 159, 3) := by decide +kernel
theorem d_Mo_cancel_50 : decode b_Mo_cancel 50 = .ok (.aload_n 0, 1) := by decide +kernel
theorem d_Mo_cancel_51 : decode b_Mo_cancel 51 = .ok (.iconst 1, 1) := by decide +kernel
theorem d_Mo_cancel_52 : decode b_Mo_cancel 52 = .ok (.invokevirtual 120, 3) := by decide +kernel
theorem d_Mo_cancel_55 : decode b_Mo_cancel 55 = .ok (.ireturn, 1) := by decide +kernel
theorem d_Mo_drop_0 : decode b_Mo_drop 0 = .ok (.aload_n 0, 1) := by decide +kernel
theorem d_Mo_drop_1 : decode b_Mo_drop 1 = .ok (.dup, 1) := by decide +kernel
theorem d_Mo_drop_2 : decode b_Mo_drop 2 = .ok (.getfield 153, 3) := by decide +kernel
theorem d_Mo_drop_5 : decode b_Mo_drop 5 = .ok (.iconst 1, 1) := by decide +kernel
theorem d_Mo_drop_6 : decode b_Mo_drop 6 = .ok (.isub, 1) := by decide +kernel
theorem d_Mo_drop_7 : decode b_Mo_drop 7 = .ok (.putfield 153, 3) := by decide +kernel
theorem d_Mo_drop_10 : decode b_Mo_drop 10 = .ok (.iload_n 1, 1) := by decide +kernel
theorem d_Mo_drop_11 : decode b_Mo_drop 11 = .ok (.istore_n 2, 1) := by decide +kernel
theorem d_Mo_drop_12 : decode b_Mo_drop 12 = .ok (.iload_n 2, 1) := by decide +kernel
theorem d_Mo_drop_13 : decode b_Mo_drop 13 = .ok (.aload_n 0, 1) := by decide +kernel
theorem d_Mo_drop_14 : decode b_Mo_drop 14 = .ok (.getfield 153, 3) := by decide +kernel
theorem d_Mo_drop_17 : decode b_Mo_drop 17 = .ok (.if_icmp .ge 51, 3) := by decide +kernel
theorem d_Mo_drop_20 : decode b_Mo_drop 20 = .ok (.aload_n 0, 1) := by decide +kernel
theorem d_Mo_drop_21 : decode b_Mo_drop 21 = .ok (.getfield 63, 3) := by decide +kernel
theorem d_Mo_drop_24 : decode b_Mo_drop 24 = .ok (.iload_n 2, 1) := by decide +kernel
theorem d_Mo_drop_25 : decode b_Mo_drop 25 = .ok (.aload_n 0, 1) := by decide +kernel
theorem d_Mo_drop_26 : decode b_Mo_drop 26 = .ok (.getfield 63, 3) := by decide +kernel
theorem d_Mo_drop_29 : decode b_Mo_drop 29 = .ok (.iload_n 2, 1) := by decide +kernel
theorem d_Mo_drop_30 : decode b_Mo_drop 30 = .ok (.iconst 1, 1) := by decide +kernel
theorem d_Mo_drop_31 : decode b_Mo_drop 31 = .ok (.iadd, 1) := by decide +kernel
theorem d_Mo_drop_32 : decode b_Mo_drop 32 = .ok (.iaload, 1) := by decide +kernel
theorem d_Mo_drop_33 : decode b_Mo_drop 33 = .ok (.iastore, 1) := by decide +kernel
theorem d_Mo_drop_34 : decode b_Mo_drop 34 = .ok (.aload_n 0, 1) := by decide +kernel
theorem d_Mo_drop_35 : decode b_Mo_drop 35 = .ok (.getfield 66, 3) := by decide +kernel
theorem d_Mo_drop_38 : decode b_Mo_drop 38 = .ok (.iload_n 2, 1) := by decide +kernel
theorem d_Mo_drop_39 : decode b_Mo_drop 39 = .ok (.aload_n 0, 1) := by decide +kernel
theorem d_Mo_drop_40 : decode b_Mo_drop 40 = .ok (.getfield 66, 3) := by decide +kernel
theorem d_Mo_drop_43 : decode b_Mo_drop 43 = .ok (.iload_n 2, 1) := by decide +kernel
theorem d_Mo_drop_44 : decode b_Mo_drop 44 = .ok (.iconst 1, 1) := by decide +kernel
theorem d_Mo_drop_45 : decode b_Mo_drop 45 = .ok (.iadd, 1) := by decide +kernel
theorem d_Mo_drop_46 : decode b_Mo_drop 46 = .ok (.iaload, 1) := by decide +kernel
theorem d_Mo_drop_47 : decode b_Mo_drop 47 = .ok (.iastore, 1) := by decide +kernel
theorem d_Mo_drop_48 : decode b_Mo_drop 48 = .ok (.aload_n 0, 1) := by decide +kernel
theorem d_Mo_drop_49 : decode b_Mo_drop 49 = .ok (.getfield 69, 3) := by decide +kernel
theorem d_Mo_drop_52 : decode b_Mo_drop 52 = .ok (.iload_n 2, 1) := by decide +kernel
theorem d_Mo_drop_53 : decode b_Mo_drop 53 = .ok (.aload_n 0, 1) := by decide +kernel
theorem d_Mo_drop_54 : decode b_Mo_drop 54 = .ok (.getfield 69, 3) := by decide +kernel
theorem d_Mo_drop_57 : decode b_Mo_drop 57 = .ok (.iload_n 2, 1) := by decide +kernel
theorem d_Mo_drop_58 : decode b_Mo_drop 58 = .ok (.iconst 1, 1) := by decide +kernel
theorem d_Mo_drop_59 : decode b_Mo_drop 59 = .ok (.iadd, 1) := by decide +kernel
theorem d_Mo_drop_60 : decode b_Mo_drop 60 = .ok (.laload, 1) := by decide +kernel
theorem d_Mo_drop_61 : decode b_Mo_drop 61 = .ok (.lastore, 1) := by decide +kernel
theorem d_Mo_drop_62 : decode b_Mo_drop 62 = .ok (.iinc 2 1, 3) := by decide +kernel
theorem d_Mo_drop_65 : decode b_Mo_drop 65 = .ok (.goto (-53), 3) := by decide +kernel
theorem d_Mo_drop_68 : decode b_Mo_drop 68 = .ok (.return_, 1) := by decide +kernel
theorem d_Mo_tick_0 : decode b_Mo_tick 0 = .ok (.lload_n 1, 1) := by decide +kernel
theorem d_Mo_tick_1 : decode b_Mo_tick 1 = .ok (.aload_n 0, 1) := by decide +kernel
theorem d_Mo_tick_2 : decode b_Mo_tick 2 = .ok (.getfield 112, 3) := by decide +kernel
theorem d_Mo_tick_5 : decode b_Mo_tick 5 = .ok (.lcmp, 1) := by decide +kernel
theorem d_Mo_tick_6 : decode b_Mo_tick 6 = .ok (.ifCond .ge 9, 3) := by decide +kernel
theorem d_Mo_tick_9 : decode b_Mo_tick 9 = .ok (.aload_n 0, 1) := by decide +kernel
theorem d_Mo_tick_10 : decode b_Mo_tick 10 = .ok (.iconst (-1), 1) := by decide +kernel
theorem d_Mo_tick_11 : decode b_Mo_tick 11 = .ok (.invokevirtual 120, 3) := by decide +kernel
theorem d_Mo_tick_14 : decode b_Mo_tick 14 = .ok (.ireturn, 1) := by decide +kernel
theorem d_Mo_tick_15 : decode b_Mo_tick 15 = .ok (.aload_n 0, 1) := by decide +kernel
theorem d_Mo_tick_16 : decode b_Mo_tick 16 = .ok (.lload_n 1, 1) := by decide +kernel
theorem d_Mo_tick_17 : decode b_Mo_tick 17 = .ok (.putfield 112, 3) := by decide +kernel
theorem d_Mo_tick_20 : decode b_Mo_tick 20 = .ok (.iconst 0, 1) := by decide +kernel
theorem d_Mo_tick_21 : decode b_Mo_tick 21 = .ok (.istore_n 3, 1) := by decide +kernel
theorem d_Mo_tick_22 : decode b_Mo_tick 22 = .ok (.iconst 1, 1) := by decide +kernel
theorem d_Mo_tick_23 : decode b_Mo_tick 23 = .ok (.istore 4, 2) := by decide +kernel
theorem d_Mo_tick_25 : decode b_Mo_tick 25 = .ok (.iload 4, 2) := by decide +kernel
theorem d_Mo_tick_27 : decode b_Mo_tick 27 = .ok (.ifCond .eq 117, 3) := by decide +kernel
theorem d_Mo_tick_30 : decode b_Mo_tick 30 = .ok (.iconst (-1), 1) := by decide +kernel
theorem d_Mo_tick_31 : decode b_Mo_tick 31 = .ok (.istore 5, 2) := by decide +kernel
theorem d_Mo_tick_33 : decode b_Mo_tick 33 = .ok (.iconst 0, 1) := by decide +kernel
theorem d_Mo_tick_34 : decode b_Mo_tick 34 = .ok (.istore 6, 2) := by decide +kernel
theorem d_Mo_tick_36 : decode b_Mo_tick 36 = .ok (.iload 6, 2) := by decide +kernel
theorem d_Mo_tick_38 : decode b_Mo_tick 38 = .ok (.aload_n 0, 1) := by decide +kernel
theorem d_Mo_tick_39 : decode b_Mo_tick 39 = .ok (.getfield 153, 3) := by decide +kernel
theorem d_Mo_tick_42 : decode b_Mo_tick 42 = .ok (.if_icmp .ge 57, 3) := by decide +kernel
theorem d_Mo_tick_45 : decode b_Mo_tick 45 = .ok (.aload_n 0, 1) := by decide +kernel
theorem d_Mo_tick_46 : decode b_Mo_tick 46 = .ok (.getfield 69, 3) := by decide +kernel
theorem d_Mo_tick_49 : decode b_Mo_tick 49 = .ok (.iload 6, 2) := by decide +kernel
theorem d_Mo_tick_51 : decode b_Mo_tick 51 = .ok (.laload, 1) := by decide +kernel
theorem d_Mo_tick_52 : decode b_Mo_tick 52 = .ok (.aload_n 0, 1) := by decide +kernel
theorem d_Mo_tick_53 : decode b_Mo_tick 53 = .ok (.getfield 112, 3) := by decide +kernel
theorem d_Mo_tick_56 : decode b_Mo_tick 56 = .ok (.lcmp, 1) := by decide +kernel
theorem d_Mo_tick_57 : decode b_Mo_tick 57 = .ok (.ifCond .gt 32, 3) := by decide +kernel
theorem d_Mo_tick_60 : decode b_Mo_tick 60 = .ok (.iload 5, 2) := by decide +kernel
theorem d_Mo_tick_62 : decode b_Mo_tick 62 = .ok (.iconst (-1), 1) := by decide +kernel
theorem d_Mo_tick_63 : decode b_Mo_tick 63 = .ok (.if_icmp .eq 21, 3) := by decide +kernel
theorem d_Mo_tick_66 : decode b_Mo_tick 66 = .ok (.aload_n 0, 1) := by decide +kernel
theorem d_Mo_tick_67 : decode b_Mo_tick 67 = .ok (.getfield 69, 3) := by decide +kernel
theorem d_Mo_tick_70 : decode b_Mo_tick 70 = .ok (.iload 6, 2) := by decide +kernel
theorem d_Mo_tick_72 : decode b_Mo_tick 72 = .ok (.laload, 1) := by decide +kernel
theorem d_Mo_tick_73 : decode b_Mo_tick 73 = .ok (.aload_n 0, 1) := by decide +kernel
theorem d_Mo_tick_74 : decode b_Mo_tick 74 = .ok (.getfield 69, 3) := by decide +kernel
theorem d_Mo_tick_77 : decode b_Mo_tick 77 = .ok (.iload 5, 2) := by decide +kernel
theorem d_Mo_tick_79 : decode b_Mo_tick 79 = .ok (.laload, 1) := by decide +kernel
theorem d_Mo_tick_80 : decode b_Mo_tick 80 = .ok (.lcmp, 1) := by decide +kernel
theorem d_Mo_tick_81 : decode b_Mo_tick 81 = .ok (.ifCond .ge 8, 3) := by decide +kernel
theorem d_Mo_tick_84 : decode b_Mo_tick 84 = .ok (.iload 6, 2) := by decide +kernel
theorem d_Mo_tick_86 : decode b_Mo_tick 86 = .ok (.goto 5, 3) := by decide +kernel
theorem d_Mo_tick_89 : decode b_Mo_tick 89 = .ok (.iload 5, 2) := by decide +kernel
theorem d_Mo_tick_91 : decode b_Mo_tick 91 = .ok (.istore 5, 2) := by decide +kernel
theorem d_Mo_tick_93 : decode b_Mo_tick 93 = .ok (.iinc 6 1, 3) := by decide +kernel
theorem d_Mo_tick_96 : decode b_Mo_tick 96 = .ok (.goto (-60), 3) := by decide +kernel
theorem d_Mo_tick_99 : decode b_Mo_tick 99 = .ok (.iload 5, 2) := by decide +kernel
theorem d_Mo_tick_101 : decode b_Mo_tick 101 = .ok (.iconst (-1), 1) := by decide +kernel
theorem d_Mo_tick_102 : decode b_Mo_tick 102 = .ok (.if_icmp .eq 7, 3) := by decide +kernel
theorem d_Mo_tick_105 : decode b_Mo_tick 105 = .ok (.iconst 1, 1) := by decide +kernel
theorem d_Mo_tick_106 : decode b_Mo_tick 106 = .ok (.goto 4, 3) := by decide +kernel
theorem d_Mo_tick_109 : decode b_Mo_tick 109 = .ok (.iconst 0, 1) := by decide +kernel
theorem d_Mo_tick_110 : decode b_Mo_tick 110 = .ok (.istore 4, 2) := by decide +kernel
theorem d_Mo_tick_112 : decode b_Mo_tick 112 = .ok (.iload 4, 2) := by decide +kernel
theorem d_Mo_tick_114 : decode b_Mo_tick 114 = .ok (.ifCond .ne 6, 3) := by decide +kernel
theorem d_Mo_tick_117 : decode b_Mo_tick 117 = .ok (.goto (-92), 3) := by decide +kernel
theorem d_Mo_tick_120 : decode b_Mo_tick 120 = .ok (.aload_n 0, 1) := by decide +kernel
theorem d_Mo_tick_121 : decode b_Mo_tick 121 = .ok (.aload_n 0, 1) := by decide +kernel
theorem d_Mo_tick_122 : decode b_Mo_tick 122 = .ok (.getfield 66, 3) := by decide +kernel
theorem d_Mo_tick_125 : decode b_Mo_tick 125 = .ok (.iload 5, 2) := by decide +kernel
theorem d_Mo_tick_127 : decode b_Mo_tick 127 = .ok (.iaload, 1) := by decide +kernel
theorem d_Mo_tick_128 : decode b_Mo_tick 128 = .ok (.invokevirtual 99, 3) := by decide +kernel
theorem d_Mo_tick_131 : decode b_Mo_tick 131 = .ok (.pop, 1) := by decide +kernel
theorem d_Mo_tick_132 : decode b_Mo_tick 132 = .ok (.aload_n 0, 1) := by decide +kernel
theorem d_Mo_tick_133 : decode b_Mo_tick 133 = .ok (.iload 5, 2) := by decide +kernel
theorem d_Mo_tick_135 : decode b_Mo_tick 135 = .ok (.invokevirtual 159, 3) := by decide +kernel
theorem d_Mo_tick_138 : decode b_Mo_tick 138 = .ok (.iinc 3 1, 3) := by decide +kernel
theorem d_Mo_tick_141 : decode b_Mo_tick 141 = .ok (.goto (-116), 3) := by decide +kernel
theorem d_Mo_tick_144 : decode b_Mo_tick 144 = .ok (.aload_n 0, 1) := by decide +kernel
theorem d_Mo_tick_145 : decode b_Mo_tick 145 = .ok (.iload_n 3, 1) := by decide +kernel
theorem d_Mo_tick_146 : decode b_Mo_tick 146 = .ok (.invokevirtual 120, 3) := by decide +kernel
theorem d_Mo_tick_149 : decode b_Mo_tick 149 = .ok (.ireturn, 1) := by decide +kernel
theorem d_Mo_unit_0 : decode b_Mo_unit 0 = .ok (.aload_n 0, 1) := by decide +kernel
theorem d_Mo_unit_1 : decode b_Mo_unit 1 = .ok (.aload_n 0, 1) := by decide +kernel
theorem d_Mo_unit_2 : decode b_Mo_unit 2 = .ok (.iload_n 1, 1) := by decide +kernel
theorem d_Mo_unit_3 : decode b_Mo_unit 3 = .ok (.iload_n 2, 1) := by decide +kernel
theorem d_Mo_unit_4 : decode b_Mo_unit 4 = .ok (.invokevirtual 162, 3) := by decide +kernel
theorem d_Mo_unit_7 : decode b_Mo_unit 7 = .ok (.invokevirtual 120, 3) := by decide +kernel
theorem d_Mo_unit_10 : decode b_Mo_unit 10 = .ok (.ireturn, 1) := by decide +kernel
theorem d_Mo_unitEnds_0 : decode b_Mo_unitEnds 0 = .ok (.iload_n 1, 1) := by decide +kernel
theorem d_Mo_unitEnds_1 : decode b_Mo_unitEnds 1 = .ok (.iconst 1, 1) := by decide +kernel
theorem d_Mo_unitEnds_2 : decode b_Mo_unitEnds 2 = .ok (.if_icmp .lt 9, 3) := by decide +kernel
theorem d_Mo_unitEnds_5 : decode b_Mo_unitEnds 5 = .ok (.iload_n 1, 1) := by decide +kernel
theorem d_Mo_unitEnds_6 : decode b_Mo_unitEnds 6 = .ok (.bipush 9, 2) := by decide +kernel
theorem d_Mo_unitEnds_8 : decode b_Mo_unitEnds 8 = .ok (.if_icmp .le 6, 3) := by decide +kernel
theorem d_Mo_unitEnds_11 : decode b_Mo_unitEnds 11 = .ok (.bipush (-2), 2) := by decide +kernel
theorem d_Mo_unitEnds_13 : decode b_Mo_unitEnds 13 = .ok (.ireturn, 1) := by decide +kernel
theorem d_Mo_unitEnds_14 : decode b_Mo_unitEnds 14 = .ok (.iconst 0, 1) := by decide +kernel
theorem d_Mo_unitEnds_15 : decode b_Mo_unitEnds 15 = .ok (.istore_n 3, 1) := by decide +kernel
theorem d_Mo_unitEnds_16 : decode b_Mo_unitEnds 16 = .ok (.aload_n 0, 1) := by decide +kernel
theorem d_Mo_unitEnds_17 : decode b_Mo_unitEnds 17 = .ok (.getfield 79, 3) := by decide +kernel
theorem d_Mo_unitEnds_20 : decode b_Mo_unitEnds 20 = .ok (.iconst 1, 1) := by decide +kernel
theorem d_Mo_unitEnds_21 : decode b_Mo_unitEnds 21 = .ok (.isub, 1) := by decide +kernel
theorem d_Mo_unitEnds_22 : decode b_Mo_unitEnds 22 = .ok (.istore 4, 2) := by decide +kernel
theorem d_Mo_unitEnds_24 : decode b_Mo_unitEnds 24 = .ok (.iload 4, 2) := by decide +kernel
theorem d_Mo_unitEnds_26 : decode b_Mo_unitEnds 26 = .ok (.ifCond .lt 93, 3) := by decide +kernel
theorem d_Mo_unitEnds_29 : decode b_Mo_unitEnds 29 = .ok (.aload_n 0, 1) := by decide +kernel
theorem d_Mo_unitEnds_30 : decode b_Mo_unitEnds 30 = .ok (.getfield 16, 3) := by decide +kernel
theorem d_Mo_unitEnds_33 : decode b_Mo_unitEnds 33 = .ok (.iload 4, 2) := by decide +kernel
theorem d_Mo_unitEnds_35 : decode b_Mo_unitEnds 35 = .ok (.iaload, 1) := by decide +kernel
theorem d_Mo_unitEnds_36 : decode b_Mo_unitEnds 36 = .ok (.iload_n 1, 1) := by decide +kernel
theorem d_Mo_unitEnds_37 : decode b_Mo_unitEnds 37 = .ok (.if_icmp .eq 6, 3) := by decide +kernel
theorem d_Mo_unitEnds_40 : decode b_Mo_unitEnds 40 = .ok (.goto 73, 3) := by decide +kernel
theorem d_Mo_unitEnds_43 : decode b_Mo_unitEnds 43 = .ok (.iinc 3 1, 3) := by decide +kernel
theorem d_Mo_unitEnds_46 : decode b_Mo_unitEnds 46 = .ok (.aload_n 0, 1) := by decide +kernel
theorem d_Mo_unitEnds_47 : decode b_Mo_unitEnds 47 = .ok (.getfield 7, 3) := by decide +kernel
theorem d_Mo_unitEnds_50 : decode b_Mo_unitEnds 50 = .ok (.iload 4, 2) := by decide +kernel
theorem d_Mo_unitEnds_52 : decode b_Mo_unitEnds 52 = .ok (.iaload, 1) := by decide +kernel
theorem d_Mo_unitEnds_53 : decode b_Mo_unitEnds 53 = .ok (.istore 5, 2) := by decide +kernel
theorem d_Mo_unitEnds_55 : decode b_Mo_unitEnds 55 = .ok (.aload_n 0, 1) := by decide +kernel
theorem d_Mo_unitEnds_56 : decode b_Mo_unitEnds 56 = .ok (.getfield 16, 3) := by decide +kernel
theorem d_Mo_unitEnds_59 : decode b_Mo_unitEnds 59 = .ok (.iload 4, 2) := by decide +kernel
theorem d_Mo_unitEnds_61 : decode b_Mo_unitEnds 61 = .ok (.iconst 0, 1) := by decide +kernel
theorem d_Mo_unitEnds_62 : decode b_Mo_unitEnds 62 = .ok (.iastore, 1) := by decide +kernel
theorem d_Mo_unitEnds_63 : decode b_Mo_unitEnds 63 = .ok (.iload_n 2, 1) := by decide +kernel
theorem d_Mo_unitEnds_64 : decode b_Mo_unitEnds 64 = .ok (.ifCond .eq 6, 3) := by decide +kernel
theorem d_Mo_unitEnds_67 : decode b_Mo_unitEnds 67 = .ok (.goto 46, 3) := by decide +kernel
theorem d_Mo_unitEnds_70 : decode b_Mo_unitEnds 70 = .ok (.aload_n 0, 1) := by decide +kernel
theorem d_Mo_unitEnds_71 : decode b_Mo_unitEnds 71 = .ok (.getfield 26, 3) := by decide +kernel
theorem d_Mo_unitEnds_74 : decode b_Mo_unitEnds 74 = .ok (.iload 5, 2) := by decide +kernel
theorem d_Mo_unitEnds_76 : decode b_Mo_unitEnds 76 = .ok (.aload_n 0, 1) := by decide +kernel
theorem d_Mo_unitEnds_77 : decode b_Mo_unitEnds 77 = .ok (.getfield 23, 3) := by decide +kernel
theorem d_Mo_unitEnds_80 : decode b_Mo_unitEnds 80 = .ok (.iload 5, 2) := by decide +kernel
theorem d_Mo_unitEnds_82 : decode b_Mo_unitEnds 82 = .ok (.iaload, 1) := by decide +kernel
theorem d_Mo_unitEnds_83 : decode b_Mo_unitEnds 83 = .ok (.iconst 1, 1) := by decide +kernel
theorem d_Mo_unitEnds_84 : decode b_Mo_unitEnds 84 = .ok (.if_icmp .le 15, 3) := by decide +kernel
theorem d_Mo_unitEnds_87 : decode b_Mo_unitEnds 87 = .ok (.aload_n 0, 1) := by decide +kernel
theorem d_Mo_unitEnds_88 : decode b_Mo_unitEnds 88 = .ok (.getfield 26, 3) := by decide +kernel
theorem d_Mo_unitEnds_91 : decode b_Mo_unitEnds 91 = .ok (.iload 5, 2) := by decide +kernel
theorem d_Mo_unitEnds_93 : decode b_Mo_unitEnds 93 = .ok (.iaload, 1) := by decide +kernel
theorem d_Mo_unitEnds_94 : decode b_Mo_unitEnds 94 = .ok (.iconst 1, 1) := by decide +kernel
theorem d_Mo_unitEnds_95 : decode b_Mo_unitEnds 95 = .ok (.isub, 1) := by decide +kernel
theorem d_Mo_unitEnds_96 : decode b_Mo_unitEnds 96 = .ok (.goto 10, 3) := by decide +kernel
theorem d_Mo_unitEnds_99 : decode b_Mo_unitEnds 99 = .ok (.aload_n 0, 1) := by decide +kernel
theorem d_Mo_unitEnds_100 : decode b_Mo_unitEnds 100 = .ok (.getfield 26, 3) := by decide +kernel
theorem d_Mo_unitEnds_103 : decode b_Mo_unitEnds 103 = .ok (.iload 5, 2) := by decide +kernel
theorem d_Mo_unitEnds_105 : decode b_Mo_unitEnds 105 = .ok (.iaload, 1) := by decide +kernel
theorem d_Mo_unitEnds_106 : decode b_Mo_unitEnds 106 = .ok (.iastore, 1) := by decide +kernel
theorem d_Mo_unitEnds_107 : decode b_Mo_unitEnds 107 = .ok (.aload_n 0, 1) := by decide +kernel
theorem d_Mo_unitEnds_108 : decode b_Mo_unitEnds 108 = .ok (.iload 4, 2) := by decide +kernel
theorem d_Mo_unitEnds_110 : decode b_Mo_unitEnds 110 = .ok (.invokevirtual 136, 3) := by decide +kernel
theorem d_Mo_unitEnds_113 : decode b_Mo_unitEnds 113 = .ok (.iinc 4 (-1), 3) := by decide +kernel
theorem d_Mo_unitEnds_116 : decode b_Mo_unitEnds 116 = .ok (.goto (-92), 3) := by decide +kernel
theorem d_Mo_unitEnds_119 : decode b_Mo_unitEnds 119 = .ok (.iload_n 3, 1) := by decide +kernel
theorem d_Mo_unitEnds_120 : decode b_Mo_unitEnds 120 = .ok (.ireturn, 1) := by decide +kernel
theorem d_Mo_age_0 : decode b_Mo_age 0 = .ok (.iconst 0, 1) := by decide +kernel
theorem d_Mo_age_1 : decode b_Mo_age 1 = .ok (.istore_n 3, 1) := by decide +kernel
theorem d_Mo_age_2 : decode b_Mo_age 2 = .ok (.iconst 0, 1) := by decide +kernel
theorem d_Mo_age_3 : decode b_Mo_age 3 = .ok (.istore 4, 2) := by decide +kernel
theorem d_Mo_age_5 : decode b_Mo_age 5 = .ok (.iload 4, 2) := by decide +kernel
theorem d_Mo_age_7 : decode b_Mo_age 7 = .ok (.bipush 32, 2) := by decide +kernel
theorem d_Mo_age_9 : decode b_Mo_age 9 = .ok (.if_icmp .ge 68, 3) := by decide +kernel
theorem d_Mo_age_12 : decode b_Mo_age 12 = .ok (.aload_n 0, 1) := by decide +kernel
theorem d_Mo_age_13 : decode b_Mo_age 13 = .ok (.iload 4, 2) := by decide +kernel
theorem d_Mo_age_15 : decode b_Mo_age 15 = .ok (.invokevirtual 123, 3) := by decide +kernel
theorem d_Mo_age_18 : decode b_Mo_age 18 = .ok (.ifCond .eq 53, 3) := by decide +kernel
theorem d_Mo_age_21 : decode b_Mo_age 21 = .ok (.aload_n 0, 1) := by decide +kernel
theorem d_Mo_age_22 : decode b_Mo_age 22 = .ok (.getfield 48, 3) := by decide +kernel
theorem d_Mo_age_25 : decode b_Mo_age 25 = .ok (.iload 4, 2) := by decide +kernel
theorem d_Mo_age_27 : decode b_Mo_age 27 = .ok (.laload, 1) := by decide +kernel
theorem d_Mo_age_28 : decode b_Mo_age 28 = .ok (.lload_n 1, 1) := by decide +kernel
theorem d_Mo_age_29 : decode b_Mo_age 29 = .ok (.lcmp, 1) := by decide +kernel
theorem d_Mo_age_30 : decode b_Mo_age 30 = .ok (.ifCond .ge 41, 3) := by decide +kernel
theorem d_Mo_age_33 : decode b_Mo_age 33 = .ok (.aload_n 0, 1) := by decide +kernel
theorem d_Mo_age_34 : decode b_Mo_age 34 = .ok (.iload 4, 2) := by decide +kernel
theorem d_Mo_age_36 : decode b_Mo_age 36 = .ok (.invokevirtual 109, 3) := by decide +kernel
theorem d_Mo_age_39 : decode b_Mo_age 39 = .ok (.ifCond .eq 6, 3) := by decide +kernel
theorem d_Mo_age_42 : decode b_Mo_age 42 = .ok (.goto 29, 3) := by decide +kernel
theorem d_Mo_age_45 : decode b_Mo_age 45 = .ok (.aload_n 0, 1) := by decide +kernel
theorem d_Mo_age_46 : decode b_Mo_age 46 = .ok (.iload 4, 2) := by decide +kernel
theorem d_Mo_age_48 : decode b_Mo_age 48 = .ok (.invokevirtual 82, 3) := by decide +kernel
theorem d_Mo_age_51 : decode b_Mo_age 51 = .ok (.ifCond .le 17, 3) := by decide +kernel
theorem d_Mo_age_54 : decode b_Mo_age 54 = .ok (.aload_n 0, 1) := by decide +kernel
theorem d_Mo_age_55 : decode b_Mo_age 55 = .ok (.aload_n 0, 1) := by decide +kernel
theorem d_Mo_age_56 : decode b_Mo_age 56 = .ok (.iload 4, 2) := by decide +kernel
theorem d_Mo_age_58 : decode b_Mo_age 58 = .ok (.iconst 1, 1) := by decide +kernel
theorem d_Mo_age_59 : decode b_Mo_age 59 = .ok (.invokevirtual 126, 3) := by decide +kernel
theorem d_Mo_age_62 : decode b_Mo_age 62 = .ok (.invokevirtual 136, 3) := by decide +kernel
theorem d_Mo_age_65 : decode b_Mo_age 65 = .ok (.goto (-20), 3) := by decide +kernel
theorem d_Mo_age_68 : decode b_Mo_age 68 = .ok (.iinc 3 1, 3) := by decide +kernel
theorem d_Mo_age_71 : decode b_Mo_age 71 = .ok (.iinc 4 1, 3) := by decide +kernel
theorem d_Mo_age_74 : decode b_Mo_age 74 = .ok (.goto (-69), 3) := by decide +kernel
theorem d_Mo_age_77 : decode b_Mo_age 77 = .ok (.aload_n 0, 1) := by decide +kernel
theorem d_Mo_age_78 : decode b_Mo_age 78 = .ok (.iload_n 3, 1) := by decide +kernel
theorem d_Mo_age_79 : decode b_Mo_age 79 = .ok (.invokevirtual 120, 3) := by decide +kernel
theorem d_Mo_age_82 : decode b_Mo_age 82 = .ok (.ireturn, 1) := by decide +kernel
theorem d_Mo_count_0 : decode b_Mo_count 0 = .ok (.aload_n 0, 1) := by decide +kernel
theorem d_Mo_count_1 : decode b_Mo_count 1 = .ok (.iconst 0, 1) := by decide +kernel
theorem d_Mo_count_2 : decode b_Mo_count 2 = .ok (.putfield 76, 3) := by decide +kernel
theorem d_Mo_count_5 : decode b_Mo_count 5 = .ok (.iload_n 1, 1) := by decide +kernel
theorem d_Mo_count_6 : decode b_Mo_count 6 = .ok (.ifCond .lt 15, 3) := by decide +kernel
theorem d_Mo_count_9 : decode b_Mo_count 9 = .ok (.iload_n 1, 1) := by decide +kernel
theorem d_Mo_count_10 : decode b_Mo_count 10 = .ok (.bipush 32, 2) := by decide +kernel
theorem d_Mo_count_12 : decode b_Mo_count 12 = .ok (.if_icmp .ge 9, 3) := by decide +kernel
theorem d_Mo_count_15 : decode b_Mo_count 15 = .ok (.aload_n 0, 1) := by decide +kernel
theorem d_Mo_count_16 : decode b_Mo_count 16 = .ok (.iload_n 1, 1) := by decide +kernel
theorem d_Mo_count_17 : decode b_Mo_count 17 = .ok (.invokevirtual 82, 3) := by decide +kernel
theorem d_Mo_count_20 : decode b_Mo_count 20 = .ok (.ireturn, 1) := by decide +kernel
theorem d_Mo_count_21 : decode b_Mo_count 21 = .ok (.iload_n 1, 1) := by decide +kernel
theorem d_Mo_count_22 : decode b_Mo_count 22 = .ok (.bipush 32, 2) := by decide +kernel
theorem d_Mo_count_24 : decode b_Mo_count 24 = .ok (.if_icmp .lt 19, 3) := by decide +kernel
theorem d_Mo_count_27 : decode b_Mo_count 27 = .ok (.iload_n 1, 1) := by decide +kernel
theorem d_Mo_count_28 : decode b_Mo_count 28 = .ok (.bipush 64, 2) := by decide +kernel
theorem d_Mo_count_30 : decode b_Mo_count 30 = .ok (.if_icmp .ge 13, 3) := by decide +kernel
theorem d_Mo_count_33 : decode b_Mo_count 33 = .ok (.aload_n 0, 1) := by decide +kernel
theorem d_Mo_count_34 : decode b_Mo_count 34 = .ok (.getfield 23, 3) := by decide +kernel
theorem d_Mo_count_37 : decode b_Mo_count 37 = .ok (.iload_n 1, 1) := by decide +kernel
theorem d_Mo_count_38 : decode b_Mo_count 38 = .ok (.bipush 32, 2) := by decide +kernel
theorem d_Mo_count_40 : decode b_Mo_count 40 = .ok (.isub, 1) := by decide +kernel
theorem d_Mo_count_41 : decode b_Mo_count 41 = .ok (.iaload, 1) := by decide +kernel
theorem d_Mo_count_42 : decode b_Mo_count 42 = .ok (.ireturn, 1) := by decide +kernel
theorem d_Mo_count_43 : decode b_Mo_count 43 = .ok (.iload_n 1, 1) := by decide +kernel
theorem d_Mo_count_44 : decode b_Mo_count 44 = .ok (.tableswitch 52 64 67 #[32, 37, 42, 47], 32) := by decide +kernel
theorem d_Mo_count_76 : decode b_Mo_count 76 = .ok (.aload_n 0, 1) := by decide +kernel
theorem d_Mo_count_77 : decode b_Mo_count 77 = .ok (.getfield 79, 3) := by decide +kernel
theorem d_Mo_count_80 : decode b_Mo_count 80 = .ok (.ireturn, 1) := by decide +kernel
theorem d_Mo_count_81 : decode b_Mo_count 81 = .ok (.aload_n 0, 1) := by decide +kernel
theorem d_Mo_count_82 : decode b_Mo_count 82 = .ok (.getfield 90, 3) := by decide +kernel
theorem d_Mo_count_85 : decode b_Mo_count 85 = .ok (.ireturn, 1) := by decide +kernel
theorem d_Mo_count_86 : decode b_Mo_count 86 = .ok (.aload_n 0, 1) := by decide +kernel
theorem d_Mo_count_87 : decode b_Mo_count 87 = .ok (.getfield 93, 3) := by decide +kernel
theorem d_Mo_count_90 : decode b_Mo_count 90 = .ok (.ireturn, 1) := by decide +kernel
theorem d_Mo_count_91 : decode b_Mo_count 91 = .ok (.aload_n 0, 1) := by decide +kernel
theorem d_Mo_count_92 : decode b_Mo_count 92 = .ok (.getfield 153, 3) := by decide +kernel
theorem d_Mo_count_95 : decode b_Mo_count 95 = .ok (.ireturn, 1) := by decide +kernel
theorem d_Mo_count_96 : decode b_Mo_count 96 = .ok (.bipush (-2), 2) := by decide +kernel
theorem d_Mo_count_98 : decode b_Mo_count 98 = .ok (.ireturn, 1) := by decide +kernel
end
section
/-! A WORLD AS A MAP FROM ADDRESSES TO CELLS, AND A JUDGEMENT THAT FORGETS THE HEAP, THE LOCALS' ARRAY AND THE PLACES WRITTEN. -/
/-- a cell: an array by its type's place and contents, or an object by its class's place and fields -/
abbrev ZE : Type := (Nat × List Value) ⊕ (Nat × List Value)
abbrev ZM : Type := Nat → Option ZE
def zset (M : ZM) (a : Nat) (e : ZE) : ZM := fun q => if q = a then some e else M q
theorem zset_self (M : ZM) (a : Nat) (e : ZE) : zset M a e a = some e := by simp [zset]
theorem zset_zset (M : ZM) (a : Nat) (e e' : ZE) : zset (zset M a e) a e' = zset M a e' := by
  funext q
  unfold zset
  split <;> rfl
theorem zset_ne {M : ZM} {a q : Nat} {e : ZE} (h : q ≠ a) : zset M a e q = M q := by simp [zset, h]
/-- the class numbers and slots; the array classes; what may be written; the shared empty array; the Class object of Object arrays -/
abbrev ZG : Type := va_G × (Nat → ClassId) × (Nat → Prop) × Nat × Nat
def zarr (cA : ClassId) (vs : List Value) : Cell := { cls := cA, slots := vs.toArray, vm := .none }
def zat (cl : List vw_C) (g : ZG) (q : Nat) (e : ZE) (H : Heap) : Prop := match e with
  | .inl a => H[q]? = some (zarr (g.2.1 a.1) a.2)
  | .inr o => ∃ r : vw_C, cl[o.1]? = some r ∧ o.2.length = r.2.2 ∧ t_OB q (g.1.1 o.1) r.2.2 (g.1.2 o.1) H (vp_V o.2)
/-- words that outlast a step but are not told by the tables alone -/
def zOv : List String := ["java/lang/Object", "MonitorQueues$Queue"]
def zCa : List (String × String) := [("MonitorQueues$Item", "java/lang/Object"), ("MonitorQueues$Task", "java/lang/Object"), ("MonitorQueues$Delay", "java/lang/Object"), ("MonitorQueues$Queue", "java/lang/Object"), ("MonitorQueues$Trigger", "java/lang/Object")]
def zN (g : ZG) (U : State) : Prop := (∀ C ∈ zOv, va_AO C U) ∧ (∀ c ∈ zCa, va_Nw (.castable c.1 c.2) U) ∧ va_Dc U ∧ va_Mi "[Ljava/lang/Object;" g.2.2.2.2 U
theorem zNw.moved {C T : String} {u U : State} (hvm : u.vm.Alike U.vm) (h : va_Nw (.castable C T) u) : va_Nw (.castable C T) U := va_tabs rfl (rfl : (u.setVm U.vm).vm = U.vm) (by rw [Cond.castable_setVm hvm]; exact h)
theorem zN.moved {g : ZG} {u U : State} (hvm : u.vm.Alike U.vm) (h : zN g u) : zN g U := by
  obtain ⟨h1, h2, h3, h4⟩ := h
  exact ⟨fun C hC => va_AO.moved hvm (h1 C hC), fun c hc => zNw.moved hvm (h2 c hc), va_Dc.moved hvm h3, va_Mi.moved hvm h4⟩
def zK (cl : List vw_C) (tl : List FieldType) (g : ZG) (U : State) : Prop :=
  (∀ (c : Nat) (q : vw_C), cl[c]? = some q → u_Kn U q.1 q.2.1 q.2.2 (g.1.1 c) (g.1.2 c)) ∧ (∀ (t : Nat) (ty : FieldType), tl[t]? = some ty → ArrOfT U (g.2.1 t) ty ∧ va_RA U (g.2.1 t) ty) ∧ zN g U
def zP (cl : List vw_C) (g : ZG) (M : ZM) (H : Heap) : Prop :=
  (∀ (a : Nat) (e : ZE), M a = some e → zat cl g a e H) ∧ (∀ (a : Nat) (e : ZE), M a = some e → a = g.2.2.2.1 ∨ g.2.2.1 a) ∧ M g.2.2.2.1 = some (.inl (0, []))
/-- what stands in the old heap and is never written -/
def zE (g : ZG) (U : State) (H : Heap) : Prop := va_Z "java/util/ArrayList" "DEFAULTCAPACITY_EMPTY_ELEMENTDATA" "[Ljava/lang/Object;" (.ref g.2.2.2.1) g.2.2.1 U H
theorem zE.moved {g : ZG} {u U : State} {H : Heap} (hvm : u.vm.Alike U.vm) (h : zE g u H) : zE g U H := va_Z.moved hvm h
theorem zE.kept {g : ZG} {U : State} {H H1 : Heap} (h : zE g U H) (hq : ∀ a : Nat, a < H.size → ¬ g.2.2.1 a → H1[a]? = H[a]?) : zE g U H1 := va_Z.kept h hq
theorem zK.moved {cl : List vw_C} {tl : List FieldType} {g : ZG} {u U : State} (hvm : u.vm.Alike U.vm) (h : zK cl tl g u) : zK cl tl g U :=
  ⟨fun c q hq => u_Kn_moved hvm (h.1 c q hq), fun t ty ht => ⟨arrOfT_moved hvm (h.2.1 t ty ht).1, va_RA.moved hvm (h.2.1 t ty ht).2⟩, h.2.2.moved hvm⟩
theorem zat.kept {cl : List vw_C} {g : ZG} {q : Nat} {e : ZE} {H H1 : Heap} (h : zat cl g q e H) (hq : H1[q]? = H[q]?) : zat cl g q e H1 := by
  cases e with
  | inl a => exact hq.trans h
  | inr o =>
    obtain ⟨r, h1, h2, h3⟩ := h
    exact ⟨r, h1, h2, h3.kept hq⟩
theorem zat.lt {cl : List vw_C} {g : ZG} {q : Nat} {e : ZE} {H : Heap} (h : zat cl g q e H) : q < H.size := by
  cases e with
  | inl a => exact (Array.getElem?_eq_some_iff.mp h).1
  | inr o =>
    obtain ⟨r, h1, h2, cell, h3, -⟩ := h
    exact (Array.getElem?_eq_some_iff.mp h3).1
theorem zP.lt {cl : List vw_C} {g : ZG} {M : ZM} {H : Heap} (h : zP cl g M H) {a : Nat} {e : ZE} (ha : M a = some e) : a < H.size := (h.1 a e ha).lt
theorem zP.fresh {cl : List vw_C} {g : ZG} {M : ZM} {H : Heap} (h : zP cl g M H) {a : Nat} (ha : H.size ≤ a) : M a = none := by
  cases hm : M a with
  | none => rfl
  | some e => exact absurd (h.lt hm) (by omega)
theorem zP.set {cl : List vw_C} {g : ZG} {M : ZM} {H H1 : Heap} (h : zP cl g M H) {a : Nat} {e : ZE} (hz : a ≠ g.2.2.2.1) (hA : g.2.2.1 a) (he : zat cl g a e H1) (oq : ∀ (q : Nat), q ≠ a → M q ≠ none → H1[q]? = H[q]?) : zP cl g (zset M a e) H1 := by
  refine ⟨fun q e' hq => ?_, fun q e' hq => ?_, ?_⟩
  · by_cases hqa : q = a
    · subst hqa
      rw [zset_self] at hq
      cases hq
      exact he
    · rw [zset_ne hqa] at hq
      exact (h.1 q e' hq).kept (oq q hqa (by rw [hq]; exact fun x => by cases x))
  · by_cases hqa : q = a
    · subst hqa
      exact Or.inr hA
    · rw [zset_ne hqa] at hq
      exact h.2.1 q e' hq
  · rw [zset_ne (Ne.symm hz)]
    exact h.2.2
theorem zP.obj {cl : List vw_C} {g : ZG} {M : ZM} {H : Heap} (h : zP cl g M H) {a : Nat} {o : Nat × List Value} (ha : M a = some (.inr o)) : a ≠ g.2.2.2.1 ∧ g.2.2.1 a := by
  have hz : a ≠ g.2.2.2.1 := fun e => by
    rw [e, h.2.2] at ha
    cases ha
  exact ⟨hz, (h.2.1 a _ ha).resolve_left hz⟩
theorem zP.arr {cl : List vw_C} {g : ZG} {M : ZM} {H : Heap} (h : zP cl g M H) {a t : Nat} {vs : List Value} (ha : M a = some (.inl (t, vs))) {j : Nat} (hj : j < vs.length) : a ≠ g.2.2.2.1 ∧ g.2.2.1 a := by
  have hz : a ≠ g.2.2.2.1 := fun e => by
    rw [e, h.2.2] at ha
    cases ha
    simp at hj
  exact ⟨hz, (h.2.1 a _ ha).resolve_left hz⟩
theorem zarr_set (cA : ClassId) (vs : List Value) (j : Nat) (v : Value) : (zarr cA vs).setSlot j v = zarr cA (vs.set j v) := by
  simp [zarr, Cell.setSlot]
theorem zarr_arrV (cA : ClassId) (vs : List Value) : zarr cA vs = arrV cA vs.length (fun j => vs.getD j .null) := by
  unfold zarr arrV
  congr 1
  apply Array.ext
  · simp
  · intro i h1 h2
    simp at h1
    simp [h1]
theorem zarr_of {U : State} {cA : ClassId} {ty : FieldType} (h : ArrOfT U cA ty) (vs : List Value) : U.isArrayOf (zarr cA vs) ty := by
  rw [zarr_arrV]
  exact h _ _
/-- the locals: known ones by their places -/
def zl (ls : Array Slot) (L : List (Option Value)) : Prop := lv_wf ls ∧ ls.size = L.length ∧ ∀ (i : Nat) (v : Value), L[i]? = some (some v) → ls[i]? = some (.val v)
def zclr (L : List (Option Value)) (i : Nat) : List (Option Value) := match i with
  | 0 => L
  | j + 1 => match L[j]? with
    | some (some (.long _)) => L.set j none
    | some (some (.double _)) => L.set j none
    | _ => L
def zput1 (L : List (Option Value)) (i : Nat) (v : Value) : List (Option Value) := (zclr L i).set i (some v)
def zput2 (L : List (Option Value)) (i : Nat) (v : Value) : List (Option Value) := ((zclr L i).set i (some v)).set (i + 1) none
theorem zclr_len (L : List (Option Value)) (i : Nat) : (zclr L i).length = L.length := by
  unfold zclr
  split
  · rfl
  · split <;> simp
theorem zclr_get {L : List (Option Value)} {i j : Nat} {v : Value} (h : (zclr L i)[j]? = some (some v)) : L[j]? = some (some v) ∧ (j + 1 = i → v.category = 1) := by
  unfold zclr at h
  split at h
  · exact ⟨h, fun e => by omega⟩
  · rename_i k
    split at h
    · rename_i x hx
      by_cases hjk : j = k
      · subst hjk
        have hlt : j < L.length := (List.getElem?_eq_some_iff.mp hx).1
        rw [List.getElem?_set_self hlt] at h
        cases h
      · rw [List.getElem?_set_ne (Ne.symm hjk)] at h
        exact ⟨h, fun e => by omega⟩
    · rename_i x hx
      by_cases hjk : j = k
      · subst hjk
        have hlt : j < L.length := (List.getElem?_eq_some_iff.mp hx).1
        rw [List.getElem?_set_self hlt] at h
        cases h
      · rw [List.getElem?_set_ne (Ne.symm hjk)] at h
        exact ⟨h, fun e => by omega⟩
    · rename_i h1 h2
      refine ⟨h, fun e => ?_⟩
      have e' : j = k := by omega
      subst e'
      cases v <;> first | rfl | exact absurd h (h1 _) | exact absurd h (h2 _)
theorem zl.has {ls : Array Slot} {L : List (Option Value)} (h : zl ls L) (l : List (Nat × Value)) (hl : ∀ q ∈ l, L[q.1]? = some (some q.2)) : lv_has ls L.length l := ⟨h.2.1, h.1, fun q hq => h.2.2 q.1 q.2 (hl q hq)⟩
def zpairs (L : List (Option Value)) : List (Nat × Value) := (List.range L.length).filterMap (fun i => (L[i]?.join).map (fun v => (i, v)))
theorem zpairs_mem {L : List (Option Value)} {i : Nat} {v : Value} : (i, v) ∈ zpairs L ↔ L[i]? = some (some v) := by
  unfold zpairs
  rw [List.mem_filterMap]
  constructor
  · rintro ⟨j, hj, h⟩
    cases hL : L[j]? with
    | none => rw [hL] at h; simp at h
    | some o =>
      rw [hL] at h
      cases o with
      | none => simp at h
      | some w =>
        simp at h
        obtain ⟨rfl, rfl⟩ := h
        exact hL
  · intro h
    refine ⟨i, List.mem_range.mpr (List.getElem?_eq_some_iff.mp h).1, ?_⟩
    rw [h]
    rfl
theorem zl.hasAll {ls : Array Slot} {L : List (Option Value)} (h : zl ls L) : lv_has ls L.length (zpairs L) := h.has _ (fun q hq => zpairs_mem.mp hq)
theorem zl.store1 {ls : Array Slot} {L : List (Option Value)} (h : zl ls L) {i : Nat} (hi : i < L.length) {v : Value} (hc : v.category = 1) : ∃ ls', storeLocals ls i v = some ls' ∧ zl ls' (zput1 L i v) := by
  obtain ⟨ls', e, h1, h2, h3⟩ := lv_store1 h.hasAll hi hc
  refine ⟨ls', e, h2, by rw [h1]; simp [zput1, zclr_len], fun j w hj => ?_⟩
  unfold zput1 at hj
  by_cases hji : j = i
  · subst hji
    rw [List.getElem?_set_self (by rw [zclr_len]; exact hi)] at hj
    cases hj
    exact h3 _ List.mem_cons_self
  · rw [List.getElem?_set_ne (Ne.symm hji)] at hj
    obtain ⟨g1, g2⟩ := zclr_get hj
    refine h3 (j, w) (List.mem_cons_of_mem _ (List.mem_filter.mpr ⟨zpairs_mem.mpr g1, ?_⟩))
    by_cases hx : j + 1 = i
    · have := g2 hx
      simp [hji, this]
    · simp [hji, hx]
theorem zl.store2 {ls : Array Slot} {L : List (Option Value)} (h : zl ls L) {i : Nat} (hi : i + 1 < L.length) {v : Value} (hc : v.category = 2) : ∃ ls', storeLocals ls i v = some ls' ∧ zl ls' (zput2 L i v) := by
  obtain ⟨ls', e, h1, h2, h3⟩ := lv_store2 h.hasAll hi hc
  refine ⟨ls', e, h2, by rw [h1]; simp [zput2, zclr_len], fun j w hj => ?_⟩
  unfold zput2 at hj
  by_cases hj2 : j = i + 1
  · subst hj2
    rw [List.getElem?_set_self (by simp [zclr_len]; exact hi)] at hj
    cases hj
  · rw [List.getElem?_set_ne (Ne.symm hj2)] at hj
    by_cases hji : j = i
    · subst hji
      rw [List.getElem?_set_self (by rw [zclr_len]; omega)] at hj
      cases hj
      exact h3 _ List.mem_cons_self
    · rw [List.getElem?_set_ne (Ne.symm hji)] at hj
      obtain ⟨g1, g2⟩ := zclr_get hj
      refine h3 (j, w) (List.mem_cons_of_mem _ (List.mem_filter.mpr ⟨zpairs_mem.mpr g1, ?_⟩))
      by_cases hx : j + 1 = i
      · have := g2 hx
        simp [hji, hj2, this]
      · simp [hji, hj2, hx]
def zargs : List Value → List (Option Value)
  | [] => []
  | .long x :: r => some (.long x) :: none :: zargs r
  | .double x :: r => some (.double x) :: none :: zargs r
  | v :: r => some v :: zargs r
def zinit (av : List Value) (n : Nat) : List (Option Value) := zargs av ++ List.replicate (n - (zargs av).length) none
theorem zargs_len : ∀ av : List Value, (zargs av).length = (lg_sl av).length
  | [] => rfl
  | v :: r => by
    have ih := zargs_len r
    cases v <;> simp [zargs, lg_sl, Value.category] at ih ⊢ <;> omega
theorem zargs_get : ∀ (av : List Value) (i j : Nat) (v : Value), (zargs av)[j]? = some (some v) → (i + j, v) ∈ lv_args i av
  | [], _, _, _, h => by simp [zargs] at h
  | w :: r, i, j, v, h => by
    have two : ∀ x : Value, x.category = 2 → (some x :: none :: zargs r)[j]? = some (some v) → (i + j, v) ∈ lv_args i (x :: r) := by
      intro x hx h
      simp only [lv_args, hx, if_true]
      match j, h with
      | 0, h => simp at h; subst h; exact List.mem_cons_self
      | 1, h => simp at h
      | k + 2, h =>
        have := zargs_get r (i + 2) k v (by simpa using h)
        rw [show i + (k + 2) = i + 2 + k by omega]
        exact List.mem_cons_of_mem _ this
    have one : ∀ x : Value, x.category = 1 → (some x :: zargs r)[j]? = some (some v) → (i + j, v) ∈ lv_args i (x :: r) := by
      intro x hx h
      simp only [lv_args, hx]
      match j, h with
      | 0, h => simp at h; subst h; exact List.mem_cons_self
      | k + 1, h =>
        have := zargs_get r (i + 1) k v (by simpa using h)
        rw [show i + (k + 1) = i + 1 + k by omega]
        exact List.mem_cons_of_mem _ (by simpa using this)
    cases w <;> first | exact two _ rfl h | exact one _ rfl h
theorem zl_entry (av : List Value) {n : Nat} (h : (lg_sl av).length ≤ n) : zl ((lg_sl av ++ List.replicate (n - (lg_sl av).length) Slot.unset).toArray) (zinit av n) ∧ (zinit av n).length = n := by
  obtain ⟨h1, h2, h3⟩ := lv_entry av h
  have hlen : (zinit av n).length = n := by
    unfold zinit
    rw [List.length_append, List.length_replicate, zargs_len]
    omega
  refine ⟨⟨h2, by rw [h1, hlen], fun i v hi => ?_⟩, hlen⟩
  unfold zinit at hi
  by_cases hlt : i < (zargs av).length
  · rw [List.getElem?_append_left hlt] at hi
    have := h3 _ (zargs_get av 0 i v hi)
    rwa [Nat.zero_add] at this
  · rw [List.getElem?_append_right (by omega)] at hi
    have := List.mem_of_getElem? hi
    rw [List.mem_replicate] at this
    exact absurd this.2 (by simp)
/-- the machine around a method's body -/
abbrev ZK : Type := Program × Launch × Env × State × MethodId × Array Value × List Frame × Method × Code
def zQ (cl : List vw_C) (g : ZG) (post : Option Value → ZM → Prop) : Array Value → State → Outcome → State → Prop := fun _ st oc t => (∃ (v : Option Value) (M' : ZM), oc = .returned v ∧ post v M' ∧ zP cl g M' t.heap) ∧ va_F g.2.2.1 st t
def zPre (cl : List vw_C) (tl : List FieldType) (g : ZG) (M : ZM) (U : State) : Prop := zP cl g M U.heap ∧ zK cl tl g U ∧ (∀ q : Nat, U.heap.size ≤ q → g.2.2.1 q) ∧ zE g U U.heap
/-- a contract: from the world M, with these arguments, the method returns, and 'post' holds of its answer and the world behind it -/
def ZC (cl : List vw_C) (tl : List FieldType) (Ts : List Cond) (l : Launch) (g : ZG) (y : MethodName) (cc : ByteArray) (nL : Nat) (ret : Option FieldType) (R : Room) (av : List Value) (M : ZM) (post : Option Value → ZM → Prop) : Prop :=
  Met l y (Cond.code y cc nL ret :: Ts) R (va_Pc av (zPre cl tl g M)) (zQ cl g post) R.cells R.slots g.2.2.1
def ZX (cl : List vw_C) (tl : List FieldType) (Ts : List Cond) (own : String) (cc : ByteArray) (nL : Nat) (ret : Option FieldType) (nm : String) (g : ZG) (k : ZK) : Prop :=
  k.1.tables.exec = Jvm.exec ∧ k.2.2.2.2.2.2.2.2.code = cc ∧ k.2.2.2.2.2.2.2.2.maxLocals = nL ∧ k.2.2.2.1.vm.findClass own = some k.2.2.2.2.1.cls ∧ (∀ w ∈ Ts, w.before k.2.2.2.2.2.1 k.2.2.2.1 = true) ∧
  k.2.2.2.2.2.2.2.1.locks = false ∧ k.2.2.2.2.2.2.2.1.sig.returnType = ret ∧ k.2.2.2.2.2.2.2.1.name = nm ∧ zK cl tl g k.2.2.2.1 ∧ (∀ q : Nat, k.2.2.2.1.heap.size ≤ q → g.2.2.1 q) ∧ zE g k.2.2.2.1 k.2.2.2.1.heap
/-- from here, with these locals, this operand stack and this world, the method comes to its end, and 'post' holds -/
def ZW (cl : List vw_C) (tl : List FieldType) (Ts : List Cond) (own : String) (cc : ByteArray) (nL : Nat) (ret : Option FieldType) (nm : String) (R : Room) (g : ZG) (k : ZK) (post : Option Value → ZM → Prop) (L : List (Option Value)) (pc : Nat) (st : List Value) (M : ZM) (n1 n2 : Nat) : Prop :=
  ZX cl tl Ts own cc nL ret nm g k → ∀ (ls : Array Slot) (H : Heap) (locs : List Loc), zl ls L → L.length = nL → zP cl g M H → va_S g.2.2.1 k.2.2.2.1.heap H locs →
    W k.1 k.2.1 k.2.2.1 R k.2.2.2.1 k.2.2.2.2.1 k.2.2.2.2.2.1 k.2.2.2.2.2.2.1 k.2.2.2.2.2.2.2.1 k.2.2.2.2.2.2.2.2 H locs n1 n2 (MQ k.2.2.2.2.2.2.1 (zQ cl g post) k.2.2.2.2.2.1 k.2.2.2.1 R.cells R.slots g.2.2.1) (F0 k.2.2.2.2.1 pc ls st)
theorem ZC.of {cl : List vw_C} {tl : List FieldType} {Ts : List Cond} {l : Launch} {g : ZG} {y : MethodName} {cc : ByteArray} {nL : Nat} {ret : Option FieldType} {R : Room} {av : List Value} {M : ZM} {post : Option Value → ZM → Prop} {L : List (Option Value)}
    (hy : plainName y.cls = true) (hlen : (lg_sl av).length ≤ nL) (hL : zinit av nL = L) (h : ∀ k : ZK, M g.2.2.2.1 = some (.inl (0, [])) → ZW cl tl Ts y.cls cc nL ret y.name R g k post L 0 [] M 0 0) : ZC cl tl Ts l g y cc nL ret R av M post := by
  refine Met.ofW (cc := cc) (maxL := nL) (ret := ret) hy rfl ?_
  intro p e s m args below meth c s₁ B hml hv
  obtain ⟨rfl, hP, hK, hA, hE⟩ := hv
  have hts := atoms_spec (ws := Cond.code y cc nL ret :: Ts) B.pre
  obtain ⟨hl, hn⟩ := zl_entry av hlen
  rw [lg_entry_eq]
  subst hL
  exact h (p, l, e, s, m, av.toArray, below, meth, c) hP.2.2 ⟨B.exec, B.bytes, hml, findClass_of_methodNamed B.named, fun w hw => hts w (List.mem_cons_of_mem _ hw), B.notSynchronized, B.returns, (name_of_methodNamed B.named B.method).1, hK, hA, hE⟩ _ _ _ hl hn hP va_S.rf

section ZR
variable {cl : List vw_C} {tl : List FieldType} {Ts : List Cond} {own : String} {cc : ByteArray} {nL : Nat} {ret : Option FieldType} {nm : String} {R : Room} {g : ZG} {k : ZK} {post : Option Value → ZM → Prop} {L L' : List (Option Value)} {pc : Nat} {st : List Value} {M : ZM} {n1 n2 : Nat}
theorem z_iconst {n : Int} {v : Int32} (hd : decode cc pc = .ok (.iconst n, 1)) (hv : Int32.ofInt n = v) (h : ZW cl tl Ts own cc nL ret nm R g k post L (pc + 1) (.int v :: st) M n1 n2) : ZW cl tl Ts own cc nL ret nm R g k post L pc (st) M n1 n2 :=
  fun X ls H locs hl hL hP hS => lv_iconst X.1 X.2.1 hd hv (h X ls H locs hl hL hP hS)
theorem z_bipush {n : Int} {v : Int32} (hd : decode cc pc = .ok (.bipush n, 2)) (hv : (Int8.ofInt n).toInt32 = v) (h : ZW cl tl Ts own cc nL ret nm R g k post L (pc + 2) (.int v :: st) M n1 n2) : ZW cl tl Ts own cc nL ret nm R g k post L pc (st) M n1 n2 :=
  fun X ls H locs hl hL hP hS => lv_bipush X.1 X.2.1 hd hv (h X ls H locs hl hL hP hS)
theorem z_sipush {n : Int} {v : Int32} (hd : decode cc pc = .ok (.sipush n, 3)) (hv : (Int16.ofInt n).toInt32 = v) (h : ZW cl tl Ts own cc nL ret nm R g k post L (pc + 3) (.int v :: st) M n1 n2) : ZW cl tl Ts own cc nL ret nm R g k post L pc (st) M n1 n2 :=
  fun X ls H locs hl hL hP hS => lv_sipush X.1 X.2.1 hd hv (h X ls H locs hl hL hP hS)
theorem z_lconst {n : Fin 2} {v : Int64} (hd : decode cc pc = .ok (.lconst n, 1)) (hv : Int64.ofNat (n : Nat) = v) (h : ZW cl tl Ts own cc nL ret nm R g k post L (pc + 1) (.long v :: st) M n1 n2) : ZW cl tl Ts own cc nL ret nm R g k post L pc (st) M n1 n2 :=
  fun X ls H locs hl hL hP hS => lv_lconst X.1 X.2.1 hd hv (h X ls H locs hl hL hP hS)
theorem z_iload_n {i : Fin 4} {x : Int32} (hd : decode cc pc = .ok (.iload_n i, 1)) (hx : L[(i : Nat)]? = some (some (.int x))) (h : ZW cl tl Ts own cc nL ret nm R g k post L (pc + 1) (.int x :: st) M n1 n2) : ZW cl tl Ts own cc nL ret nm R g k post L pc (st) M n1 n2 :=
  fun X ls H locs hl hL hP hS => lv_iload_n X.1 X.2.1 hd rfl (hl.2.2 _ _ hx) (h X ls H locs hl hL hP hS)
theorem z_iload {i : Nat} {x : Int32} (hd : decode cc pc = .ok (.iload i, 2)) (hx : L[i]? = some (some (.int x))) (h : ZW cl tl Ts own cc nL ret nm R g k post L (pc + 2) (.int x :: st) M n1 n2) : ZW cl tl Ts own cc nL ret nm R g k post L pc (st) M n1 n2 :=
  fun X ls H locs hl hL hP hS => lv_iload X.1 X.2.1 hd (hl.2.2 _ _ hx) (h X ls H locs hl hL hP hS)
theorem z_lload_n {i : Fin 4} {x : Int64} (hd : decode cc pc = .ok (.lload_n i, 1)) (hx : L[(i : Nat)]? = some (some (.long x))) (h : ZW cl tl Ts own cc nL ret nm R g k post L (pc + 1) (.long x :: st) M n1 n2) : ZW cl tl Ts own cc nL ret nm R g k post L pc (st) M n1 n2 :=
  fun X ls H locs hl hL hP hS => lv_lload_n X.1 X.2.1 hd rfl (hl.2.2 _ _ hx) (h X ls H locs hl hL hP hS)
theorem z_lload {i : Nat} {x : Int64} (hd : decode cc pc = .ok (.lload i, 2)) (hx : L[i]? = some (some (.long x))) (h : ZW cl tl Ts own cc nL ret nm R g k post L (pc + 2) (.long x :: st) M n1 n2) : ZW cl tl Ts own cc nL ret nm R g k post L pc (st) M n1 n2 :=
  fun X ls H locs hl hL hP hS => lv_lload X.1 X.2.1 hd (hl.2.2 _ _ hx) (h X ls H locs hl hL hP hS)
theorem z_aload_n {i : Fin 4} {x : Nat} (hd : decode cc pc = .ok (.aload_n i, 1)) (hx : L[(i : Nat)]? = some (some (.ref x))) (h : ZW cl tl Ts own cc nL ret nm R g k post L (pc + 1) (.ref x :: st) M n1 n2) : ZW cl tl Ts own cc nL ret nm R g k post L pc (st) M n1 n2 :=
  fun X ls H locs hl hL hP hS => lv_aload_n X.1 X.2.1 hd rfl (hl.2.2 _ _ hx) (h X ls H locs hl hL hP hS)
theorem z_aload {i : Nat} {x : Nat} (hd : decode cc pc = .ok (.aload i, 2)) (hx : L[i]? = some (some (.ref x))) (h : ZW cl tl Ts own cc nL ret nm R g k post L (pc + 2) (.ref x :: st) M n1 n2) : ZW cl tl Ts own cc nL ret nm R g k post L pc (st) M n1 n2 :=
  fun X ls H locs hl hL hP hS => lv_aload X.1 X.2.1 hd (hl.2.2 _ _ hx) (h X ls H locs hl hL hP hS)
theorem z_aload_nN {i : Fin 4} (hd : decode cc pc = .ok (.aload_n i, 1)) (hx : L[(i : Nat)]? = some (some .null)) (h : ZW cl tl Ts own cc nL ret nm R g k post L (pc + 1) (.null :: st) M n1 n2) : ZW cl tl Ts own cc nL ret nm R g k post L pc (st) M n1 n2 :=
  fun X ls H locs hl hL hP hS => lv_aload_nN X.1 X.2.1 hd rfl (hl.2.2 _ _ hx) (h X ls H locs hl hL hP hS)
theorem z_aloadN {i : Nat} (hd : decode cc pc = .ok (.aload i, 2)) (hx : L[i]? = some (some .null)) (h : ZW cl tl Ts own cc nL ret nm R g k post L (pc + 2) (.null :: st) M n1 n2) : ZW cl tl Ts own cc nL ret nm R g k post L pc (st) M n1 n2 :=
  fun X ls H locs hl hL hP hS => lv_aloadN X.1 X.2.1 hd (hl.2.2 _ _ hx) (h X ls H locs hl hL hP hS)
theorem z_storeW {v : Value} {i len : Nat} {m : MethodId} {c : Code} {p : Program} {l : Launch} {e : Env} {s : State} {args : Array Value} {below : List Frame} {meth : Method} {H : Heap} {locs : List Loc} {Q : State → Prop} {ls ls' : Array Slot} (e' : storeLocals ls i v = some ls') (hst : ∀ T : State, Stand p l e R s m args below meth c T locs n1 n2 → ∀ t, Steps p.tables e below (T.setTop (F0 m (pc + len) ls' st)) t → Steps p.tables e below (T.setTop (F0 m pc ls (v :: st))) t) (h : W p l e R s m args below meth c H locs n1 n2 Q (F0 m (pc + len) ls' st)) : W p l e R s m args below meth c H locs n1 n2 Q (F0 m pc ls (v :: st)) := by
  intro T hT X
  obtain ⟨t, a, b⟩ := h T hT X
  exact ⟨t, hst T X t a, b⟩
theorem z_istore_n {j : Fin 4} {i : Nat} {x : Int32} (hd : decode cc pc = .ok (.istore_n j, 1)) (hj : (j : Nat) = i) (hi : i < nL) (hL' : zput1 L i (.int x) = L') (h : ZW cl tl Ts own cc nL ret nm R g k post L' (pc + 1) st M n1 n2) : ZW cl tl Ts own cc nL ret nm R g k post L pc (.int x :: st) M n1 n2 := by
  intro X ls H locs hl hL hP hS
  subst hj
  obtain ⟨ls', e', h'⟩ := zl.store1 (v := .int x) hl (by rw [hL]; exact hi) rfl
  refine z_storeW e' (fun T Y t a => ?_) (h X ls' H locs (hL' ▸ h') (by rw [← hL']; simp [zput1, zclr_len, hL]) hP hS)
  have hx := X.1
  have hb := X.2.1
  jvm_step Y.here [Y.here.top, ↓top_set Y.here.top, hx, hb, hd, e']
  exact a
theorem z_istore {i : Nat} {x : Int32} (hd : decode cc pc = .ok (.istore i, 2)) (hi : i < nL) (hL' : zput1 L i (.int x) = L') (h : ZW cl tl Ts own cc nL ret nm R g k post L' (pc + 2) st M n1 n2) : ZW cl tl Ts own cc nL ret nm R g k post L pc (.int x :: st) M n1 n2 := by
  intro X ls H locs hl hL hP hS
  obtain ⟨ls', e', h'⟩ := zl.store1 (v := .int x) hl (by rw [hL]; exact hi) rfl
  refine z_storeW e' (fun T Y t a => ?_) (h X ls' H locs (hL' ▸ h') (by rw [← hL']; simp [zput1, zclr_len, hL]) hP hS)
  have hx := X.1
  have hb := X.2.1
  jvm_step Y.here [Y.here.top, ↓top_set Y.here.top, hx, hb, hd, e']
  exact a
theorem z_lstore_n {j : Fin 4} {i : Nat} {x : Int64} (hd : decode cc pc = .ok (.lstore_n j, 1)) (hj : (j : Nat) = i) (hi : i + 1 < nL) (hL' : zput2 L i (.long x) = L') (h : ZW cl tl Ts own cc nL ret nm R g k post L' (pc + 1) st M n1 n2) : ZW cl tl Ts own cc nL ret nm R g k post L pc (.long x :: st) M n1 n2 := by
  intro X ls H locs hl hL hP hS
  subst hj
  obtain ⟨ls', e', h'⟩ := zl.store2 (v := .long x) hl (by rw [hL]; exact hi) rfl
  refine z_storeW e' (fun T Y t a => ?_) (h X ls' H locs (hL' ▸ h') (by rw [← hL']; simp [zput2, zclr_len, hL]) hP hS)
  have hx := X.1
  have hb := X.2.1
  jvm_step Y.here [Y.here.top, ↓top_set Y.here.top, hx, hb, hd, e']
  exact a
theorem z_lstore {i : Nat} {x : Int64} (hd : decode cc pc = .ok (.lstore i, 2)) (hi : i + 1 < nL) (hL' : zput2 L i (.long x) = L') (h : ZW cl tl Ts own cc nL ret nm R g k post L' (pc + 2) st M n1 n2) : ZW cl tl Ts own cc nL ret nm R g k post L pc (.long x :: st) M n1 n2 := by
  intro X ls H locs hl hL hP hS
  obtain ⟨ls', e', h'⟩ := zl.store2 (v := .long x) hl (by rw [hL]; exact hi) rfl
  refine z_storeW e' (fun T Y t a => ?_) (h X ls' H locs (hL' ▸ h') (by rw [← hL']; simp [zput2, zclr_len, hL]) hP hS)
  have hx := X.1
  have hb := X.2.1
  jvm_step Y.here [Y.here.top, ↓top_set Y.here.top, hx, hb, hd, e']
  exact a
theorem z_astore_n {j : Fin 4} {i : Nat} {x : Nat} (hd : decode cc pc = .ok (.astore_n j, 1)) (hj : (j : Nat) = i) (hi : i < nL) (hL' : zput1 L i (.ref x) = L') (h : ZW cl tl Ts own cc nL ret nm R g k post L' (pc + 1) st M n1 n2) : ZW cl tl Ts own cc nL ret nm R g k post L pc (.ref x :: st) M n1 n2 := by
  intro X ls H locs hl hL hP hS
  subst hj
  obtain ⟨ls', e', h'⟩ := zl.store1 (v := .ref x) hl (by rw [hL]; exact hi) rfl
  refine z_storeW e' (fun T Y t a => ?_) (h X ls' H locs (hL' ▸ h') (by rw [← hL']; simp [zput1, zclr_len, hL]) hP hS)
  have hx := X.1
  have hb := X.2.1
  jvm_step Y.here [Y.here.top, ↓top_set Y.here.top, hx, hb, hd, e', Value.isRef]
  exact a
theorem z_astore {i : Nat} {x : Nat} (hd : decode cc pc = .ok (.astore i, 2)) (hi : i < nL) (hL' : zput1 L i (.ref x) = L') (h : ZW cl tl Ts own cc nL ret nm R g k post L' (pc + 2) st M n1 n2) : ZW cl tl Ts own cc nL ret nm R g k post L pc (.ref x :: st) M n1 n2 := by
  intro X ls H locs hl hL hP hS
  obtain ⟨ls', e', h'⟩ := zl.store1 (v := .ref x) hl (by rw [hL]; exact hi) rfl
  refine z_storeW e' (fun T Y t a => ?_) (h X ls' H locs (hL' ▸ h') (by rw [← hL']; simp [zput1, zclr_len, hL]) hP hS)
  have hx := X.1
  have hb := X.2.1
  jvm_step Y.here [Y.here.top, ↓top_set Y.here.top, hx, hb, hd, e', Value.isRef]
  exact a
theorem z_astore_nN {j : Fin 4} {i : Nat} (hd : decode cc pc = .ok (.astore_n j, 1)) (hj : (j : Nat) = i) (hi : i < nL) (hL' : zput1 L i (.null) = L') (h : ZW cl tl Ts own cc nL ret nm R g k post L' (pc + 1) st M n1 n2) : ZW cl tl Ts own cc nL ret nm R g k post L pc (.null :: st) M n1 n2 := by
  intro X ls H locs hl hL hP hS
  subst hj
  obtain ⟨ls', e', h'⟩ := zl.store1 (v := .null) hl (by rw [hL]; exact hi) rfl
  refine z_storeW e' (fun T Y t a => ?_) (h X ls' H locs (hL' ▸ h') (by rw [← hL']; simp [zput1, zclr_len, hL]) hP hS)
  have hx := X.1
  have hb := X.2.1
  jvm_step Y.here [Y.here.top, ↓top_set Y.here.top, hx, hb, hd, e', Value.isRef]
  exact a
theorem z_astoreN {i : Nat} (hd : decode cc pc = .ok (.astore i, 2)) (hi : i < nL) (hL' : zput1 L i (.null) = L') (h : ZW cl tl Ts own cc nL ret nm R g k post L' (pc + 2) st M n1 n2) : ZW cl tl Ts own cc nL ret nm R g k post L pc (.null :: st) M n1 n2 := by
  intro X ls H locs hl hL hP hS
  obtain ⟨ls', e', h'⟩ := zl.store1 (v := .null) hl (by rw [hL]; exact hi) rfl
  refine z_storeW e' (fun T Y t a => ?_) (h X ls' H locs (hL' ▸ h') (by rw [← hL']; simp [zput1, zclr_len, hL]) hP hS)
  have hx := X.1
  have hb := X.2.1
  jvm_step Y.here [Y.here.top, ↓top_set Y.here.top, hx, hb, hd, e', Value.isRef]
  exact a
theorem z_iinc {i : Nat} {n : Int} {x v : Int32} (hd : decode cc pc = .ok (.iinc i n, 3)) (hx : L[i]? = some (some (.int x))) (hv : x + Int32.ofInt n = v) (hi : i < nL) (hL' : zput1 L i (.int v) = L') (h : ZW cl tl Ts own cc nL ret nm R g k post L' (pc + 3) st M n1 n2) : ZW cl tl Ts own cc nL ret nm R g k post L pc st M n1 n2 := by
  intro X ls H locs hl hL hP hS
  obtain ⟨ls', e', h'⟩ := zl.store1 (v := .int v) hl (by rw [hL]; exact hi) rfl
  have hg := hl.2.2 _ _ hx
  have K := h X ls' H locs (hL' ▸ h') (by rw [← hL']; simp [zput1, zclr_len, hL]) hP hS
  subst hv
  have hx := X.1
  have hb := X.2.1
  intro T hT Y
  obtain ⟨t, a, b⟩ := K T hT Y
  refine ⟨t, ?_, b⟩
  jvm_step Y.here [Y.here.top, ↓top_set Y.here.top, hx, hb, hd, hg, e']
  exact a
theorem z_iadd {x y : Int32} (hd : decode cc pc = .ok (.iadd, 1)) (h : ZW cl tl Ts own cc nL ret nm R g k post L (pc + 1) (.int (x + y) :: st) M n1 n2) : ZW cl tl Ts own cc nL ret nm R g k post L pc (.int y :: .int x :: st) M n1 n2 :=
  fun X ls H locs hl hL hP hS => lv_iadd X.1 X.2.1 hd (h X ls H locs hl hL hP hS)
theorem z_isub {x y : Int32} (hd : decode cc pc = .ok (.isub, 1)) (h : ZW cl tl Ts own cc nL ret nm R g k post L (pc + 1) (.int (x - y) :: st) M n1 n2) : ZW cl tl Ts own cc nL ret nm R g k post L pc (.int y :: .int x :: st) M n1 n2 :=
  fun X ls H locs hl hL hP hS => lv_isub X.1 X.2.1 hd (h X ls H locs hl hL hP hS)
theorem z_imul {x y : Int32} (hd : decode cc pc = .ok (.imul, 1)) (h : ZW cl tl Ts own cc nL ret nm R g k post L (pc + 1) (.int (x * y) :: st) M n1 n2) : ZW cl tl Ts own cc nL ret nm R g k post L pc (.int y :: .int x :: st) M n1 n2 :=
  fun X ls H locs hl hL hP hS => lv_imul X.1 X.2.1 hd (h X ls H locs hl hL hP hS)
theorem z_iand {x y : Int32} (hd : decode cc pc = .ok (.iand, 1)) (h : ZW cl tl Ts own cc nL ret nm R g k post L (pc + 1) (.int (x &&& y) :: st) M n1 n2) : ZW cl tl Ts own cc nL ret nm R g k post L pc (.int y :: .int x :: st) M n1 n2 :=
  fun X ls H locs hl hL hP hS => lv_iand X.1 X.2.1 hd (h X ls H locs hl hL hP hS)
theorem z_ior {x y : Int32} (hd : decode cc pc = .ok (.ior, 1)) (h : ZW cl tl Ts own cc nL ret nm R g k post L (pc + 1) (.int (x ||| y) :: st) M n1 n2) : ZW cl tl Ts own cc nL ret nm R g k post L pc (.int y :: .int x :: st) M n1 n2 :=
  fun X ls H locs hl hL hP hS => lv_ior X.1 X.2.1 hd (h X ls H locs hl hL hP hS)
theorem z_ixor {x y : Int32} (hd : decode cc pc = .ok (.ixor, 1)) (h : ZW cl tl Ts own cc nL ret nm R g k post L (pc + 1) (.int (x ^^^ y) :: st) M n1 n2) : ZW cl tl Ts own cc nL ret nm R g k post L pc (.int y :: .int x :: st) M n1 n2 :=
  fun X ls H locs hl hL hP hS => lv_ixor X.1 X.2.1 hd (h X ls H locs hl hL hP hS)
theorem z_ishl {x y : Int32} (hd : decode cc pc = .ok (.ishl, 1)) (h : ZW cl tl Ts own cc nL ret nm R g k post L (pc + 1) (.int (x <<< (y &&& 31)) :: st) M n1 n2) : ZW cl tl Ts own cc nL ret nm R g k post L pc (.int y :: .int x :: st) M n1 n2 :=
  fun X ls H locs hl hL hP hS => lv_ishl X.1 X.2.1 hd (h X ls H locs hl hL hP hS)
theorem z_ishr {x y : Int32} (hd : decode cc pc = .ok (.ishr, 1)) (h : ZW cl tl Ts own cc nL ret nm R g k post L (pc + 1) (.int (x >>> (y &&& 31)) :: st) M n1 n2) : ZW cl tl Ts own cc nL ret nm R g k post L pc (.int y :: .int x :: st) M n1 n2 :=
  fun X ls H locs hl hL hP hS => lv_ishr X.1 X.2.1 hd (h X ls H locs hl hL hP hS)
theorem z_ladd {x y : Int64} (hd : decode cc pc = .ok (.ladd, 1)) (h : ZW cl tl Ts own cc nL ret nm R g k post L (pc + 1) (.long (x + y) :: st) M n1 n2) : ZW cl tl Ts own cc nL ret nm R g k post L pc (.long y :: .long x :: st) M n1 n2 :=
  fun X ls H locs hl hL hP hS => lv_ladd X.1 X.2.1 hd (h X ls H locs hl hL hP hS)
theorem z_lsub {x y : Int64} (hd : decode cc pc = .ok (.lsub, 1)) (h : ZW cl tl Ts own cc nL ret nm R g k post L (pc + 1) (.long (x - y) :: st) M n1 n2) : ZW cl tl Ts own cc nL ret nm R g k post L pc (.long y :: .long x :: st) M n1 n2 :=
  fun X ls H locs hl hL hP hS => lv_lsub X.1 X.2.1 hd (h X ls H locs hl hL hP hS)
theorem z_lmul {x y : Int64} (hd : decode cc pc = .ok (.lmul, 1)) (h : ZW cl tl Ts own cc nL ret nm R g k post L (pc + 1) (.long (x * y) :: st) M n1 n2) : ZW cl tl Ts own cc nL ret nm R g k post L pc (.long y :: .long x :: st) M n1 n2 :=
  fun X ls H locs hl hL hP hS => lv_lmul X.1 X.2.1 hd (h X ls H locs hl hL hP hS)
theorem z_land {x y : Int64} (hd : decode cc pc = .ok (.land, 1)) (h : ZW cl tl Ts own cc nL ret nm R g k post L (pc + 1) (.long (x &&& y) :: st) M n1 n2) : ZW cl tl Ts own cc nL ret nm R g k post L pc (.long y :: .long x :: st) M n1 n2 :=
  fun X ls H locs hl hL hP hS => lv_land X.1 X.2.1 hd (h X ls H locs hl hL hP hS)
theorem z_lor {x y : Int64} (hd : decode cc pc = .ok (.lor, 1)) (h : ZW cl tl Ts own cc nL ret nm R g k post L (pc + 1) (.long (x ||| y) :: st) M n1 n2) : ZW cl tl Ts own cc nL ret nm R g k post L pc (.long y :: .long x :: st) M n1 n2 :=
  fun X ls H locs hl hL hP hS => lv_lor X.1 X.2.1 hd (h X ls H locs hl hL hP hS)
theorem z_lxor {x y : Int64} (hd : decode cc pc = .ok (.lxor, 1)) (h : ZW cl tl Ts own cc nL ret nm R g k post L (pc + 1) (.long (x ^^^ y) :: st) M n1 n2) : ZW cl tl Ts own cc nL ret nm R g k post L pc (.long y :: .long x :: st) M n1 n2 :=
  fun X ls H locs hl hL hP hS => lv_lxor X.1 X.2.1 hd (h X ls H locs hl hL hP hS)
theorem z_ineg {x : Int32} (hd : decode cc pc = .ok (.ineg, 1)) (h : ZW cl tl Ts own cc nL ret nm R g k post L (pc + 1) (.int (-x) :: st) M n1 n2) : ZW cl tl Ts own cc nL ret nm R g k post L pc (.int x :: st) M n1 n2 :=
  fun X ls H locs hl hL hP hS => lv_ineg X.1 X.2.1 hd (h X ls H locs hl hL hP hS)
theorem z_i2l {x : Int32} {v : Int64} (hd : decode cc pc = .ok (.i2l, 1)) (hv : x.toInt64 = v) (h : ZW cl tl Ts own cc nL ret nm R g k post L (pc + 1) (.long v :: st) M n1 n2) : ZW cl tl Ts own cc nL ret nm R g k post L pc (.int x :: st) M n1 n2 :=
  fun X ls H locs hl hL hP hS => lv_i2l X.1 X.2.1 hd hv (h X ls H locs hl hL hP hS)
theorem z_l2i {x : Int64} {v : Int32} (hd : decode cc pc = .ok (.l2i, 1)) (hv : x.toInt32 = v) (h : ZW cl tl Ts own cc nL ret nm R g k post L (pc + 1) (.int v :: st) M n1 n2) : ZW cl tl Ts own cc nL ret nm R g k post L pc (.long x :: st) M n1 n2 :=
  fun X ls H locs hl hL hP hS => lv_l2i X.1 X.2.1 hd hv (h X ls H locs hl hL hP hS)
theorem z_lshl {x v : Int64} {y : Int32} (hd : decode cc pc = .ok (.lshl, 1)) (hv : x <<< (y.toInt64 &&& 63) = v) (h : ZW cl tl Ts own cc nL ret nm R g k post L (pc + 1) (.long v :: st) M n1 n2) : ZW cl tl Ts own cc nL ret nm R g k post L pc (.int y :: .long x :: st) M n1 n2 :=
  fun X ls H locs hl hL hP hS => lv_lshl X.1 X.2.1 hd hv (h X ls H locs hl hL hP hS)
theorem z_lcmp {x y : Int64} (hd : decode cc pc = .ok (.lcmp, 1)) (h : ZW cl tl Ts own cc nL ret nm R g k post L (pc + 1) (.int (lg_cmp x y) :: st) M n1 n2) : ZW cl tl Ts own cc nL ret nm R g k post L pc (.long y :: .long x :: st) M n1 n2 :=
  fun X ls H locs hl hL hP hS => W.lcmp X.1 X.2.1 hd (h X ls H locs hl hL hP hS)
theorem z_dup {a : Value} (hd : decode cc pc = .ok (.dup, 1)) (ha : a.category = 1) (h : ZW cl tl Ts own cc nL ret nm R g k post L (pc + 1) (a :: a :: st) M n1 n2) : ZW cl tl Ts own cc nL ret nm R g k post L pc (a :: st) M n1 n2 :=
  fun X ls H locs hl hL hP hS => lv_dup X.1 X.2.1 hd ha (h X ls H locs hl hL hP hS)
theorem z_pop {a : Value} (hd : decode cc pc = .ok (.pop, 1)) (ha : a.category = 1) (h : ZW cl tl Ts own cc nL ret nm R g k post L (pc + 1) (st) M n1 n2) : ZW cl tl Ts own cc nL ret nm R g k post L pc (a :: st) M n1 n2 :=
  fun X ls H locs hl hL hP hS => lv_pop X.1 X.2.1 hd ha (h X ls H locs hl hL hP hS)
theorem z_dup_x1 {a b : Value} (hd : decode cc pc = .ok (.dup_x1, 1)) (ha : a.category = 1) (hb : b.category = 1) (h : ZW cl tl Ts own cc nL ret nm R g k post L (pc + 1) (a :: b :: a :: st) M n1 n2) : ZW cl tl Ts own cc nL ret nm R g k post L pc (a :: b :: st) M n1 n2 :=
  fun X ls H locs hl hL hP hS => lv_dup_x1 X.1 X.2.1 hd ha hb (h X ls H locs hl hL hP hS)
theorem z_dup_x2 {a b d : Value} (hd : decode cc pc = .ok (.dup_x2, 1)) (ha : a.category = 1) (hb : b.category = 1) (hc : d.category = 1) (h : ZW cl tl Ts own cc nL ret nm R g k post L (pc + 1) (a :: b :: d :: a :: st) M n1 n2) : ZW cl tl Ts own cc nL ret nm R g k post L pc (a :: b :: d :: st) M n1 n2 :=
  fun X ls H locs hl hL hP hS => lv_dup_x2 X.1 X.2.1 hd ha hb hc (h X ls H locs hl hL hP hS)
theorem z_dup2_11 {a b : Value} (hd : decode cc pc = .ok (.dup2, 1)) (ha : a.category = 1) (hb : b.category = 1) (h : ZW cl tl Ts own cc nL ret nm R g k post L (pc + 1) (a :: b :: a :: b :: st) M n1 n2) : ZW cl tl Ts own cc nL ret nm R g k post L pc (a :: b :: st) M n1 n2 :=
  fun X ls H locs hl hL hP hS => lv_dup2_11 X.1 X.2.1 hd ha hb (h X ls H locs hl hL hP hS)
theorem z_dup2_2 {a : Value} (hd : decode cc pc = .ok (.dup2, 1)) (ha : a.category = 2) (h : ZW cl tl Ts own cc nL ret nm R g k post L (pc + 1) (a :: a :: st) M n1 n2) : ZW cl tl Ts own cc nL ret nm R g k post L pc (a :: st) M n1 n2 :=
  fun X ls H locs hl hL hP hS => lv_dup2_2 X.1 X.2.1 hd ha (h X ls H locs hl hL hP hS)
theorem z_pop2_2 {a : Value} (hd : decode cc pc = .ok (.pop2, 1)) (ha : a.category = 2) (h : ZW cl tl Ts own cc nL ret nm R g k post L (pc + 1) (st) M n1 n2) : ZW cl tl Ts own cc nL ret nm R g k post L pc (a :: st) M n1 n2 :=
  fun X ls H locs hl hL hP hS => lv_pop2_2 X.1 X.2.1 hd ha (h X ls H locs hl hL hP hS)
theorem z_dup2_x1_2 {a b : Value} (hd : decode cc pc = .ok (.dup2_x1, 1)) (ha : a.category = 2) (hb : b.category = 1) (h : ZW cl tl Ts own cc nL ret nm R g k post L (pc + 1) (a :: b :: a :: st) M n1 n2) : ZW cl tl Ts own cc nL ret nm R g k post L pc (a :: b :: st) M n1 n2 :=
  fun X ls H locs hl hL hP hS => lv_dup2_x1_2 X.1 X.2.1 hd ha hb (h X ls H locs hl hL hP hS)
theorem z_null (hd : decode cc pc = .ok (.aconst_null, 1)) (h : ZW cl tl Ts own cc nL ret nm R g k post L (pc + 1) (.null :: st) M n1 n2) : ZW cl tl Ts own cc nL ret nm R g k post L pc (st) M n1 n2 :=
  fun X ls H locs hl hL hP hS => lv_null X.1 X.2.1 hd (h X ls H locs hl hL hP hS)
theorem z_if_eq {x : Int32} {off : Int} {tgt : Nat} (hd : decode cc pc = .ok (.ifCond .eq off, 3)) (ht : (pc : Int) + off = (tgt : Int)) (h1 : x = 0 → ZW cl tl Ts own cc nL ret nm R g k post L tgt st M n1 n2) (h2 : ¬ x = 0 → ZW cl tl Ts own cc nL ret nm R g k post L (pc + 3) st M n1 n2) : ZW cl tl Ts own cc nL ret nm R g k post L pc (.int x :: st) M n1 n2 :=
  fun X ls H locs hl hL hP hS => lv_if_eq X.1 X.2.1 hd ht (fun q => h1 q X ls H locs hl hL hP hS) (fun q => h2 q X ls H locs hl hL hP hS)
theorem z_icmp_eq {x y : Int32} {off : Int} {tgt : Nat} (hd : decode cc pc = .ok (.if_icmp .eq off, 3)) (ht : (pc : Int) + off = (tgt : Int)) (h1 : x = y → ZW cl tl Ts own cc nL ret nm R g k post L tgt st M n1 n2) (h2 : ¬ x = y → ZW cl tl Ts own cc nL ret nm R g k post L (pc + 3) st M n1 n2) : ZW cl tl Ts own cc nL ret nm R g k post L pc (.int y :: .int x :: st) M n1 n2 :=
  fun X ls H locs hl hL hP hS => lv_icmp_eq X.1 X.2.1 hd ht (fun q => h1 q X ls H locs hl hL hP hS) (fun q => h2 q X ls H locs hl hL hP hS)
theorem z_if_ne {x : Int32} {off : Int} {tgt : Nat} (hd : decode cc pc = .ok (.ifCond .ne off, 3)) (ht : (pc : Int) + off = (tgt : Int)) (h1 : ¬ x = 0 → ZW cl tl Ts own cc nL ret nm R g k post L tgt st M n1 n2) (h2 : x = 0 → ZW cl tl Ts own cc nL ret nm R g k post L (pc + 3) st M n1 n2) : ZW cl tl Ts own cc nL ret nm R g k post L pc (.int x :: st) M n1 n2 :=
  fun X ls H locs hl hL hP hS => lv_if_ne X.1 X.2.1 hd ht (fun q => h1 q X ls H locs hl hL hP hS) (fun q => h2 q X ls H locs hl hL hP hS)
theorem z_icmp_ne {x y : Int32} {off : Int} {tgt : Nat} (hd : decode cc pc = .ok (.if_icmp .ne off, 3)) (ht : (pc : Int) + off = (tgt : Int)) (h1 : ¬ x = y → ZW cl tl Ts own cc nL ret nm R g k post L tgt st M n1 n2) (h2 : x = y → ZW cl tl Ts own cc nL ret nm R g k post L (pc + 3) st M n1 n2) : ZW cl tl Ts own cc nL ret nm R g k post L pc (.int y :: .int x :: st) M n1 n2 :=
  fun X ls H locs hl hL hP hS => lv_icmp_ne X.1 X.2.1 hd ht (fun q => h1 q X ls H locs hl hL hP hS) (fun q => h2 q X ls H locs hl hL hP hS)
theorem z_if_lt {x : Int32} {off : Int} {tgt : Nat} (hd : decode cc pc = .ok (.ifCond .lt off, 3)) (ht : (pc : Int) + off = (tgt : Int)) (h1 : x < 0 → ZW cl tl Ts own cc nL ret nm R g k post L tgt st M n1 n2) (h2 : ¬ x < 0 → ZW cl tl Ts own cc nL ret nm R g k post L (pc + 3) st M n1 n2) : ZW cl tl Ts own cc nL ret nm R g k post L pc (.int x :: st) M n1 n2 :=
  fun X ls H locs hl hL hP hS => lv_if_lt X.1 X.2.1 hd ht (fun q => h1 q X ls H locs hl hL hP hS) (fun q => h2 q X ls H locs hl hL hP hS)
theorem z_icmp_lt {x y : Int32} {off : Int} {tgt : Nat} (hd : decode cc pc = .ok (.if_icmp .lt off, 3)) (ht : (pc : Int) + off = (tgt : Int)) (h1 : x < y → ZW cl tl Ts own cc nL ret nm R g k post L tgt st M n1 n2) (h2 : ¬ x < y → ZW cl tl Ts own cc nL ret nm R g k post L (pc + 3) st M n1 n2) : ZW cl tl Ts own cc nL ret nm R g k post L pc (.int y :: .int x :: st) M n1 n2 :=
  fun X ls H locs hl hL hP hS => lv_icmp_lt X.1 X.2.1 hd ht (fun q => h1 q X ls H locs hl hL hP hS) (fun q => h2 q X ls H locs hl hL hP hS)
theorem z_if_ge {x : Int32} {off : Int} {tgt : Nat} (hd : decode cc pc = .ok (.ifCond .ge off, 3)) (ht : (pc : Int) + off = (tgt : Int)) (h1 : 0 ≤ x → ZW cl tl Ts own cc nL ret nm R g k post L tgt st M n1 n2) (h2 : ¬ 0 ≤ x → ZW cl tl Ts own cc nL ret nm R g k post L (pc + 3) st M n1 n2) : ZW cl tl Ts own cc nL ret nm R g k post L pc (.int x :: st) M n1 n2 :=
  fun X ls H locs hl hL hP hS => lv_if_ge X.1 X.2.1 hd ht (fun q => h1 q X ls H locs hl hL hP hS) (fun q => h2 q X ls H locs hl hL hP hS)
theorem z_icmp_ge {x y : Int32} {off : Int} {tgt : Nat} (hd : decode cc pc = .ok (.if_icmp .ge off, 3)) (ht : (pc : Int) + off = (tgt : Int)) (h1 : y ≤ x → ZW cl tl Ts own cc nL ret nm R g k post L tgt st M n1 n2) (h2 : ¬ y ≤ x → ZW cl tl Ts own cc nL ret nm R g k post L (pc + 3) st M n1 n2) : ZW cl tl Ts own cc nL ret nm R g k post L pc (.int y :: .int x :: st) M n1 n2 :=
  fun X ls H locs hl hL hP hS => lv_icmp_ge X.1 X.2.1 hd ht (fun q => h1 q X ls H locs hl hL hP hS) (fun q => h2 q X ls H locs hl hL hP hS)
theorem z_if_gt {x : Int32} {off : Int} {tgt : Nat} (hd : decode cc pc = .ok (.ifCond .gt off, 3)) (ht : (pc : Int) + off = (tgt : Int)) (h1 : 0 < x → ZW cl tl Ts own cc nL ret nm R g k post L tgt st M n1 n2) (h2 : ¬ 0 < x → ZW cl tl Ts own cc nL ret nm R g k post L (pc + 3) st M n1 n2) : ZW cl tl Ts own cc nL ret nm R g k post L pc (.int x :: st) M n1 n2 :=
  fun X ls H locs hl hL hP hS => lv_if_gt X.1 X.2.1 hd ht (fun q => h1 q X ls H locs hl hL hP hS) (fun q => h2 q X ls H locs hl hL hP hS)
theorem z_icmp_gt {x y : Int32} {off : Int} {tgt : Nat} (hd : decode cc pc = .ok (.if_icmp .gt off, 3)) (ht : (pc : Int) + off = (tgt : Int)) (h1 : y < x → ZW cl tl Ts own cc nL ret nm R g k post L tgt st M n1 n2) (h2 : ¬ y < x → ZW cl tl Ts own cc nL ret nm R g k post L (pc + 3) st M n1 n2) : ZW cl tl Ts own cc nL ret nm R g k post L pc (.int y :: .int x :: st) M n1 n2 :=
  fun X ls H locs hl hL hP hS => lv_icmp_gt X.1 X.2.1 hd ht (fun q => h1 q X ls H locs hl hL hP hS) (fun q => h2 q X ls H locs hl hL hP hS)
theorem z_if_le {x : Int32} {off : Int} {tgt : Nat} (hd : decode cc pc = .ok (.ifCond .le off, 3)) (ht : (pc : Int) + off = (tgt : Int)) (h1 : x ≤ 0 → ZW cl tl Ts own cc nL ret nm R g k post L tgt st M n1 n2) (h2 : ¬ x ≤ 0 → ZW cl tl Ts own cc nL ret nm R g k post L (pc + 3) st M n1 n2) : ZW cl tl Ts own cc nL ret nm R g k post L pc (.int x :: st) M n1 n2 :=
  fun X ls H locs hl hL hP hS => lv_if_le X.1 X.2.1 hd ht (fun q => h1 q X ls H locs hl hL hP hS) (fun q => h2 q X ls H locs hl hL hP hS)
theorem z_icmp_le {x y : Int32} {off : Int} {tgt : Nat} (hd : decode cc pc = .ok (.if_icmp .le off, 3)) (ht : (pc : Int) + off = (tgt : Int)) (h1 : x ≤ y → ZW cl tl Ts own cc nL ret nm R g k post L tgt st M n1 n2) (h2 : ¬ x ≤ y → ZW cl tl Ts own cc nL ret nm R g k post L (pc + 3) st M n1 n2) : ZW cl tl Ts own cc nL ret nm R g k post L pc (.int y :: .int x :: st) M n1 n2 :=
  fun X ls H locs hl hL hP hS => lv_icmp_le X.1 X.2.1 hd ht (fun q => h1 q X ls H locs hl hL hP hS) (fun q => h2 q X ls H locs hl hL hP hS)
theorem z_goto {off : Int} {tgt : Nat} (hd : decode cc pc = .ok (.goto off, 3)) (ht : (pc : Int) + off = (tgt : Int)) (h : ZW cl tl Ts own cc nL ret nm R g k post L tgt st M n1 n2) : ZW cl tl Ts own cc nL ret nm R g k post L pc st M n1 n2 :=
  fun X ls H locs hl hL hP hS => lv_goto X.1 X.2.1 hd ht (h X ls H locs hl hL hP hS)
theorem z_ifnull {x : Nat} {off : Int} (hd : decode cc pc = .ok (.ifnull off, 3)) (h : ZW cl tl Ts own cc nL ret nm R g k post L (pc + 3) st M n1 n2) : ZW cl tl Ts own cc nL ret nm R g k post L pc (.ref x :: st) M n1 n2 :=
  fun X ls H locs hl hL hP hS => lv_ifnull X.1 X.2.1 hd (h X ls H locs hl hL hP hS)
theorem z_ifnullN {off : Int} {tgt : Nat} (hd : decode cc pc = .ok (.ifnull off, 3)) (ht : (pc : Int) + off = (tgt : Int)) (h : ZW cl tl Ts own cc nL ret nm R g k post L tgt st M n1 n2) : ZW cl tl Ts own cc nL ret nm R g k post L pc (.null :: st) M n1 n2 :=
  fun X ls H locs hl hL hP hS => lv_ifnullN X.1 X.2.1 hd ht (h X ls H locs hl hL hP hS)
theorem z_ifnonnull {x : Nat} {off : Int} {tgt : Nat} (hd : decode cc pc = .ok (.ifnonnull off, 3)) (ht : (pc : Int) + off = (tgt : Int)) (h : ZW cl tl Ts own cc nL ret nm R g k post L tgt st M n1 n2) : ZW cl tl Ts own cc nL ret nm R g k post L pc (.ref x :: st) M n1 n2 :=
  fun X ls H locs hl hL hP hS => lv_ifnonnull X.1 X.2.1 hd ht (h X ls H locs hl hL hP hS)
theorem z_ifnonnullN {off : Int} (hd : decode cc pc = .ok (.ifnonnull off, 3)) (h : ZW cl tl Ts own cc nL ret nm R g k post L (pc + 3) st M n1 n2) : ZW cl tl Ts own cc nL ret nm R g k post L pc (.null :: st) M n1 n2 :=
  fun X ls H locs hl hL hP hS => lv_ifnonnullN X.1 X.2.1 hd (h X ls H locs hl hL hP hS)
theorem z_acmp_eq {x y : Option Nat} {off : Int} {tgt : Nat} (hd : decode cc pc = .ok (.if_acmp .eq off, 3)) (ht : (pc : Int) + off = (tgt : Int)) (h1 : x = y → ZW cl tl Ts own cc nL ret nm R g k post L tgt st M n1 n2) (h2 : ¬ x = y → ZW cl tl Ts own cc nL ret nm R g k post L (pc + 3) st M n1 n2) : ZW cl tl Ts own cc nL ret nm R g k post L pc (va_rf y :: va_rf x :: st) M n1 n2 :=
  fun X ls H locs hl hL hP hS => lv_acmp_eq X.1 X.2.1 hd ht (fun q => h1 q X ls H locs hl hL hP hS) (fun q => h2 q X ls H locs hl hL hP hS)
theorem z_acmp_ne {x y : Option Nat} {off : Int} {tgt : Nat} (hd : decode cc pc = .ok (.if_acmp .ne off, 3)) (ht : (pc : Int) + off = (tgt : Int)) (h1 : ¬ x = y → ZW cl tl Ts own cc nL ret nm R g k post L tgt st M n1 n2) (h2 : x = y → ZW cl tl Ts own cc nL ret nm R g k post L (pc + 3) st M n1 n2) : ZW cl tl Ts own cc nL ret nm R g k post L pc (va_rf y :: va_rf x :: st) M n1 n2 :=
  fun X ls H locs hl hL hP hS => lv_acmp_ne X.1 X.2.1 hd ht (fun q => h1 q X ls H locs hl hL hP hS) (fun q => h2 q X ls H locs hl hL hP hS)
theorem z_widen {k1 k2 : Nat} (h1 : n1 ≤ k1) (h2 : n2 ≤ k2) (h : ZW cl tl Ts own cc nL ret nm R g k post L pc st M k1 k2) : ZW cl tl Ts own cc nL ret nm R g k post L pc st M n1 n2 :=
  fun X ls H locs hl hL hP hS => W.widen h1 h2 (h X ls H locs hl hL hP hS)
theorem z_ret {v : Option Value} {H : Heap} {locs : List Loc} (hP : zP cl g M H) (hS : va_S g.2.2.1 k.2.2.2.1.heap H locs) (hp : post v M) : ∀ t : State, t.heap = H → k.2.2.2.1.WarmedH t.vm → zQ cl g post k.2.2.2.2.2.1 k.2.2.2.1 (.returned v) t :=
  fun t ht _ => ⟨⟨v, M, rfl, hp, by rw [ht]; exact hP⟩, hS.F ht⟩
theorem z_ireturn {v : Int32} (hd : decode cc pc = .ok (.ireturn, 1)) (hr : ret = some .int) (hp : post (some (.int v)) M) (h1 : n1 ≤ R.cells) (h2 : n2 ≤ R.slots) : ZW cl tl Ts own cc nL ret nm R g k post L pc [.int v] M n1 n2 :=
  fun X ls H locs hl hL hP hS => W.widen h1 h2 (W.iret X.1 X.2.1 (X.2.2.2.2.2.2.1.trans hr) (z_ret hP hS hp) hS.2.2 hd X.2.2.2.2.2.1)
theorem z_zreturn {v : Int32} {ty : FieldType} (hd : decode cc pc = .ok (.ireturn, 1)) (hr : ret = some ty) (hn : narrow ty (.int v) = .int v) (hp : post (some (.int v)) M) (h1 : n1 ≤ R.cells) (h2 : n2 ≤ R.slots) : ZW cl tl Ts own cc nL ret nm R g k post L pc [.int v] M n1 n2 :=
  fun X ls H locs hl hL hP hS => W.widen h1 h2 (W.zret X.1 X.2.1 (X.2.2.2.2.2.2.1.trans hr) hn (z_ret hP hS hp) hS.2.2 hd X.2.2.2.2.2.1)
theorem z_lreturn {v : Int64} (hd : decode cc pc = .ok (.lreturn, 1)) (hr : ret = some .long) (hp : post (some (.long v)) M) (h1 : n1 ≤ R.cells) (h2 : n2 ≤ R.slots) : ZW cl tl Ts own cc nL ret nm R g k post L pc [.long v] M n1 n2 :=
  fun X ls H locs hl hL hP hS => W.widen h1 h2 (W.lret X.1 X.2.1 (X.2.2.2.2.2.2.1.trans hr) (z_ret hP hS hp) hS.2.2 hd X.2.2.2.2.2.1)
theorem z_return (hd : decode cc pc = .ok (.return_, 1)) (hr : ret = none) (hp : post none M) (h1 : n1 ≤ R.cells) (h2 : n2 ≤ R.slots) : ZW cl tl Ts own cc nL ret nm R g k post L pc [] M n1 n2 :=
  fun X ls H locs hl hL hP hS => W.widen h1 h2 (W.vret X.1 X.2.1 (X.2.2.2.2.2.2.1.trans hr) (z_ret hP hS hp) hS.2.2 hd X.2.2.2.2.2.1)
theorem z_areturn {v : Value} {rt : FieldType} (hd : decode cc pc = .ok (.areturn, 1)) (hr : ret = some rt) (hrt : (∃ n, rt = .object n) ∨ ∃ t, rt = .array t) (hv : v = .null ∨ ∃ a, v = .ref a) (hp : post (some v) M) (h1 : n1 ≤ R.cells) (h2 : n2 ≤ R.slots) : ZW cl tl Ts own cc nL ret nm R g k post L pc [v] M n1 n2 :=
  fun X ls H locs hl hL hP hS => W.widen h1 h2 (W.aret X.1 X.2.1 (X.2.2.2.2.2.2.1.trans hr) hrt hv (z_ret hP hS hp) hS.2.2 hd X.2.2.2.2.2.1)
end ZR
end
section
def ZF (cl : List vw_C) (Ts : List Cond) (own : String) (ix ci i : Nat) : Prop := ∃ (C : String) (T : u_T) (N : Nat) (ref : String), cl[ci]? = some (C, T, N) ∧ i < N ∧ (∀ w ∈ u_ws C T N, w ∈ Ts) ∧ Cond.fieldLink own ix ref (T i).2.1 (T i).2.2.1 ∈ Ts ∧ (ref = (T i).1 ∨ Cond.sameField ref (T i).1 (T i).2.1 (T i).2.2.1 ∈ Ts)
def ZL (T : u_T) (N : Nat) (ty0 : Nat → FieldType) : Prop := (∀ k, k < N → parseFieldDescriptor (T k).2.2.1 = some (ty0 k)) ∧ ∀ a, a < N → ∀ b, b < N → a ≠ b → (T a).2.1 ≠ (T b).2.1
def ZFp (cl : List vw_C) (Ts : List Cond) (own : String) (ix ci i : Nat) (fin : Bool) (ty : FieldType) : Prop := ∃ (C : String) (T : u_T) (N : Nat) (ref : String) (ty0 : Nat → FieldType), cl[ci]? = some (C, T, N) ∧ i < N ∧ (∀ w ∈ u_ws C T N, w ∈ Ts) ∧ Cond.fieldLink own ix ref (T i).2.1 (T i).2.2.1 ∈ Ts ∧ (ref = (T i).1 ∨ Cond.sameField ref (T i).1 (T i).2.1 (T i).2.2.1 ∈ Ts) ∧ ZL T N ty0 ∧ (T i).2.2.2 = fin ∧ ty0 i = ty ∧ (fin = true → (T i).1 = own)
theorem zsame {Ts : List Cond} {s : State} {args : Array Value} {ref o n d : String} (hts : ∀ w ∈ Ts, w.before args s = true) (h : ref = o ∨ Cond.sameField ref o n d ∈ Ts) (x : ClassId × Class × Nat × Field) (hx : s.fieldFound? o n d = some x) : s.fieldFound? ref n d = some x := by
  rcases h with rfl | h
  · exact hx
  · exact u_same (hts _ h) x hx
section ZH
variable {cl : List vw_C} {tl : List FieldType} {Ts : List Cond} {own : String} {cc : ByteArray} {nL : Nat} {ret : Option FieldType} {nm : String} {R : Room} {g : ZG} {k : ZK} {post : Option Value → ZM → Prop} {L L' : List (Option Value)} {pc : Nat} {st : List Value} {M : ZM} {n1 n2 : Nat}
theorem ZX.va_K {cl : List vw_C} {tl : List FieldType} {Ts : List Cond} {own : String} {cc : ByteArray} {nL : Nat} {ret : Option FieldType} {nm : String} {g : ZG} {k : ZK} (X : ZX cl tl Ts own cc nL ret nm g k) : va_K g.1 cl [] k.2.2.2.1 := ⟨X.2.2.2.2.2.2.2.2.1.1, fun k q h => by simp at h⟩
theorem z_get {a ix ci i : Nat} {fs : List Value} {v : Value} (hd : decode cc pc = .ok (.getfield ix, 3)) (hf : ZF cl Ts own ix ci i) (hM : M a = some (.inr (ci, fs))) (hv : fs[i]? = some v) (h : ZW cl tl Ts own cc nL ret nm R g k post L (pc + 3) (v :: st) M n1 n2) : ZW cl tl Ts own cc nL ret nm R g k post L pc (.ref a :: st) M n1 n2 := by
  intro X ls H locs hl hL hP hS
  obtain ⟨C, T, N, ref, hc, hi, hin, hlk, hsm⟩ := hf
  have hts := X.2.2.2.2.1
  obtain ⟨r, h1, h2, cell, q1, q2, q3, q4⟩ := hP.1 a _ hM
  have hr : r = (C, T, N) := Option.some.inj (h1.symm.trans hc)
  subst hr
  obtain ⟨hS', hfc, kC, hkC, hkind⟩ := X.va_K.1 ci _ hc
  obtain ⟨cf, kf, fi, f, hi', hsl⟩ := hS' i hi
  refine W.getf X.1 X.2.1 X.2.2.2.1 (hts _ hlk) (zsame hts hsm _ hi') (u_facts hfc hkC (u_lays hts hin hi) hi').1 q1 (by rw [q3]; exact fun h => by cases h) (v := v) ?_ rfl rfl hd (h X ls H locs hl hL hP hS)
  rw [hsl, q4 i hi]
  simp [vp_V, hv]
theorem z_put {a ix ci i : Nat} {fs : List Value} {v : Value} {ty : FieldType} (hd : decode cc pc = .ok (.putfield ix, 3)) (hf : ZFp cl Ts own ix ci i false ty) (hM : M a = some (.inr (ci, fs))) (hn : narrow ty v = v) (hfit : fits ty v = true) (h : ZW cl tl Ts own cc nL ret nm R g k post L (pc + 3) st (zset M a (.inr (ci, fs.set i v))) n1 n2) : ZW cl tl Ts own cc nL ret nm R g k post L pc (v :: .ref a :: st) M n1 n2 := by
  intro X ls H locs hl hL hP hS
  obtain ⟨C, T, N, ref, ty0, hc, hi, hin, hlk, hsm, ⟨hty, hnm⟩, hfin, hti, -⟩ := hf
  have hts := X.2.2.2.2.1
  have hap := va_apart (own := own) hts hin ty0 hty hnm X.va_K hc
  obtain ⟨hz, hA⟩ := hP.obj hM
  obtain ⟨r, h1, h2, cell, q1, q2, q3, q4⟩ := hP.1 a _ hM
  have hr : r = (C, T, N) := Option.some.inj (h1.symm.trans hc)
  subst hr
  obtain ⟨hS', hfc, kC, hkC, hkind⟩ := X.va_K.1 ci _ hc
  obtain ⟨cf, kf, fi, f, hi', hsl⟩ := hS' i hi
  have hlay := hts _ (hin _ (u_in_lay hi))
  unfold u_lay at hlay
  rw [if_neg (by rw [hfin]; decide)] at hlay
  have hst := (u_facts hfc hkC (u_lays hts hin hi) hi').1
  have h6 := u_store hfc hkC hkind hlay hi' (by rw [hty i hi, hti]) hn hfit
  refine W.putK X.1 X.2.1 (f := f) ⟨X.2.2.2.1, hts _ hlk, ⟨_, _, _, zsame hts hsm _ hi'⟩, hst⟩ (by rw [q2]; exact h6) q1 q3 (by rw [hsl]; exact k2_hasslot (q4 i hi)) rfl rfl hd fun H' e1 e2 e3 => ?_
  rw [hsl] at e1 ⊢
  have hil : i < fs.length := by simp at h2; omega
  exact h X ls H' _ hl hL (hP.set hz hA ⟨_, hc, by simpa using h2, t_OB.to (V := updV (vp_V fs) i v) ⟨_, e1, q2, q3, t_set q4 hap hi v⟩ (fun j _ => vp_updV_set hil v j)⟩ (fun q hq _ => e3 q hq)) (hS.put e2 e3 hA)
theorem z_putF {a ix ci i : Nat} {fs : List Value} {v : Value} {ty : FieldType} (hd : decode cc pc = .ok (.putfield ix, 3)) (hf : ZFp cl Ts own ix ci i true ty) (hnm2 : nm = "<init>") (hM : M a = some (.inr (ci, fs))) (hn : narrow ty v = v) (hfit : fits ty v = true) (h : ZW cl tl Ts own cc nL ret nm R g k post L (pc + 3) st (zset M a (.inr (ci, fs.set i v))) n1 n2) : ZW cl tl Ts own cc nL ret nm R g k post L pc (v :: .ref a :: st) M n1 n2 := by
  intro X ls H locs hl hL hP hS
  obtain ⟨C, T, N, ref, ty0, hc, hi, hin, hlk, hsm, ⟨hty, hnm⟩, hfin, hti, hdecl⟩ := hf
  have hts := X.2.2.2.2.1
  have hap := va_apart (own := own) hts hin ty0 hty hnm X.va_K hc
  obtain ⟨hz, hA⟩ := hP.obj hM
  obtain ⟨r, h1, h2, cell, q1, q2, q3, q4⟩ := hP.1 a _ hM
  have hr : r = (C, T, N) := Option.some.inj (h1.symm.trans hc)
  subst hr
  obtain ⟨hS', hfc, kC, hkC, hkind⟩ := X.va_K.1 ci _ hc
  obtain ⟨cf, kf, fi, f, hi', hsl⟩ := hS' i hi
  have hlay := hts _ (hin _ (u_in_lay hi))
  unfold u_lay at hlay
  rw [if_pos hfin] at hlay
  have hst := (u_facts hfc hkC (u_lays hts hin hi) hi').1
  have hcf : k.2.2.2.2.1.cls = cf := by
    obtain ⟨_, _, c', _, _, _, -, -, hf', -, -, -, hown2, -⟩ := Cond.laysFinal_spec hlay
    have e1 : c' = cf := by have := hi'.symm.trans hf'; simp at this; exact this.1.symm
    rw [hdecl rfl] at hown2
    rw [← e1]; exact Option.some.inj (X.2.2.2.1.symm.trans hown2)
  have h6 := u_fits hfc hkC hkind (Or.inr hlay) hi' (by rw [hty i hi, hti]) hn hfit
  refine W.putFinK X.1 X.2.1 X.2.2.2.1 (hts _ hlk) (zsame hts hsm _ hi') hst hcf (X.2.2.2.2.2.2.2.1.trans hnm2) (by rw [q2]; exact h6) q1 q3 (by rw [hsl]; exact k2_hasslot (q4 i hi)) rfl rfl hd fun H' e1 e2 e3 => ?_
  rw [hsl] at e1 ⊢
  have hil : i < fs.length := by simp at h2; omega
  exact h X ls H' _ hl hL (hP.set hz hA ⟨_, hc, by simpa using h2, t_OB.to (V := updV (vp_V fs) i v) ⟨_, e1, q2, q3, t_set q4 hap hi v⟩ (fun j _ => vp_updV_set hil v j)⟩ (fun q hq _ => e3 q hq)) (hS.put e2 e3 hA)
theorem zS_push {A : Nat → Prop} {H0 H H1 : Heap} {locs : List Loc} (hS : va_S A H0 H locs) (z1 : H1.size = H.size + 1) (o1 : ∀ q : Nat, q < H.size → H1[q]? = H[q]?) : va_S A H0 H1 locs :=
  ⟨Nat.le_trans hS.1 (by omega), fun x h1 h2 => (o1 x (Nat.lt_of_lt_of_le h1 hS.1)).trans (hS.2.1 x h1 h2), hS.2.2⟩
theorem zP.push {cl : List vw_C} {g : ZG} {M : ZM} {H H1 : Heap} (hP : zP cl g M H) {e : ZE} (hA : g.2.2.1 H.size) (o1 : ∀ q : Nat, q < H.size → H1[q]? = H[q]?) (he : zat cl g H.size e H1) : zP cl g (zset M H.size e) H1 :=
  hP.set (fun q => by have := hP.lt hP.2.2; omega) hA he (fun q _ hm => by
    cases hq : M q with
    | none => exact absurd hq hm
    | some e => exact o1 q (hP.lt hq))
def ZN (cl : List vw_C) (Ts : List Cond) (own : String) (ix ci : Nat) (fs : List Value) : Prop := ∃ (C : String) (T : u_T) (N : Nat) (ty0 : Nat → FieldType), cl[ci]? = some (C, T, N) ∧ (∀ w ∈ u_ws C T N, w ∈ Ts) ∧ ZL T N ty0 ∧ Cond.classLink own ix C ∈ Ts ∧ Cond.instantiable C N ∈ Ts ∧ Cond.initialized C ∈ Ts ∧ fs.length = N ∧ ∀ j, j < N → defaultValue (ty0 j) = vp_V fs j
theorem z_new {ix ci : Nat} {fs : List Value} (hd : decode cc pc = .ok (.new ix, 3)) (hf : ZN cl Ts own ix ci fs) (hc1 : n1 + 1 ≤ R.cells) (hc2 : n2 + fs.length ≤ R.slots) (h : ∀ q : Nat, M q = none → ZW cl tl Ts own cc nL ret nm R g k post L (pc + 3) (.ref q :: st) (zset M q (.inr (ci, fs))) (n1 + 1) (n2 + fs.length)) : ZW cl tl Ts own cc nL ret nm R g k post L pc st M n1 n2 := by
  intro X ls H locs hl hL hP hS
  obtain ⟨C, T, N, ty0, hc, hin, ⟨hty, hnm⟩, hlk, hins, hini, hlen, hfs⟩ := hf
  subst hlen
  have hts := X.2.2.2.2.1
  have hKn := X.va_K.1 ci _ hc
  refine W.newcK X.1 X.2.1 X.2.2.2.1 (hts _ hlk) (hts _ hins) (hts _ hini) rfl hd hc1 hc2 hKn.2.1 rfl fun H1 kC hkC e1 z1 o1 => ?_
  exact h H.size (hP.fresh (Nat.le_refl _)) X ls H1 locs hl hL (hP.push (X.2.2.2.2.2.2.2.2.2.1 _ hS.1) o1 ⟨_, hc, rfl, (u_born ty0 hts hin hKn hkC e1 hty).to hfs⟩) (zS_push hS z1 o1)
theorem z_newarr {t N : Nat} {at0 : ArrayType} {ty : FieldType} {n : Int32} (hd : decode cc pc = .ok (.newarray at0, 2)) (hty : newarray.typeOf at0 = ty) (hw : Cond.arrayClass ty ∈ Ts) (ht : tl[t]? = some ty) (hra : ∀ (U : State) (c : ClassId), va_RA U c ty → U.vm.findClass ("[" ++ ty.toString) = some c) (hn : n = nI N) (hN : N < 2 ^ 27) (hc1 : n1 + 1 ≤ R.cells) (hc2 : n2 + N ≤ R.slots) (hb : componentBytes ty ≤ 4) (h : ∀ q : Nat, M q = none → ZW cl tl Ts own cc nL ret nm R g k post L (pc + 2) (.ref q :: st) (zset M q (.inl (t, List.replicate N (defaultValue ty)))) (n1 + 1) (n2 + N)) : ZW cl tl Ts own cc nL ret nm R g k post L pc (.int n :: st) M n1 n2 := by
  intro X ls H locs hl hL hP hS
  subst hty
  subst hn
  have hts := X.2.2.2.2.1
  obtain ⟨r1, r2⟩ := X.2.2.2.2.2.2.2.2.1.2.1 t _ ht
  have hbb : N * componentBytes (newarray.typeOf at0) ≤ 536870912 := Nat.le_trans (Nat.mul_le_mul (Nat.le_of_lt hN) hb) (by decide)
  refine va_newaK X.1 X.2.1 (hts _ hw) rfl hd rfl (nI_pos (by omega)) (nI_clamp (by omega)) hbb hc1 hc2 rfl fun H1 cA e1 z1 o1 hAr hNm => ?_
  have hcA : cA = g.2.1 t := Option.some.inj (hNm.symm.trans (hra _ _ r2))
  subst hcA
  refine h H.size (hP.fresh (Nat.le_refl _)) X ls H1 locs hl hL (hP.push (X.2.2.2.2.2.2.2.2.2.1 _ hS.1) o1 ?_) (zS_push hS z1 o1)
  show H1[H.size]? = some (zarr _ _)
  rw [e1, ← arrV_new]
  simp [zarr]
theorem z_anew {t N ix : Nat} {C : String} {n : Int32} (hd : decode cc pc = .ok (.anewarray ix, 3)) (hlk : Cond.classLink own ix C ∈ Ts) (hov : C ∈ zOv) (ht : tl[t]? = some (.object C)) (hn : n = nI N) (hN : N < 2 ^ 27) (hc1 : n1 + 1 ≤ R.cells) (hc2 : n2 + N ≤ R.slots) (h : ∀ q : Nat, M q = none → ZW cl tl Ts own cc nL ret nm R g k post L (pc + 3) (.ref q :: st) (zset M q (.inl (t, List.replicate N .null))) (n1 + 1) (n2 + N)) : ZW cl tl Ts own cc nL ret nm R g k post L pc (.int n :: st) M n1 n2 := by
  intro X ls H locs hl hL hP hS
  subst hn
  have hts := X.2.2.2.2.1
  obtain ⟨r1, kA', comp', r2, r3, r4, r5⟩ := X.2.2.2.2.2.2.2.2.1.2.1 t _ ht
  have hcl : (nI N).toNatClampNeg = N := nI_clamp (by omega)
  refine W.anew X.1 X.2.1 X.2.2.2.1 (hts _ hlk) (va_AO.use (X.2.2.2.2.2.2.2.2.1.2.2.1 C hov)) rfl hd rfl (nI_pos (by omega)) (by rw [hcl]; omega) hc1 (by rw [hcl]; exact hc2) fun cA kA comp f1 f2 f3 f4 => ?_
  have hcA : cA = g.2.1 t := Option.some.inj (f1.symm.trans r5)
  subst hcA
  rw [hcl]
  generalize hH1 : H.push ({ cls := g.2.1 t, slots := Array.replicate N .null, vm := .none } : Cell) = H1
  have z1 : H1.size = H.size + 1 := by rw [← hH1, Array.size_push]
  have o1 : ∀ q : Nat, q < H.size → H1[q]? = H[q]? := fun q hq => by rw [← hH1, Array.getElem?_push, if_neg (Nat.ne_of_lt hq)]
  refine h H.size (hP.fresh (Nat.le_refl _)) X ls H1 locs hl hL (hP.push (X.2.2.2.2.2.2.2.2.2.1 _ hS.1) o1 ?_) (zS_push hS z1 o1)
  show H1[H.size]? = some (zarr _ _)
  rw [← hH1, Array.getElem?_push_size]
  simp [zarr]
theorem z_alen {a t : Nat} {vs : List Value} {ty : FieldType} (hd : decode cc pc = .ok (.arraylength, 1)) (hM : M a = some (.inl (t, vs))) (ht : tl[t]? = some ty) (h : ZW cl tl Ts own cc nL ret nm R g k post L (pc + 1) (.int (nI vs.length) :: st) M n1 n2) : ZW cl tl Ts own cc nL ret nm R g k post L pc (.ref a :: st) M n1 n2 := by
  intro X ls H locs hl hL hP hS
  exact W.alen (n := nI vs.length) X.1 X.2.1 (hP.1 a _ hM) (zarr_of (X.2.2.2.2.2.2.2.2.1.2.1 t _ ht).1 vs) (by simp [zarr, nI]) rfl rfl hd (h X ls H locs hl hL hP hS)
theorem zin {c : ClassId} {vs : List Value} {j : Nat} {v : Value} (hj : j < 2 ^ 31) (hv : vs[j]? = some v) : ¬ (nI j < 0 ∨ (zarr c vs).slots.size ≤ (nI j).toNatClampNeg) ∧ (zarr c vs).slots[(nI j).toNatClampNeg]? = some v := by
  have hlt := (List.getElem?_eq_some_iff.mp hv).1
  rw [nI_clamp hj]
  refine ⟨fun q => ?_, by simpa [zarr] using hv⟩
  rcases q with q | q
  · exact nI_pos hj q
  · simp [zarr] at q; omega
theorem z_iald {a t j : Nat} {vs : List Value} {v : Value} (hd : decode cc pc = .ok (.iaload, 1)) (hM : M a = some (.inl (t, vs))) (ht : tl[t]? = some .int) (hj : j < 2 ^ 31) (hv : vs[j]? = some v) (h : ZW cl tl Ts own cc nL ret nm R g k post L (pc + 1) (v :: st) M n1 n2) : ZW cl tl Ts own cc nL ret nm R g k post L pc (.int (nI j) :: .ref a :: st) M n1 n2 := by
  intro X ls H locs hl hL hP hS
  obtain ⟨q1, q2⟩ := zin (c := g.2.1 t) hj hv
  exact W.iald (v := v) X.1 X.2.1 (hP.1 a _ hM) (zarr_of (X.2.2.2.2.2.2.2.2.1.2.1 t _ ht).1 vs) (fun q => by cases q) q1 q2 rfl rfl hd (h X ls H locs hl hL hP hS)
theorem z_lald {a t j : Nat} {vs : List Value} {v : Value} (hd : decode cc pc = .ok (.laload, 1)) (hM : M a = some (.inl (t, vs))) (ht : tl[t]? = some .long) (hj : j < 2 ^ 31) (hv : vs[j]? = some v) (h : ZW cl tl Ts own cc nL ret nm R g k post L (pc + 1) (v :: st) M n1 n2) : ZW cl tl Ts own cc nL ret nm R g k post L pc (.int (nI j) :: .ref a :: st) M n1 n2 := by
  intro X ls H locs hl hL hP hS
  obtain ⟨q1, q2⟩ := zin (c := g.2.1 t) hj hv
  exact W.lald (v := v) X.1 X.2.1 (hP.1 a _ hM) (zarr_of (X.2.2.2.2.2.2.2.2.1.2.1 t _ ht).1 vs) (fun q => by cases q) q1 q2 rfl rfl hd (h X ls H locs hl hL hP hS)
theorem z_zald {a t j : Nat} {vs : List Value} {v : Value} (hd : decode cc pc = .ok (.baload, 1)) (hM : M a = some (.inl (t, vs))) (ht : tl[t]? = some .boolean) (hj : j < 2 ^ 31) (hv : vs[j]? = some v) (h : ZW cl tl Ts own cc nL ret nm R g k post L (pc + 1) (v :: st) M n1 n2) : ZW cl tl Ts own cc nL ret nm R g k post L pc (.int (nI j) :: .ref a :: st) M n1 n2 := by
  intro X ls H locs hl hL hP hS
  obtain ⟨q1, q2⟩ := zin (c := g.2.1 t) hj hv
  exact W.zald (v := v) X.1 X.2.1 (hP.1 a _ hM) (zarr_of (X.2.2.2.2.2.2.2.2.1.2.1 t _ ht).1 vs) (fun q => by cases q) q1 q2 rfl rfl hd (h X ls H locs hl hL hP hS)
theorem z_bald {a t j : Nat} {vs : List Value} {v : Value} (hd : decode cc pc = .ok (.baload, 1)) (hM : M a = some (.inl (t, vs))) (ht : tl[t]? = some .byte) (hj : j < 2 ^ 31) (hv : vs[j]? = some v) (h : ZW cl tl Ts own cc nL ret nm R g k post L (pc + 1) (v :: st) M n1 n2) : ZW cl tl Ts own cc nL ret nm R g k post L pc (.int (nI j) :: .ref a :: st) M n1 n2 := by
  intro X ls H locs hl hL hP hS
  obtain ⟨q1, q2⟩ := zin (c := g.2.1 t) hj hv
  exact W.bald (v := v) X.1 X.2.1 (hP.1 a _ hM) (zarr_of (X.2.2.2.2.2.2.2.2.1.2.1 t _ ht).1 vs) (fun q => by cases q) q1 q2 rfl rfl hd (h X ls H locs hl hL hP hS)
theorem z_aald {a t j : Nat} {vs : List Value} {v : Value} {ty : FieldType} (hd : decode cc pc = .ok (.aaload, 1)) (hM : M a = some (.inl (t, vs))) (ht : tl[t]? = some ty) (hty : ty.isReference = true) (hj : j < 2 ^ 31) (hv : vs[j]? = some v) (h : ZW cl tl Ts own cc nL ret nm R g k post L (pc + 1) (v :: st) M n1 n2) : ZW cl tl Ts own cc nL ret nm R g k post L pc (.int (nI j) :: .ref a :: st) M n1 n2 := by
  intro X ls H locs hl hL hP hS
  obtain ⟨q1, q2⟩ := zin (c := g.2.1 t) hj hv
  exact W.aald (v := v) X.1 X.2.1 (hP.1 a _ hM) (zarr_of (X.2.2.2.2.2.2.2.2.1.2.1 t _ ht).1 vs) hty (fun q => by cases q) q1 q2 rfl rfl hd (h X ls H locs hl hL hP hS)
theorem zP.setA {cl : List vw_C} {g : ZG} {M : ZM} {H H' : Heap} {a t j : Nat} {vs : List Value} {x : Value} (hP : zP cl g M H) (hM : M a = some (.inl (t, vs))) (hlt : j < vs.length) (hj : j < 2 ^ 31) (e1 : H'[a]? = some ((zarr (g.2.1 t) vs).setSlot (nI j).toNatClampNeg x)) (e3 : ∀ q, q ≠ a → H'[q]? = H[q]?) : zP cl g (zset M a (.inl (t, vs.set j x))) H' := by
  obtain ⟨hz, hA⟩ := hP.arr hM hlt
  refine hP.set hz hA ?_ (fun q hq _ => e3 q hq)
  show H'[a]? = some (zarr _ _)
  rw [e1, nI_clamp hj, zarr_set]
theorem zinb {c : ClassId} {vs : List Value} {j : Nat} (hj : j < 2 ^ 31) (hlt : j < vs.length) : ¬ (nI j < 0 ∨ (zarr c vs).slots.size ≤ (nI j).toNatClampNeg) := (zin hj (List.getElem?_eq_getElem hlt)).1
theorem z_iast {a t j : Nat} {vs : List Value} {x : Int32} (hd : decode cc pc = .ok (.iastore, 1)) (hM : M a = some (.inl (t, vs))) (ht : tl[t]? = some .int) (hj : j < 2 ^ 31) (hlt : j < vs.length) (h : ZW cl tl Ts own cc nL ret nm R g k post L (pc + 1) st (zset M a (.inl (t, vs.set j (.int x)))) n1 n2) : ZW cl tl Ts own cc nL ret nm R g k post L pc (.int x :: .int (nI j) :: .ref a :: st) M n1 n2 := by
  intro X ls H locs hl hL hP hS
  exact W.iast X.1 X.2.1 (hP.1 a _ hM) (zarr_of (X.2.2.2.2.2.2.2.2.1.2.1 t _ ht).1 vs) (fun q => by cases q) (zinb hj hlt) rfl rfl hd fun H' e1 e2 e3 => h X ls H' _ hl hL (hP.setA hM hlt hj e1 e3) (hS.put e2 e3 (hP.arr hM hlt).2)
theorem z_last {a t j : Nat} {vs : List Value} {x : Int64} (hd : decode cc pc = .ok (.lastore, 1)) (hM : M a = some (.inl (t, vs))) (ht : tl[t]? = some .long) (hj : j < 2 ^ 31) (hlt : j < vs.length) (h : ZW cl tl Ts own cc nL ret nm R g k post L (pc + 1) st (zset M a (.inl (t, vs.set j (.long x)))) n1 n2) : ZW cl tl Ts own cc nL ret nm R g k post L pc (.long x :: .int (nI j) :: .ref a :: st) M n1 n2 := by
  intro X ls H locs hl hL hP hS
  exact W.last X.1 X.2.1 (hP.1 a _ hM) (zarr_of (X.2.2.2.2.2.2.2.2.1.2.1 t _ ht).1 vs) (fun q => by cases q) (zinb hj hlt) rfl rfl hd fun H' e1 e2 e3 => h X ls H' _ hl hL (hP.setA hM hlt hj e1 e3) (hS.put e2 e3 (hP.arr hM hlt).2)
theorem z_aast {a t j v ci : Nat} {vs fs : List Value} {C : String} {r : vw_C} (hd : decode cc pc = .ok (.aastore, 1)) (hM : M a = some (.inl (t, vs))) (ht : tl[t]? = some (.object C)) (hj : j < 2 ^ 31) (hlt : j < vs.length) (hv : M v = some (.inr (ci, fs))) (hc : cl[ci]? = some r) (hca : r.1 = C ∨ (r.1, C) ∈ zCa) (h : ZW cl tl Ts own cc nL ret nm R g k post L (pc + 1) st (zset M a (.inl (t, vs.set j (.ref v)))) n1 n2) : ZW cl tl Ts own cc nL ret nm R g k post L pc (.ref v :: .int (nI j) :: .ref a :: st) M n1 n2 := by
  intro X ls H locs hl hL hP hS
  obtain ⟨r', hr', -, cellV, g1, g2, g3, -⟩ := hP.1 v _ hv
  have hcls := (X.va_K.1 ci r hc).2
  obtain ⟨kA, comp, k1, k2, k3, -⟩ := (X.2.2.2.2.2.2.2.2.1.2.1 t _ ht).2
  obtain ⟨kE, hkE, -⟩ := Vm.findClass_spec k3
  have hasg : k.2.2.2.1.vm.assignable (g.1.1 ci) comp = true := by
    rcases hca with e | hw
    · subst e
      have : comp = g.1.1 ci := Option.some.inj (k3.symm.trans hcls.1)
      rw [this]
      exact va_assign hcls
    · obtain ⟨c0, t1, f1, f2, f3⟩ := Cond.castable_spec (va_Nw.use (A := k.2.2.2.2.2.1) rfl (X.2.2.2.2.2.2.2.2.1.2.2.2.1 _ hw))
      cases hcls.1.symm.trans f1
      cases k3.symm.trans f2
      exact f3
  obtain ⟨kC, hkC, -⟩ := hcls.2
  have hin := zinb (c := g.2.1 t) hj hlt
  exact W.aast X.1 X.2.1 (hP.1 a _ hM) (fun q h => by cases h) (fun h => by cases h) k1 k2 rfl hkE ⟨fun q => hin (Or.inl q), Nat.not_le.mp fun q => hin (Or.inr q)⟩ g1 (fun q h => by rw [g3] at h; cases h) (by rw [g2]; exact hkC) (by rw [g2]; exact hasg) rfl rfl hd fun H' e1 e2 e3 => h X ls H' _ hl hL (hP.setA hM hlt hj e1 e3) (hS.put e2 e3 (hP.arr hM hlt).2)
theorem z_aastN {a t j : Nat} {vs : List Value} {C : String} (hd : decode cc pc = .ok (.aastore, 1)) (hM : M a = some (.inl (t, vs))) (ht : tl[t]? = some (.object C)) (hj : j < 2 ^ 31) (hlt : j < vs.length) (h : ZW cl tl Ts own cc nL ret nm R g k post L (pc + 1) st (zset M a (.inl (t, vs.set j .null))) n1 n2) : ZW cl tl Ts own cc nL ret nm R g k post L pc (.null :: .int (nI j) :: .ref a :: st) M n1 n2 := by
  intro X ls H locs hl hL hP hS
  exact va_WaastN (C := C) X.1 X.2.1 (hP.1 a _ hM) (zarr_of (X.2.2.2.2.2.2.2.2.1.2.1 t _ ht).1 vs) (fun h => by cases h) (zinb hj hlt) rfl rfl hd fun H' e1 e2 e3 => h X ls H' _ hl hL (hP.setA hM hlt hj e1 e3) (hS.put e2 e3 (hP.arr hM hlt).2)
theorem zP.recv {cl : List vw_C} {tl : List FieldType} {g : ZG} {M : ZM} {H : Heap} {s : State} {a ci : Nat} {fs : List Value} {r : vw_C} (hP : zP cl g M H) (hK : zK cl tl g s) (hM : M a = some (.inr (ci, fs))) (hc : cl[ci]? = some r) : ∃ cell : Cell, H[a]? = some cell ∧ cell.vm.isStatics = false ∧ s.vm.findClass r.1 = some cell.cls := by
  obtain ⟨r', h1, -, cell, g1, g2, g3, -⟩ := hP.1 a _ hM
  exact ⟨cell, g1, by rw [g3]; rfl, by rw [g2]; exact (hK.1 ci r hc).2.1⟩
theorem z_cast {a ix ci : Nat} {fs : List Value} {r : vw_C} {C : String} (hd : decode cc pc = .ok (.checkcast ix, 3)) (hlk : Cond.classLink own ix C ∈ Ts) (hM : M a = some (.inr (ci, fs))) (hc : cl[ci]? = some r) (hC : r.1 = C) (h : ZW cl tl Ts own cc nL ret nm R g k post L (pc + 3) (.ref a :: st) M n1 n2) : ZW cl tl Ts own cc nL ret nm R g k post L pc (.ref a :: st) M n1 n2 := by
  intro X ls H locs hl hL hP hS
  subst hC
  exact va_castS X.1 X.2.1 X.2.2.2.1 (X.2.2.2.2.1 _ hlk) (X.va_K.1 ci r hc).2 (hP.recv X.2.2.2.2.2.2.2.2.1 hM hc) hd (h X ls H locs hl hL hP hS)
theorem z_castN {ix : Nat} (hd : decode cc pc = .ok (.checkcast ix, 3)) (h : ZW cl tl Ts own cc nL ret nm R g k post L (pc + 3) (.null :: st) M n1 n2) : ZW cl tl Ts own cc nL ret nm R g k post L pc (.null :: st) M n1 n2 :=
  fun X ls H locs hl hL hP hS => lv_castN X.1 X.2.1 hd (h X ls H locs hl hL hP hS)
theorem z_objInit {a ix : Nat} (hd : decode cc pc = .ok (.invokespecial ix, 3)) (hlk : Cond.methodLink own ix Lib.objectInit ∈ Ts) (hin : Cond.instanceMethod Lib.objectInit ∈ Ts) (hco : Cond.code Lib.objectInit ⟨#[0xb1]⟩ 1 none ∈ Ts) (hf : 1 ≤ R.frames) (hlo : (st.map fun v => v.category).sum + 12 ≤ R.locals) (h : ZW cl tl Ts own cc nL ret nm R g k post L (pc + 3) st M n1 n2) : ZW cl tl Ts own cc nL ret nm R g k post L pc (.ref a :: st) M n1 n2 := by
  intro X ls H locs hl hL hP hS
  have hts := X.2.2.2.2.1
  exact W.objInit X.1 X.2.1 X.2.2.2.1 (hts _ hlk) (hts _ hin) (hts _ hco) rfl (by rw [X.2.2.1]; show ls.size = nL; rw [hl.2.1, hL]) rfl hd hf (by show 2 * 0 + _ + 12 ≤ _; omega) (h X ls H locs hl hL hP hS)
theorem z_gets {ix : Nat} (hd : decode cc pc = .ok (.getstatic ix, 3)) (hlk : Cond.fieldLink own ix "java/util/ArrayList" "DEFAULTCAPACITY_EMPTY_ELEMENTDATA" "[Ljava/lang/Object;" ∈ Ts) (h : ZW cl tl Ts own cc nL ret nm R g k post L (pc + 3) (.ref g.2.2.2.1 :: st) M n1 n2) : ZW cl tl Ts own cc nL ret nm R g k post L pc st M n1 n2 := by
  intro X ls H locs hl hL hP hS
  exact va_gets X.1 X.2.1 X.2.2.2.2.2.2.2.2.2.2 hS X.2.2.2.1 (X.2.2.2.2.1 _ hlk) (fun _ h => h) hd (h X ls H locs hl hL hP hS)
theorem z_ldc {ix : Nat} {v : Int32} (hd : decode cc pc = .ok (.ldc ix, 2)) (hw : Cond.constant own ix v ∈ Ts) (h : ZW cl tl Ts own cc nL ret nm R g k post L (pc + 2) (.int v :: st) M n1 n2) : ZW cl tl Ts own cc nL ret nm R g k post L pc st M n1 n2 :=
  fun X ls H locs hl hL hP hS => lv_ldc X.1 X.2.1 X.2.2.2.1 (X.2.2.2.2.1 _ hw) hd (h X ls H locs hl hL hP hS)
theorem z_ldc2 {ix : Nat} {v : Int64} (hd : decode cc pc = .ok (.ldc2_w ix, 3)) (hw : Cond.constantLong own ix v ∈ Ts) (h : ZW cl tl Ts own cc nL ret nm R g k post L (pc + 3) (.long v :: st) M n1 n2) : ZW cl tl Ts own cc nL ret nm R g k post L pc st M n1 n2 :=
  fun X ls H locs hl hL hP hS => lv_ldc2 X.1 X.2.1 X.2.2.2.1 (X.2.2.2.2.1 _ hw) hd (h X ls H locs hl hL hP hS)
/-! calls -/
theorem z_run {p : Program} {l : Launch} {e : Env} {s : State} {m : MethodId} {args a : Array Value} {below : List Frame} {meth : Method} {c : Code} {H : Heap} {locs : List Loc} {Q : State → Prop} {mc ms : Nat} {ls : Array Slot} {st0 rest : List Value} {cl : List vw_C} {g : ZG} {R : Room} {n1 n2 pc : Nat} {postc : Option Value → ZM → Prop}
    (hr : va_Run p l e R s m args below meth c H locs n1 n2 mc ms (F0 m pc ls st0) rest (zQ cl g postc a) g.2.2.1) (hS : va_S g.2.2.1 s.heap H locs)
    (h : ∀ (v : Option Value) (M' : ZM), postc v M' → ∀ (H1 : Heap) (locs1 : List Loc), zP cl g M' H1 → va_S g.2.2.1 s.heap H1 locs1 → W p l e R s m args below meth c H1 locs1 (n1 + mc) (n2 + ms) Q (F0 m (pc + 3) ls (v.toList ++ rest))) : W p l e R s m args below meth c H locs n1 n2 Q (F0 m pc ls st0) := by
  intro T hT X
  obtain ⟨v, st₀, t, T', L, h0, X', hL, e1, e2, ⟨⟨v', M', hv, hp, hP⟩, hz, hk⟩, st⟩ := hr T hT X
  cases hv
  rw [h0] at hz hk
  obtain ⟨t2, a1, b1⟩ := h v M' hp T'.heap (locs ++ L) (by rw [e1]; exact hP)
    ⟨Nat.le_trans hS.1 (by rw [e1]; exact hz), fun q h1 h2 => by rw [e1, hk q (Nat.lt_of_lt_of_le h1 hS.1) h2]; exact hS.2.1 q h1 h2, fun q hq => by
      rcases List.mem_append.mp hq with h | h
      · exact hS.2.2 q h
      · exact hL q h⟩ T' rfl X'
  exact ⟨t2, st t2 a1, b1⟩
theorem zblind {cl : List vw_C} {tl : List FieldType} {g : ZG} {M : ZM} {av : List Value} : FrameBlind (va_Pc av (zPre cl tl g M)) := fun a U f mk q => by
  obtain ⟨q0, q1, q2, q3, q4⟩ := q
  exact ⟨q0, q1, zK.moved (u := U) (U := U.calling f mk a) (Vm.Alike.refl U.vm) q2, q3, zE.moved (u := U) (U := U.calling f mk a) (Vm.Alike.refl U.vm) q4⟩
theorem zpre {cl : List vw_C} {tl : List FieldType} {Ts : List Cond} {own : String} {cc : ByteArray} {nL : Nat} {ret : Option FieldType} {nm : String} {g : ZG} {k : ZK} {M : ZM} {H : Heap} {locs : List Loc} {av : List Value} (X : ZX cl tl Ts own cc nL ret nm g k) (hP : zP cl g M H) (hS : va_S g.2.2.1 k.2.2.2.1.heap H locs) : ∀ U : State, U.heap = H → k.2.2.2.1.WarmedH U.vm → va_Pc av (zPre cl tl g M) av.toArray U := by
  intro U hU hW
  refine ⟨rfl, by rw [hU]; exact hP, zK.moved hW.alike X.2.2.2.2.2.2.2.2.1, fun q hq => X.2.2.2.2.2.2.2.2.2.1 q (Nat.le_trans hS.1 (by rw [← hU]; exact hq)), ?_⟩
  rw [hU]
  exact (zE.moved hW.alike X.2.2.2.2.2.2.2.2.2.2).kept hS.2.1
def ZV (Ts : List Cond) (own : String) (ix : Nat) (C : String) (y : MethodName) (cc : ByteArray) (nL : Nat) (ret : Option FieldType) (n : Nat) : Prop :=
  Cond.methodLink own ix y ∈ Ts ∧ Cond.instanceMethod y ∈ Ts ∧ Cond.selects C y y ∈ Ts ∧ Cond.initialized C ∈ Ts ∧ Cond.code y cc nL ret ∈ Ts ∧ y.cls = C ∧ y.cls ≠ "java/lang/invoke/MethodHandle" ∧ y.cls ≠ "java/lang/invoke/VarHandle" ∧ (parseMethodDescriptor y.desc).map (fun d => d.parameters.length) = some n
def ZS (Ts : List Cond) (own : String) (ix : Nat) (y : MethodName) (cc : ByteArray) (nL : Nat) (ret : Option FieldType) (n : Nat) : Prop :=
  Cond.methodLink own ix y ∈ Ts ∧ Cond.static y ∈ Ts ∧ Cond.initialized y.cls ∈ Ts ∧ Cond.code y cc nL ret ∈ Ts ∧ y.cls ≠ "java/lang/invoke/MethodHandle" ∧ y.cls ≠ "java/lang/invoke/VarHandle" ∧ (parseMethodDescriptor y.desc).map (fun d => d.parameters.length) = some n
def ZI (Ts : List Cond) (own : String) (ix : Nat) (y : MethodName) (cc : ByteArray) (nL : Nat) (n : Nat) : Prop :=
  Cond.methodLink own ix y ∈ Ts ∧ Cond.instanceMethod y ∈ Ts ∧ Cond.initialized y.cls ∈ Ts ∧ Cond.code y cc nL none ∈ Ts ∧ y.name = "<init>" ∧ y.cls ≠ "java/lang/invoke/MethodHandle" ∧ y.cls ≠ "java/lang/invoke/VarHandle" ∧ (parseMethodDescriptor y.desc).map (fun d => d.parameters.length) = some n
theorem zgood {Ts : List Cond} (hG : GoodIn Ts Ts) {c : Cond} (hc : c ∈ Ts) {ws : List Cond} (hw : ∀ w ∈ ws, w ∈ Ts) : GoodIn Ts (ws ++ (c :: Ts)) := fun w h => by
  rcases List.mem_append.mp h with h | h
  · exact hG w (hw w h)
  · rcases List.mem_cons.mp h with rfl | h
    · exact hG w hc
    · exact hG w h
theorem z_callV {ix ci b n : Nat} {fs : List Value} {C : String} {T : u_T} {N : Nat} {y : MethodName} {cc' : ByteArray} {nL' : Nat} {ret' : Option FieldType} {R' : Room} {As rest st0 : List Value} {postc : Option Value → ZM → Prop} (hG : GoodIn Ts Ts) (hd : decode cc pc = .ok (.invokevirtual ix, 3)) (hw : ZV Ts own ix C y cc' nL' ret' n) (hM : M b = some (.inr (ci, fs))) (hc : cl[ci]? = some (C, T, N))
    (hct : ∀ l : Launch, ZC cl tl Ts l g y cc' nL' ret' R' (.ref b :: As) M postc) (hst : st0 = As.reverse ++ .ref b :: rest) (hn : As.length = n) (hR : R'.frames + 1 ≤ R.frames ∧ 8 + (nL' + 11) + R'.locals ≤ R.locals) (hrest : (rest.map fun v => v.category).sum ≤ 8) (hc1 : n1 + R'.cells ≤ R.cells) (hc2 : n2 + R'.slots ≤ R.slots)
    (h : ∀ (v : Option Value) (M' : ZM), postc v M' → ZW cl tl Ts own cc nL ret nm R g k post L (pc + 3) (v.toList ++ rest) M' (n1 + R'.cells) (n2 + R'.slots)) : ZW cl tl Ts own cc nL ret nm R g k post L pc st0 M n1 n2 := by
  intro X ls H locs hl hL hP hS
  subst hst
  obtain ⟨w1, w2, w3, w4, w5, w6, w7, w8, w9⟩ := hw
  have hts := X.2.2.2.2.1
  have hgood : GoodIn Ts (wsV own ix C y (Cond.code y cc' nL' ret' :: Ts)) := zgood hG w5 (fun w h => by
    simp only [List.mem_cons, List.not_mem_nil, or_false] at h
    rcases h with rfl | rfl | rfl | rfl <;> assumption)
  exact z_run (va_runV (As := As) (rest := rest) ⟨X.1, X.2.1, X.2.2.1, X.2.2.2.1, hts⟩ (hct k.2.1) (cwV n hts hgood rfl rfl rfl ⟨w6, w7, w8, w9⟩ hR) ⟨zblind, hP.recv X.2.2.2.2.2.2.2.2.1 hM hc, zpre X hP hS⟩ rfl hn (by rw [← hL]; exact hl.2.1) rfl (lv_room hrest) hd ⟨hc1, hc2⟩) hS (fun v M' hp H1 locs1 hP1 hS1 => h v M' hp X ls H1 locs1 hl hL hP1 hS1)
theorem z_callS {ix n : Nat} {y : MethodName} {cc' : ByteArray} {nL' : Nat} {ret' : Option FieldType} {R' : Room} {As rest st0 : List Value} {postc : Option Value → ZM → Prop} (hG : GoodIn Ts Ts) (hd : decode cc pc = .ok (.invokestatic ix, 3)) (hw : ZS Ts own ix y cc' nL' ret' n)
    (hct : ∀ l : Launch, ZC cl tl Ts l g y cc' nL' ret' R' As M postc) (hst : st0 = As.reverse ++ rest) (hn : As.length = n) (hR : R'.frames + 1 ≤ R.frames ∧ 8 + (nL' + 11) + R'.locals ≤ R.locals) (hrest : (rest.map fun v => v.category).sum ≤ 8) (hc1 : n1 + R'.cells ≤ R.cells) (hc2 : n2 + R'.slots ≤ R.slots)
    (h : ∀ (v : Option Value) (M' : ZM), postc v M' → ZW cl tl Ts own cc nL ret nm R g k post L (pc + 3) (v.toList ++ rest) M' (n1 + R'.cells) (n2 + R'.slots)) : ZW cl tl Ts own cc nL ret nm R g k post L pc st0 M n1 n2 := by
  intro X ls H locs hl hL hP hS
  subst hst
  obtain ⟨w1, w2, w3, w4, w5, w6, w7⟩ := hw
  have hts := X.2.2.2.2.1
  have hgood : GoodIn Ts (va_wsS own ix y (Cond.code y cc' nL' ret' :: Ts)) := zgood hG w4 (fun w h => by
    simp only [List.mem_cons, List.not_mem_nil, or_false] at h
    rcases h with rfl | rfl | rfl <;> assumption)
  exact z_run (va_runS (As := As) (rest := rest) ⟨X.1, X.2.1, X.2.2.1, X.2.2.2.1, hts⟩ (hct k.2.1) (va_cwS n hts hgood rfl rfl rfl ⟨w5, w6, w7⟩ hR) ⟨zblind, zpre X hP hS⟩ rfl hn (by rw [← hL]; exact hl.2.1) rfl (lv_room hrest) hd ⟨hc1, hc2⟩) hS (fun v M' hp H1 locs1 hP1 hS1 => h v M' hp X ls H1 locs1 hl hL hP1 hS1)
theorem z_callI {ix b n : Nat} {y : MethodName} {cc' : ByteArray} {nL' : Nat} {R' : Room} {As rest st0 : List Value} {postc : Option Value → ZM → Prop} (hG : GoodIn Ts Ts) (hd : decode cc pc = .ok (.invokespecial ix, 3)) (hw : ZI Ts own ix y cc' nL' n)
    (hct : ∀ l : Launch, ZC cl tl Ts l g y cc' nL' none R' (.ref b :: As) M postc) (hst : st0 = As.reverse ++ .ref b :: rest) (hn : As.length = n) (hR : R'.frames + 1 ≤ R.frames ∧ 8 + (nL' + 11) + R'.locals ≤ R.locals) (hrest : (rest.map fun v => v.category).sum ≤ 8) (hc1 : n1 + R'.cells ≤ R.cells) (hc2 : n2 + R'.slots ≤ R.slots)
    (h : ∀ (v : Option Value) (M' : ZM), postc v M' → ZW cl tl Ts own cc nL ret nm R g k post L (pc + 3) (v.toList ++ rest) M' (n1 + R'.cells) (n2 + R'.slots)) : ZW cl tl Ts own cc nL ret nm R g k post L pc st0 M n1 n2 := by
  intro X ls H locs hl hL hP hS
  subst hst
  obtain ⟨w1, w2, w3, w4, w5, w6, w7, w8⟩ := hw
  have hts := X.2.2.2.2.1
  have hgood : GoodIn Ts (Cond.code y cc' nL' none :: Ts) := zgood (ws := []) hG w4 (fun w h => by cases h)
  exact z_run (va_runI (As := As) (rest := rest) ⟨X.1, X.2.1, X.2.2.1, X.2.2.2.1, hts⟩ (hct k.2.1) (cwI n hts hgood rfl rfl rfl (hts _ w3) (hts _ w1) (hts _ w2) w5 ⟨w6, w7, w8⟩ hR) ⟨zblind, zpre X hP hS⟩ rfl hn (by rw [← hL]; exact hl.2.1) rfl (lv_room hrest) hd ⟨hc1, hc2⟩) hS (fun v M' hp H1 locs1 hP1 hS1 => h v M' hp X ls H1 locs1 hl hL hP1 hS1)
end ZH
end
section
theorem gw_660 : (Cond.superclass "MonitorQueuesModel" "java/lang/Object") ∈ GT := gt_t (gt_3 145 (by decide +kernel)) rfl
theorem gw_566 : (Cond.superclass "java/util/NoSuchElementException" "java/lang/RuntimeException") ∈ GT := gt_t (gt_3 51 (by decide +kernel)) rfl
theorem gw_558 : (Cond.fieldLink "java/lang/Throwable" 24 "java/lang/Throwable" "suppressedExceptions" "Ljava/util/List;") ∈ GT := gt_t (gt_3 43 (by decide +kernel)) rfl
theorem gw_557 : (Cond.fieldLink "java/lang/Throwable" 17 "java/lang/Throwable" "stackTrace" "[Ljava/lang/StackTraceElement;") ∈ GT := gt_t (gt_3 42 (by decide +kernel)) rfl
theorem gw_556 : (Cond.fieldLink "java/lang/Throwable" 7 "java/lang/Throwable" "cause" "Ljava/lang/Throwable;") ∈ GT := gt_t (gt_3 41 (by decide +kernel)) rfl
theorem gw_555 : (Cond.fieldLink "java/lang/Throwable" 31 "java/lang/Throwable" "detailMessage" "Ljava/lang/String;") ∈ GT := gt_t (gt_3 40 (by decide +kernel)) rfl
theorem gw_538 : (Cond.instanceMethod ⟨"java/lang/Throwable", "fillInStackTrace", "(I)Ljava/lang/Throwable;"⟩) ∈ GT := gt_t (gt_3 23 (by decide +kernel)) rfl
theorem gw_536 : (Cond.methodLink "java/lang/Throwable" 202 ⟨"java/lang/Throwable", "fillInStackTrace", "(I)Ljava/lang/Throwable;"⟩) ∈ GT := gt_t (gt_3 21 (by decide +kernel)) rfl
theorem gw_535 : (Cond.codeSync ⟨"java/lang/Throwable", "fillInStackTrace", "()Ljava/lang/Throwable;"⟩ prog_17_method_18_code 1 (Option.some (FieldType.object "java/lang/Throwable"))) ∈ GT := gt_t (gt_3 20 (by decide +kernel)) rfl
theorem gw_533 : (Cond.instanceMethod ⟨"java/lang/Throwable", "fillInStackTrace", "()Ljava/lang/Throwable;"⟩) ∈ GT := gt_t (gt_3 18 (by decide +kernel)) rfl
theorem gw_532 : (Cond.methodLink "java/lang/Throwable" 27 ⟨"java/lang/Throwable", "fillInStackTrace", "()Ljava/lang/Throwable;"⟩) ∈ GT := gt_t (gt_3 17 (by decide +kernel)) rfl
theorem gw_530 : (Cond.fieldLink "java/lang/Throwable" 20 "java/lang/Throwable" "SUPPRESSED_SENTINEL" "Ljava/util/List;") ∈ GT := gt_t (gt_3 15 (by decide +kernel)) rfl
theorem gw_528 : (Cond.fieldLink "java/lang/Throwable" 13 "java/lang/Throwable" "UNASSIGNED_STACK" "[Ljava/lang/StackTraceElement;") ∈ GT := gt_t (gt_3 13 (by decide +kernel)) rfl
theorem gw_526 : (Cond.code ⟨"java/lang/Throwable", "<init>", "()V"⟩ prog_17_method_1_code 1 none) ∈ GT := gt_t (gt_3 11 (by decide +kernel)) rfl
theorem gw_525 : (Cond.instanceMethod ⟨"java/lang/Throwable", "<init>", "()V"⟩) ∈ GT := gt_t (gt_3 10 (by decide +kernel)) rfl
theorem gw_524 : (Cond.superclass "java/lang/Throwable" "java/lang/Object") ∈ GT := gt_t (gt_3 9 (by decide +kernel)) rfl
theorem gw_523 : (Cond.fieldLink "java/lang/Throwable" 198 "java/lang/Throwable" "backtrace" "Ljava/lang/Object;") ∈ GT := gt_t (gt_3 8 (by decide +kernel)) rfl
theorem gw_512 : (Cond.selects "java/util/NoSuchElementException" ⟨"java/lang/Throwable", "fillInStackTrace", "()Ljava/lang/Throwable;"⟩ ⟨"java/lang/Throwable", "fillInStackTrace", "()Ljava/lang/Throwable;"⟩) ∈ GT := gt_t (gt_2 237 (by decide +kernel)) rfl
theorem gw_511 : (Cond.selects "java/util/NoSuchElementException" ⟨"java/lang/Throwable", "fillInStackTrace", "(I)Ljava/lang/Throwable;"⟩ ⟨"java/lang/Throwable", "fillInStackTrace", "(I)Ljava/lang/Throwable;"⟩) ∈ GT := gt_t (gt_2 236 (by decide +kernel)) rfl
theorem gw_496 : (Cond.codeWith ⟨"MonitorQueuesLaw", "get", "(LMonitorQueues;II[J)I"⟩ method_3_code 5 (Option.some FieldType.int) [(0, 9, 12, 13)]) ∈ GT := gt_t (gt_2 221 (by decide +kernel)) rfl
theorem gw_495 : (Cond.static ⟨"MonitorQueuesLaw", "get", "(LMonitorQueues;II[J)I"⟩) ∈ GT := gt_t (gt_2 220 (by decide +kernel)) rfl
theorem gw_494 : (Cond.methodLink "MonitorQueuesLaw" 34 ⟨"MonitorQueuesLaw", "get", "(LMonitorQueues;II[J)I"⟩) ∈ GT := gt_t (gt_2 219 (by decide +kernel)) rfl
theorem gw_444 : (Cond.superclass "MonitorQueues$Delay" "java/lang/Object") ∈ GT := gt_t (gt_2 169 (by decide +kernel)) rfl
theorem gw_399 : (Cond.superclass "MonitorQueues$Trigger" "java/lang/Object") ∈ GT := gt_t (gt_2 124 (by decide +kernel)) rfl
theorem gw_308 : (Cond.superclass "MonitorQueues$Task" "java/lang/Object") ∈ GT := gt_t (gt_2 33 (by decide +kernel)) rfl
theorem gw_213 : (Cond.superclass "MonitorQueues$Item" "java/lang/Object") ∈ GT := gt_t (gt_1 178 (by decide +kernel)) rfl
theorem gw_166 : (Cond.superclass "MonitorQueues" "java/lang/Object") ∈ GT := gt_t (gt_1 131 (by decide +kernel)) rfl
theorem gw_141 : (Cond.superclass "MonitorQueues$Queue" "java/lang/Object") ∈ GT := gt_t (gt_1 106 (by decide +kernel)) rfl
theorem gw_102 : (Cond.superclass "java/util/ArrayList" "java/util/AbstractList") ∈ GT := gt_t (gt_1 67 (by decide +kernel)) rfl
theorem gw_89 : (Cond.fieldLink "java/util/ArrayList" 39 "java/util/ArrayList" "DEFAULTCAPACITY_EMPTY_ELEMENTDATA" "[Ljava/lang/Object;") ∈ GT := gt_t (gt_1 54 (by decide +kernel)) rfl
theorem gw_15 : (Cond.selects "java/lang/Throwable" ⟨"java/lang/Throwable", "fillInStackTrace", "(I)Ljava/lang/Throwable;"⟩ ⟨"java/lang/Throwable", "fillInStackTrace", "(I)Ljava/lang/Throwable;"⟩) ∈ GT := gt_s 15 (by decide +kernel) rfl
def T_MQ : u_T := fun k => match k with
  | 0 => ("MonitorQueues", "room", "I", true)
  | 1 => ("MonitorQueues", "queues", "[LMonitorQueues$Queue;", true)
  | 2 => ("MonitorQueues", "tasks", "Ljava/util/ArrayList;", true)
  | 3 => ("MonitorQueues", "waiting", "Ljava/util/ArrayList;", true)
  | 4 => ("MonitorQueues", "tasksGoing", "I", false)
  | 5 => ("MonitorQueues", "lastDelay", "I", false)
  | _ => ("MonitorQueues", "now", "J", false)
def ty_MQ : Nat → FieldType := fun k => match k with
  | 0 => .int
  | 1 => .array (.object "MonitorQueues$Queue")
  | 2 => .object "java/util/ArrayList"
  | 3 => .object "java/util/ArrayList"
  | 4 => .int
  | 5 => .int
  | _ => .long
def T_Qu : u_T := fun k => match k with
  | 0 => ("MonitorQueues$Queue", "items", "Ljava/util/ArrayList;", true)
  | 1 => ("MonitorQueues$Queue", "places", "[I", true)
  | 2 => ("MonitorQueues$Queue", "kind", "I", false)
  | 3 => ("MonitorQueues$Queue", "pending", "I", false)
  | 4 => ("MonitorQueues$Queue", "holder", "I", false)
  | 5 => ("MonitorQueues$Queue", "lastUse", "J", false)
  | 6 => ("MonitorQueues$Queue", "lastNumber", "I", false)
  | 7 => ("MonitorQueues$Queue", "takenNumber", "I", false)
  | 8 => ("MonitorQueues$Queue", "takenValue", "J", false)
  | _ => ("MonitorQueues$Queue", "trigger", "LMonitorQueues$Trigger;", false)
def ty_Qu : Nat → FieldType := fun k => match k with
  | 0 => .object "java/util/ArrayList"
  | 1 => .array .int
  | 2 => .int
  | 3 => .int
  | 4 => .int
  | 5 => .long
  | 6 => .int
  | 7 => .int
  | 8 => .long
  | _ => .object "MonitorQueues$Trigger"
def T_It : u_T := fun k => match k with
  | _ => ("MonitorQueues$Item", "value", "J", false)
def ty_It : Nat → FieldType := fun k => match k with
  | _ => .long
def T_Ta : u_T := fun k => match k with
  | 0 => ("MonitorQueues$Task", "code", "I", true)
  | _ => ("MonitorQueues$Task", "goes", "Z", false)
def ty_Ta : Nat → FieldType := fun k => match k with
  | 0 => .int
  | _ => .boolean
def T_Tr : u_T := fun k => match k with
  | 0 => ("MonitorQueues$Trigger", "needed", "I", true)
  | 1 => ("MonitorQueues$Trigger", "code", "I", true)
  | 2 => ("MonitorQueues$Trigger", "ready", "Z", false)
  | 3 => ("MonitorQueues$Trigger", "task", "I", false)
  | _ => ("MonitorQueues$Trigger", "takenSince", "Z", false)
def ty_Tr : Nat → FieldType := fun k => match k with
  | 0 => .int
  | 1 => .int
  | 2 => .boolean
  | 3 => .int
  | _ => .boolean
def T_De : u_T := fun k => match k with
  | 0 => ("MonitorQueues$Delay", "number", "I", true)
  | 1 => ("MonitorQueues$Delay", "code", "I", true)
  | _ => ("MonitorQueues$Delay", "until", "J", true)
def ty_De : Nat → FieldType := fun k => match k with
  | 0 => .int
  | 1 => .int
  | _ => .long
def T_AL : u_T := fun k => match k with
  | 0 => ("java/util/ArrayList", "elementData", "[Ljava/lang/Object;", false)
  | 1 => ("java/util/ArrayList", "size", "I", false)
  | _ => ("java/util/AbstractList", "modCount", "I", false)
def ty_AL : Nat → FieldType := fun k => match k with
  | 0 => .array (.object "java/lang/Object")
  | 1 => .int
  | _ => .int
def T_Mo : u_T := fun k => match k with
  | 0 => ("MonitorQueuesModel", "code", "I", false)
  | 1 => ("MonitorQueuesModel", "room", "I", true)
  | 2 => ("MonitorQueuesModel", "queueOf", "[I", true)
  | 3 => ("MonitorQueuesModel", "numberOf", "[I", true)
  | 4 => ("MonitorQueuesModel", "unitOf", "[I", true)
  | 5 => ("MonitorQueuesModel", "valueOf", "[J", true)
  | 6 => ("MonitorQueuesModel", "items", "I", false)
  | 7 => ("MonitorQueuesModel", "kind", "[I", true)
  | 8 => ("MonitorQueuesModel", "last", "[I", true)
  | 9 => ("MonitorQueuesModel", "least", "[I", true)
  | 10 => ("MonitorQueuesModel", "codes", "[I", true)
  | 11 => ("MonitorQueuesModel", "going", "[I", true)
  | 12 => ("MonitorQueuesModel", "takenNumber", "[I", true)
  | 13 => ("MonitorQueuesModel", "ready", "[Z", true)
  | 14 => ("MonitorQueuesModel", "took", "[Z", true)
  | 15 => ("MonitorQueuesModel", "used", "[J", true)
  | 16 => ("MonitorQueuesModel", "taken", "[J", true)
  | 17 => ("MonitorQueuesModel", "places", "[I", true)
  | 18 => ("MonitorQueuesModel", "tasks", "[I", true)
  | 19 => ("MonitorQueuesModel", "goes", "[Z", true)
  | 20 => ("MonitorQueuesModel", "begun", "I", false)
  | 21 => ("MonitorQueuesModel", "running", "I", false)
  | 22 => ("MonitorQueuesModel", "now", "J", false)
  | 23 => ("MonitorQueuesModel", "delayNumber", "[I", true)
  | 24 => ("MonitorQueuesModel", "delayCode", "[I", true)
  | 25 => ("MonitorQueuesModel", "delayTime", "[J", true)
  | 26 => ("MonitorQueuesModel", "delays", "I", false)
  | _ => ("MonitorQueuesModel", "delayed", "I", false)
def ty_Mo : Nat → FieldType := fun k => match k with
  | 0 => .int
  | 1 => .int
  | 2 => .array .int
  | 3 => .array .int
  | 4 => .array .int
  | 5 => .array .long
  | 6 => .int
  | 7 => .array .int
  | 8 => .array .int
  | 9 => .array .int
  | 10 => .array .int
  | 11 => .array .int
  | 12 => .array .int
  | 13 => .array .boolean
  | 14 => .array .boolean
  | 15 => .array .long
  | 16 => .array .long
  | 17 => .array .int
  | 18 => .array .int
  | 19 => .array .boolean
  | 20 => .int
  | 21 => .int
  | 22 => .long
  | 23 => .array .int
  | 24 => .array .int
  | 25 => .array .long
  | 26 => .int
  | _ => .int
abbrev vcl : List vw_C := [("MonitorQueues", T_MQ, 7), ("MonitorQueues$Queue", T_Qu, 10), ("MonitorQueues$Item", T_It, 1), ("MonitorQueues$Task", T_Ta, 2), ("MonitorQueues$Trigger", T_Tr, 5), ("MonitorQueues$Delay", T_De, 3), ("java/util/ArrayList", T_AL, 3), ("MonitorQueuesModel", T_Mo, 28)]
abbrev tlx : List FieldType := [.object "java/lang/Object", .int, .long, .boolean, .object "MonitorQueues$Queue"]
theorem zl_MQ : ZL T_MQ 7 ty_MQ := ⟨by decide +kernel, by decide +kernel⟩
theorem in_MQ : ∀ w ∈ u_ws "MonitorQueues" T_MQ 7, w ∈ GT := by
  intro w hw
  obtain ⟨k, hk, rfl⟩ := List.mem_map.mp hw
  have hk := List.mem_range.mp hk
  match k, hk with
  | 0, _ => exact gw_152
  | 1, _ => exact gw_154
  | 2, _ => exact gw_156
  | 3, _ => exact gw_158
  | 4, _ => exact gw_160
  | 5, _ => exact gw_162
  | 6, _ => exact gw_164
  | k + 7, h => exact absurd h (by omega)
theorem zl_Qu : ZL T_Qu 10 ty_Qu := ⟨by decide +kernel, by decide +kernel⟩
theorem in_Qu : ∀ w ∈ u_ws "MonitorQueues$Queue" T_Qu 10, w ∈ GT := by
  intro w hw
  obtain ⟨k, hk, rfl⟩ := List.mem_map.mp hw
  have hk := List.mem_range.mp hk
  match k, hk with
  | 0, _ => exact gw_121
  | 1, _ => exact gw_123
  | 2, _ => exact gw_125
  | 3, _ => exact gw_127
  | 4, _ => exact gw_129
  | 5, _ => exact gw_131
  | 6, _ => exact gw_133
  | 7, _ => exact gw_135
  | 8, _ => exact gw_137
  | 9, _ => exact gw_139
  | k + 10, h => exact absurd h (by omega)
theorem zl_It : ZL T_It 1 ty_It := ⟨by decide +kernel, by decide +kernel⟩
theorem in_It : ∀ w ∈ u_ws "MonitorQueues$Item" T_It 1, w ∈ GT := by
  intro w hw
  obtain ⟨k, hk, rfl⟩ := List.mem_map.mp hw
  have hk := List.mem_range.mp hk
  match k, hk with
  | 0, _ => exact gw_211
  | k + 1, h => exact absurd h (by omega)
theorem zl_Ta : ZL T_Ta 2 ty_Ta := ⟨by decide +kernel, by decide +kernel⟩
theorem in_Ta : ∀ w ∈ u_ws "MonitorQueues$Task" T_Ta 2, w ∈ GT := by
  intro w hw
  obtain ⟨k, hk, rfl⟩ := List.mem_map.mp hw
  have hk := List.mem_range.mp hk
  match k, hk with
  | 0, _ => exact gw_304
  | 1, _ => exact gw_306
  | k + 2, h => exact absurd h (by omega)
theorem zl_Tr : ZL T_Tr 5 ty_Tr := ⟨by decide +kernel, by decide +kernel⟩
theorem in_Tr : ∀ w ∈ u_ws "MonitorQueues$Trigger" T_Tr 5, w ∈ GT := by
  intro w hw
  obtain ⟨k, hk, rfl⟩ := List.mem_map.mp hw
  have hk := List.mem_range.mp hk
  match k, hk with
  | 0, _ => exact gw_389
  | 1, _ => exact gw_391
  | 2, _ => exact gw_393
  | 3, _ => exact gw_395
  | 4, _ => exact gw_397
  | k + 5, h => exact absurd h (by omega)
theorem zl_De : ZL T_De 3 ty_De := ⟨by decide +kernel, by decide +kernel⟩
theorem in_De : ∀ w ∈ u_ws "MonitorQueues$Delay" T_De 3, w ∈ GT := by
  intro w hw
  obtain ⟨k, hk, rfl⟩ := List.mem_map.mp hw
  have hk := List.mem_range.mp hk
  match k, hk with
  | 0, _ => exact gw_438
  | 1, _ => exact gw_440
  | 2, _ => exact gw_442
  | k + 3, h => exact absurd h (by omega)
theorem zl_AL : ZL T_AL 3 ty_AL := ⟨by decide +kernel, by decide +kernel⟩
theorem in_AL : ∀ w ∈ u_ws "java/util/ArrayList" T_AL 3, w ∈ GT := by
  intro w hw
  obtain ⟨k, hk, rfl⟩ := List.mem_map.mp hw
  have hk := List.mem_range.mp hk
  match k, hk with
  | 0, _ => exact gw_96
  | 1, _ => exact gw_98
  | 2, _ => exact gw_100
  | k + 3, h => exact absurd h (by omega)
theorem zl_Mo : ZL T_Mo 28 ty_Mo := ⟨by decide +kernel, by decide +kernel⟩
theorem in_Mo : ∀ w ∈ u_ws "MonitorQueuesModel" T_Mo 28, w ∈ GT := by
  intro w hw
  obtain ⟨k, hk, rfl⟩ := List.mem_map.mp hw
  have hk := List.mem_range.mp hk
  match k, hk with
  | 0, _ => exact gw_604
  | 1, _ => exact gw_606
  | 2, _ => exact gw_608
  | 3, _ => exact gw_610
  | 4, _ => exact gw_612
  | 5, _ => exact gw_614
  | 6, _ => exact gw_616
  | 7, _ => exact gw_618
  | 8, _ => exact gw_620
  | 9, _ => exact gw_622
  | 10, _ => exact gw_624
  | 11, _ => exact gw_626
  | 12, _ => exact gw_628
  | 13, _ => exact gw_630
  | 14, _ => exact gw_632
  | 15, _ => exact gw_634
  | 16, _ => exact gw_636
  | 17, _ => exact gw_638
  | 18, _ => exact gw_640
  | 19, _ => exact gw_642
  | 20, _ => exact gw_644
  | 21, _ => exact gw_646
  | 22, _ => exact gw_648
  | 23, _ => exact gw_650
  | 24, _ => exact gw_652
  | 25, _ => exact gw_654
  | 26, _ => exact gw_656
  | 27, _ => exact gw_658
  | k + 28, h => exact absurd h (by omega)
theorem zf_AL_9 : ZF vcl GT "java/util/ArrayList" 9 6 0 := ⟨_, T_AL, 3, "java/util/ArrayList", rfl, by decide, in_AL, gw_91, Or.inl rfl⟩
theorem zp_AL_9 : ZFp vcl GT "java/util/ArrayList" 9 6 0 false (.array (.object "java/lang/Object")) := ⟨_, T_AL, 3, "java/util/ArrayList", ty_AL, rfl, by decide, in_AL, gw_91, Or.inl rfl, zl_AL, rfl, rfl, fun _ => by simp_all⟩
theorem zf_AL_48 : ZF vcl GT "java/util/ArrayList" 48 6 1 := ⟨_, T_AL, 3, "java/util/ArrayList", rfl, by decide, in_AL, gw_92, Or.inl rfl⟩
theorem zp_AL_48 : ZFp vcl GT "java/util/ArrayList" 48 6 1 false (.int) := ⟨_, T_AL, 3, "java/util/ArrayList", ty_AL, rfl, by decide, in_AL, gw_92, Or.inl rfl, zl_AL, rfl, rfl, fun _ => by simp_all⟩
theorem zf_AB_7 : ZF vcl GT "java/util/AbstractList" 7 6 2 := ⟨_, T_AL, 3, "java/util/AbstractList", rfl, by decide, in_AL, gw_93, Or.inl rfl⟩
theorem zp_AB_7 : ZFp vcl GT "java/util/AbstractList" 7 6 2 false (.int) := ⟨_, T_AL, 3, "java/util/AbstractList", ty_AL, rfl, by decide, in_AL, gw_93, Or.inl rfl, zl_AL, rfl, rfl, fun _ => by simp_all⟩
theorem zf_AL_63 : ZF vcl GT "java/util/ArrayList" 63 6 2 := ⟨_, T_AL, 3, "java/util/ArrayList", rfl, by decide, in_AL, gw_94, Or.inr gw_95⟩
theorem zp_AL_63 : ZFp vcl GT "java/util/ArrayList" 63 6 2 false (.int) := ⟨_, T_AL, 3, "java/util/ArrayList", ty_AL, rfl, by decide, in_AL, gw_94, Or.inr gw_95, zl_AL, rfl, rfl, fun _ => by simp_all⟩
theorem zf_Qu_12 : ZF vcl GT "MonitorQueues$Queue" 12 1 0 := ⟨_, T_Qu, 10, "MonitorQueues$Queue", rfl, by decide, in_Qu, gw_103, Or.inl rfl⟩
theorem zp_Qu_12 : ZFp vcl GT "MonitorQueues$Queue" 12 1 0 true (.object "java/util/ArrayList") := ⟨_, T_Qu, 10, "MonitorQueues$Queue", ty_Qu, rfl, by decide, in_Qu, gw_103, Or.inl rfl, zl_Qu, rfl, rfl, fun _ => rfl⟩
theorem zf_MQ_87 : ZF vcl GT "MonitorQueues" 87 1 0 := ⟨_, T_Qu, 10, "MonitorQueues$Queue", rfl, by decide, in_Qu, gw_104, Or.inl rfl⟩
theorem zf_Qu_18 : ZF vcl GT "MonitorQueues$Queue" 18 1 1 := ⟨_, T_Qu, 10, "MonitorQueues$Queue", rfl, by decide, in_Qu, gw_105, Or.inl rfl⟩
theorem zp_Qu_18 : ZFp vcl GT "MonitorQueues$Queue" 18 1 1 true (.array .int) := ⟨_, T_Qu, 10, "MonitorQueues$Queue", ty_Qu, rfl, by decide, in_Qu, gw_105, Or.inl rfl, zl_Qu, rfl, rfl, fun _ => rfl⟩
theorem zf_MQ_110 : ZF vcl GT "MonitorQueues" 110 1 1 := ⟨_, T_Qu, 10, "MonitorQueues$Queue", rfl, by decide, in_Qu, gw_106, Or.inl rfl⟩
theorem zf_Qu_22 : ZF vcl GT "MonitorQueues$Queue" 22 1 2 := ⟨_, T_Qu, 10, "MonitorQueues$Queue", rfl, by decide, in_Qu, gw_107, Or.inl rfl⟩
theorem zp_Qu_22 : ZFp vcl GT "MonitorQueues$Queue" 22 1 2 false (.int) := ⟨_, T_Qu, 10, "MonitorQueues$Queue", ty_Qu, rfl, by decide, in_Qu, gw_107, Or.inl rfl, zl_Qu, rfl, rfl, fun _ => by simp_all⟩
theorem zf_MQ_185 : ZF vcl GT "MonitorQueues" 185 1 2 := ⟨_, T_Qu, 10, "MonitorQueues$Queue", rfl, by decide, in_Qu, gw_108, Or.inl rfl⟩
theorem zp_MQ_185 : ZFp vcl GT "MonitorQueues" 185 1 2 false (.int) := ⟨_, T_Qu, 10, "MonitorQueues$Queue", ty_Qu, rfl, by decide, in_Qu, gw_108, Or.inl rfl, zl_Qu, rfl, rfl, fun _ => by simp_all⟩
theorem zf_Qu_30 : ZF vcl GT "MonitorQueues$Queue" 30 1 3 := ⟨_, T_Qu, 10, "MonitorQueues$Queue", rfl, by decide, in_Qu, gw_109, Or.inl rfl⟩
theorem zp_Qu_30 : ZFp vcl GT "MonitorQueues$Queue" 30 1 3 false (.int) := ⟨_, T_Qu, 10, "MonitorQueues$Queue", ty_Qu, rfl, by decide, in_Qu, gw_109, Or.inl rfl, zl_Qu, rfl, rfl, fun _ => by simp_all⟩
theorem zf_MQ_50 : ZF vcl GT "MonitorQueues" 50 1 4 := ⟨_, T_Qu, 10, "MonitorQueues$Queue", rfl, by decide, in_Qu, gw_110, Or.inl rfl⟩
theorem zp_MQ_50 : ZFp vcl GT "MonitorQueues" 50 1 4 false (.int) := ⟨_, T_Qu, 10, "MonitorQueues$Queue", ty_Qu, rfl, by decide, in_Qu, gw_110, Or.inl rfl, zl_Qu, rfl, rfl, fun _ => by simp_all⟩
theorem zf_Qu_57 : ZF vcl GT "MonitorQueues$Queue" 57 1 4 := ⟨_, T_Qu, 10, "MonitorQueues$Queue", rfl, by decide, in_Qu, gw_111, Or.inl rfl⟩
theorem zp_Qu_57 : ZFp vcl GT "MonitorQueues$Queue" 57 1 4 false (.int) := ⟨_, T_Qu, 10, "MonitorQueues$Queue", ty_Qu, rfl, by decide, in_Qu, gw_111, Or.inl rfl, zl_Qu, rfl, rfl, fun _ => by simp_all⟩
theorem zf_Qu_41 : ZF vcl GT "MonitorQueues$Queue" 41 1 5 := ⟨_, T_Qu, 10, "MonitorQueues$Queue", rfl, by decide, in_Qu, gw_112, Or.inl rfl⟩
theorem zp_Qu_41 : ZFp vcl GT "MonitorQueues$Queue" 41 1 5 false (.long) := ⟨_, T_Qu, 10, "MonitorQueues$Queue", ty_Qu, rfl, by decide, in_Qu, gw_112, Or.inl rfl, zl_Qu, rfl, rfl, fun _ => by simp_all⟩
theorem zf_MQ_179 : ZF vcl GT "MonitorQueues" 179 1 5 := ⟨_, T_Qu, 10, "MonitorQueues$Queue", rfl, by decide, in_Qu, gw_113, Or.inl rfl⟩
theorem zp_MQ_179 : ZFp vcl GT "MonitorQueues" 179 1 5 false (.long) := ⟨_, T_Qu, 10, "MonitorQueues$Queue", ty_Qu, rfl, by decide, in_Qu, gw_113, Or.inl rfl, zl_Qu, rfl, rfl, fun _ => by simp_all⟩
theorem zf_Qu_64 : ZF vcl GT "MonitorQueues$Queue" 64 1 6 := ⟨_, T_Qu, 10, "MonitorQueues$Queue", rfl, by decide, in_Qu, gw_114, Or.inl rfl⟩
theorem zp_Qu_64 : ZFp vcl GT "MonitorQueues$Queue" 64 1 6 false (.int) := ⟨_, T_Qu, 10, "MonitorQueues$Queue", ty_Qu, rfl, by decide, in_Qu, gw_114, Or.inl rfl, zl_Qu, rfl, rfl, fun _ => by simp_all⟩
theorem zf_MQ_99 : ZF vcl GT "MonitorQueues" 99 1 7 := ⟨_, T_Qu, 10, "MonitorQueues$Queue", rfl, by decide, in_Qu, gw_115, Or.inl rfl⟩
theorem zp_MQ_99 : ZFp vcl GT "MonitorQueues" 99 1 7 false (.int) := ⟨_, T_Qu, 10, "MonitorQueues$Queue", ty_Qu, rfl, by decide, in_Qu, gw_115, Or.inl rfl, zl_Qu, rfl, rfl, fun _ => by simp_all⟩
theorem zf_Qu_70 : ZF vcl GT "MonitorQueues$Queue" 70 1 7 := ⟨_, T_Qu, 10, "MonitorQueues$Queue", rfl, by decide, in_Qu, gw_116, Or.inl rfl⟩
theorem zp_Qu_70 : ZFp vcl GT "MonitorQueues$Queue" 70 1 7 false (.int) := ⟨_, T_Qu, 10, "MonitorQueues$Queue", ty_Qu, rfl, by decide, in_Qu, gw_116, Or.inl rfl, zl_Qu, rfl, rfl, fun _ => by simp_all⟩
theorem zf_MQ_104 : ZF vcl GT "MonitorQueues" 104 1 8 := ⟨_, T_Qu, 10, "MonitorQueues$Queue", rfl, by decide, in_Qu, gw_117, Or.inl rfl⟩
theorem zp_MQ_104 : ZFp vcl GT "MonitorQueues" 104 1 8 false (.long) := ⟨_, T_Qu, 10, "MonitorQueues$Queue", ty_Qu, rfl, by decide, in_Qu, gw_117, Or.inl rfl, zl_Qu, rfl, rfl, fun _ => by simp_all⟩
theorem zf_Qu_80 : ZF vcl GT "MonitorQueues$Queue" 80 1 8 := ⟨_, T_Qu, 10, "MonitorQueues$Queue", rfl, by decide, in_Qu, gw_118, Or.inl rfl⟩
theorem zp_Qu_80 : ZFp vcl GT "MonitorQueues$Queue" 80 1 8 false (.long) := ⟨_, T_Qu, 10, "MonitorQueues$Queue", ty_Qu, rfl, by decide, in_Qu, gw_118, Or.inl rfl, zl_Qu, rfl, rfl, fun _ => by simp_all⟩
theorem zf_MQ_128 : ZF vcl GT "MonitorQueues" 128 1 9 := ⟨_, T_Qu, 10, "MonitorQueues$Queue", rfl, by decide, in_Qu, gw_119, Or.inl rfl⟩
theorem zp_MQ_128 : ZFp vcl GT "MonitorQueues" 128 1 9 false (.object "MonitorQueues$Trigger") := ⟨_, T_Qu, 10, "MonitorQueues$Queue", ty_Qu, rfl, by decide, in_Qu, gw_119, Or.inl rfl, zl_Qu, rfl, rfl, fun _ => by simp_all⟩
theorem zf_Qu_37 : ZF vcl GT "MonitorQueues$Queue" 37 1 9 := ⟨_, T_Qu, 10, "MonitorQueues$Queue", rfl, by decide, in_Qu, gw_120, Or.inl rfl⟩
theorem zp_Qu_37 : ZFp vcl GT "MonitorQueues$Queue" 37 1 9 false (.object "MonitorQueues$Trigger") := ⟨_, T_Qu, 10, "MonitorQueues$Queue", ty_Qu, rfl, by decide, in_Qu, gw_120, Or.inl rfl, zl_Qu, rfl, rfl, fun _ => by simp_all⟩
theorem zf_MQ_18 : ZF vcl GT "MonitorQueues" 18 0 0 := ⟨_, T_MQ, 7, "MonitorQueues", rfl, by decide, in_MQ, gw_145, Or.inl rfl⟩
theorem zp_MQ_18 : ZFp vcl GT "MonitorQueues" 18 0 0 true (.int) := ⟨_, T_MQ, 7, "MonitorQueues", ty_MQ, rfl, by decide, in_MQ, gw_145, Or.inl rfl, zl_MQ, rfl, rfl, fun _ => rfl⟩
theorem zf_MQ_24 : ZF vcl GT "MonitorQueues" 24 0 1 := ⟨_, T_MQ, 7, "MonitorQueues", rfl, by decide, in_MQ, gw_146, Or.inl rfl⟩
theorem zp_MQ_24 : ZFp vcl GT "MonitorQueues" 24 0 1 true (.array (.object "MonitorQueues$Queue")) := ⟨_, T_MQ, 7, "MonitorQueues", ty_MQ, rfl, by decide, in_MQ, gw_146, Or.inl rfl, zl_MQ, rfl, rfl, fun _ => rfl⟩
theorem zf_MQ_32 : ZF vcl GT "MonitorQueues" 32 0 2 := ⟨_, T_MQ, 7, "MonitorQueues", rfl, by decide, in_MQ, gw_147, Or.inl rfl⟩
theorem zp_MQ_32 : ZFp vcl GT "MonitorQueues" 32 0 2 true (.object "java/util/ArrayList") := ⟨_, T_MQ, 7, "MonitorQueues", ty_MQ, rfl, by decide, in_MQ, gw_147, Or.inl rfl, zl_MQ, rfl, rfl, fun _ => rfl⟩
theorem zf_MQ_36 : ZF vcl GT "MonitorQueues" 36 0 3 := ⟨_, T_MQ, 7, "MonitorQueues", rfl, by decide, in_MQ, gw_148, Or.inl rfl⟩
theorem zp_MQ_36 : ZFp vcl GT "MonitorQueues" 36 0 3 true (.object "java/util/ArrayList") := ⟨_, T_MQ, 7, "MonitorQueues", ty_MQ, rfl, by decide, in_MQ, gw_148, Or.inl rfl, zl_MQ, rfl, rfl, fun _ => rfl⟩
theorem zf_MQ_144 : ZF vcl GT "MonitorQueues" 144 0 4 := ⟨_, T_MQ, 7, "MonitorQueues", rfl, by decide, in_MQ, gw_149, Or.inl rfl⟩
theorem zp_MQ_144 : ZFp vcl GT "MonitorQueues" 144 0 4 false (.int) := ⟨_, T_MQ, 7, "MonitorQueues", ty_MQ, rfl, by decide, in_MQ, gw_149, Or.inl rfl, zl_MQ, rfl, rfl, fun _ => by simp_all⟩
theorem zf_MQ_154 : ZF vcl GT "MonitorQueues" 154 0 5 := ⟨_, T_MQ, 7, "MonitorQueues", rfl, by decide, in_MQ, gw_150, Or.inl rfl⟩
theorem zp_MQ_154 : ZFp vcl GT "MonitorQueues" 154 0 5 false (.int) := ⟨_, T_MQ, 7, "MonitorQueues", ty_MQ, rfl, by decide, in_MQ, gw_150, Or.inl rfl, zl_MQ, rfl, rfl, fun _ => by simp_all⟩
theorem zf_MQ_57 : ZF vcl GT "MonitorQueues" 57 0 6 := ⟨_, T_MQ, 7, "MonitorQueues", rfl, by decide, in_MQ, gw_151, Or.inl rfl⟩
theorem zp_MQ_57 : ZFp vcl GT "MonitorQueues" 57 0 6 false (.long) := ⟨_, T_MQ, 7, "MonitorQueues", ty_MQ, rfl, by decide, in_MQ, gw_151, Or.inl rfl, zl_MQ, rfl, rfl, fun _ => by simp_all⟩
theorem zf_It_7 : ZF vcl GT "MonitorQueues$Item" 7 2 0 := ⟨_, T_It, 1, "MonitorQueues$Item", rfl, by decide, in_It, gw_208, Or.inl rfl⟩
theorem zp_It_7 : ZFp vcl GT "MonitorQueues$Item" 7 2 0 false (.long) := ⟨_, T_It, 1, "MonitorQueues$Item", ty_It, rfl, by decide, in_It, gw_208, Or.inl rfl, zl_It, rfl, rfl, fun _ => by simp_all⟩
theorem zf_MQ_96 : ZF vcl GT "MonitorQueues" 96 2 0 := ⟨_, T_It, 1, "MonitorQueues$Item", rfl, by decide, in_It, gw_209, Or.inl rfl⟩
theorem zp_MQ_96 : ZFp vcl GT "MonitorQueues" 96 2 0 false (.long) := ⟨_, T_It, 1, "MonitorQueues$Item", ty_It, rfl, by decide, in_It, gw_209, Or.inl rfl, zl_It, rfl, rfl, fun _ => by simp_all⟩
theorem zf_Qu_77 : ZF vcl GT "MonitorQueues$Queue" 77 2 0 := ⟨_, T_It, 1, "MonitorQueues$Item", rfl, by decide, in_It, gw_210, Or.inl rfl⟩
theorem zp_Qu_77 : ZFp vcl GT "MonitorQueues$Queue" 77 2 0 false (.long) := ⟨_, T_It, 1, "MonitorQueues$Item", ty_It, rfl, by decide, in_It, gw_210, Or.inl rfl, zl_It, rfl, rfl, fun _ => by simp_all⟩
theorem zf_Ta_7 : ZF vcl GT "MonitorQueues$Task" 7 3 0 := ⟨_, T_Ta, 2, "MonitorQueues$Task", rfl, by decide, in_Ta, gw_300, Or.inl rfl⟩
theorem zp_Ta_7 : ZFp vcl GT "MonitorQueues$Task" 7 3 0 true (.int) := ⟨_, T_Ta, 2, "MonitorQueues$Task", ty_Ta, rfl, by decide, in_Ta, gw_300, Or.inl rfl, zl_Ta, rfl, rfl, fun _ => rfl⟩
theorem zf_MQ_137 : ZF vcl GT "MonitorQueues" 137 3 0 := ⟨_, T_Ta, 2, "MonitorQueues$Task", rfl, by decide, in_Ta, gw_301, Or.inl rfl⟩
theorem zf_Ta_13 : ZF vcl GT "MonitorQueues$Task" 13 3 1 := ⟨_, T_Ta, 2, "MonitorQueues$Task", rfl, by decide, in_Ta, gw_302, Or.inl rfl⟩
theorem zp_Ta_13 : ZFp vcl GT "MonitorQueues$Task" 13 3 1 false (.boolean) := ⟨_, T_Ta, 2, "MonitorQueues$Task", ty_Ta, rfl, by decide, in_Ta, gw_302, Or.inl rfl, zl_Ta, rfl, rfl, fun _ => by simp_all⟩
theorem zf_MQ_140 : ZF vcl GT "MonitorQueues" 140 3 1 := ⟨_, T_Ta, 2, "MonitorQueues$Task", rfl, by decide, in_Ta, gw_303, Or.inl rfl⟩
theorem zp_MQ_140 : ZFp vcl GT "MonitorQueues" 140 3 1 false (.boolean) := ⟨_, T_Ta, 2, "MonitorQueues$Task", ty_Ta, rfl, by decide, in_Ta, gw_303, Or.inl rfl, zl_Ta, rfl, rfl, fun _ => by simp_all⟩
theorem zf_Tr_7 : ZF vcl GT "MonitorQueues$Trigger" 7 4 0 := ⟨_, T_Tr, 5, "MonitorQueues$Trigger", rfl, by decide, in_Tr, gw_380, Or.inl rfl⟩
theorem zp_Tr_7 : ZFp vcl GT "MonitorQueues$Trigger" 7 4 0 true (.int) := ⟨_, T_Tr, 5, "MonitorQueues$Trigger", ty_Tr, rfl, by decide, in_Tr, gw_380, Or.inl rfl, zl_Tr, rfl, rfl, fun _ => rfl⟩
theorem zf_MQ_209 : ZF vcl GT "MonitorQueues" 209 4 0 := ⟨_, T_Tr, 5, "MonitorQueues$Trigger", rfl, by decide, in_Tr, gw_381, Or.inl rfl⟩
theorem zf_Tr_13 : ZF vcl GT "MonitorQueues$Trigger" 13 4 1 := ⟨_, T_Tr, 5, "MonitorQueues$Trigger", rfl, by decide, in_Tr, gw_382, Or.inl rfl⟩
theorem zp_Tr_13 : ZFp vcl GT "MonitorQueues$Trigger" 13 4 1 true (.int) := ⟨_, T_Tr, 5, "MonitorQueues$Trigger", ty_Tr, rfl, by decide, in_Tr, gw_382, Or.inl rfl, zl_Tr, rfl, rfl, fun _ => rfl⟩
theorem zf_MQ_195 : ZF vcl GT "MonitorQueues" 195 4 1 := ⟨_, T_Tr, 5, "MonitorQueues$Trigger", rfl, by decide, in_Tr, gw_383, Or.inl rfl⟩
theorem zf_Tr_16 : ZF vcl GT "MonitorQueues$Trigger" 16 4 2 := ⟨_, T_Tr, 5, "MonitorQueues$Trigger", rfl, by decide, in_Tr, gw_384, Or.inl rfl⟩
theorem zp_Tr_16 : ZFp vcl GT "MonitorQueues$Trigger" 16 4 2 false (.boolean) := ⟨_, T_Tr, 5, "MonitorQueues$Trigger", ty_Tr, rfl, by decide, in_Tr, gw_384, Or.inl rfl, zl_Tr, rfl, rfl, fun _ => by simp_all⟩
theorem zf_MQ_212 : ZF vcl GT "MonitorQueues" 212 4 2 := ⟨_, T_Tr, 5, "MonitorQueues$Trigger", rfl, by decide, in_Tr, gw_385, Or.inl rfl⟩
theorem zp_MQ_212 : ZFp vcl GT "MonitorQueues" 212 4 2 false (.boolean) := ⟨_, T_Tr, 5, "MonitorQueues$Trigger", ty_Tr, rfl, by decide, in_Tr, gw_385, Or.inl rfl, zl_Tr, rfl, rfl, fun _ => by simp_all⟩
theorem zf_MQ_199 : ZF vcl GT "MonitorQueues" 199 4 3 := ⟨_, T_Tr, 5, "MonitorQueues$Trigger", rfl, by decide, in_Tr, gw_386, Or.inl rfl⟩
theorem zp_MQ_199 : ZFp vcl GT "MonitorQueues" 199 4 3 false (.int) := ⟨_, T_Tr, 5, "MonitorQueues$Trigger", ty_Tr, rfl, by decide, in_Tr, gw_386, Or.inl rfl, zl_Tr, rfl, rfl, fun _ => by simp_all⟩
theorem zf_Qu_86 : ZF vcl GT "MonitorQueues$Queue" 86 4 4 := ⟨_, T_Tr, 5, "MonitorQueues$Trigger", rfl, by decide, in_Tr, gw_387, Or.inl rfl⟩
theorem zp_Qu_86 : ZFp vcl GT "MonitorQueues$Queue" 86 4 4 false (.boolean) := ⟨_, T_Tr, 5, "MonitorQueues$Trigger", ty_Tr, rfl, by decide, in_Tr, gw_387, Or.inl rfl, zl_Tr, rfl, rfl, fun _ => by simp_all⟩
theorem zf_MQ_202 : ZF vcl GT "MonitorQueues" 202 4 4 := ⟨_, T_Tr, 5, "MonitorQueues$Trigger", rfl, by decide, in_Tr, gw_388, Or.inl rfl⟩
theorem zp_MQ_202 : ZFp vcl GT "MonitorQueues" 202 4 4 false (.boolean) := ⟨_, T_Tr, 5, "MonitorQueues$Trigger", ty_Tr, rfl, by decide, in_Tr, gw_388, Or.inl rfl, zl_Tr, rfl, rfl, fun _ => by simp_all⟩
theorem zf_De_7 : ZF vcl GT "MonitorQueues$Delay" 7 5 0 := ⟨_, T_De, 3, "MonitorQueues$Delay", rfl, by decide, in_De, gw_432, Or.inl rfl⟩
theorem zp_De_7 : ZFp vcl GT "MonitorQueues$Delay" 7 5 0 true (.int) := ⟨_, T_De, 3, "MonitorQueues$Delay", ty_De, rfl, by decide, in_De, gw_432, Or.inl rfl, zl_De, rfl, rfl, fun _ => rfl⟩
theorem zf_MQ_169 : ZF vcl GT "MonitorQueues" 169 5 0 := ⟨_, T_De, 3, "MonitorQueues$Delay", rfl, by decide, in_De, gw_433, Or.inl rfl⟩
theorem zf_De_13 : ZF vcl GT "MonitorQueues$Delay" 13 5 1 := ⟨_, T_De, 3, "MonitorQueues$Delay", rfl, by decide, in_De, gw_434, Or.inl rfl⟩
theorem zp_De_13 : ZFp vcl GT "MonitorQueues$Delay" 13 5 1 true (.int) := ⟨_, T_De, 3, "MonitorQueues$Delay", ty_De, rfl, by decide, in_De, gw_434, Or.inl rfl, zl_De, rfl, rfl, fun _ => rfl⟩
theorem zf_MQ_225 : ZF vcl GT "MonitorQueues" 225 5 1 := ⟨_, T_De, 3, "MonitorQueues$Delay", rfl, by decide, in_De, gw_435, Or.inl rfl⟩
theorem zf_De_16 : ZF vcl GT "MonitorQueues$Delay" 16 5 2 := ⟨_, T_De, 3, "MonitorQueues$Delay", rfl, by decide, in_De, gw_436, Or.inl rfl⟩
theorem zp_De_16 : ZFp vcl GT "MonitorQueues$Delay" 16 5 2 true (.long) := ⟨_, T_De, 3, "MonitorQueues$Delay", ty_De, rfl, by decide, in_De, gw_436, Or.inl rfl, zl_De, rfl, rfl, fun _ => rfl⟩
theorem zf_MQ_219 : ZF vcl GT "MonitorQueues" 219 5 2 := ⟨_, T_De, 3, "MonitorQueues$Delay", rfl, by decide, in_De, gw_437, Or.inl rfl⟩
theorem zf_Mo_76 : ZF vcl GT "MonitorQueuesModel" 76 7 0 := ⟨_, T_Mo, 28, "MonitorQueuesModel", rfl, by decide, in_Mo, gw_576, Or.inl rfl⟩
theorem zp_Mo_76 : ZFp vcl GT "MonitorQueuesModel" 76 7 0 false (.int) := ⟨_, T_Mo, 28, "MonitorQueuesModel", ty_Mo, rfl, by decide, in_Mo, gw_576, Or.inl rfl, zl_Mo, rfl, rfl, fun _ => by simp_all⟩
theorem zf_Mo_72 : ZF vcl GT "MonitorQueuesModel" 72 7 1 := ⟨_, T_Mo, 28, "MonitorQueuesModel", rfl, by decide, in_Mo, gw_577, Or.inl rfl⟩
theorem zp_Mo_72 : ZFp vcl GT "MonitorQueuesModel" 72 7 1 true (.int) := ⟨_, T_Mo, 28, "MonitorQueuesModel", ty_Mo, rfl, by decide, in_Mo, gw_577, Or.inl rfl, zl_Mo, rfl, rfl, fun _ => rfl⟩
theorem zf_Mo_7 : ZF vcl GT "MonitorQueuesModel" 7 7 2 := ⟨_, T_Mo, 28, "MonitorQueuesModel", rfl, by decide, in_Mo, gw_578, Or.inl rfl⟩
theorem zp_Mo_7 : ZFp vcl GT "MonitorQueuesModel" 7 7 2 true (.array .int) := ⟨_, T_Mo, 28, "MonitorQueuesModel", ty_Mo, rfl, by decide, in_Mo, gw_578, Or.inl rfl, zl_Mo, rfl, rfl, fun _ => rfl⟩
theorem zf_Mo_13 : ZF vcl GT "MonitorQueuesModel" 13 7 3 := ⟨_, T_Mo, 28, "MonitorQueuesModel", rfl, by decide, in_Mo, gw_579, Or.inl rfl⟩
theorem zp_Mo_13 : ZFp vcl GT "MonitorQueuesModel" 13 7 3 true (.array .int) := ⟨_, T_Mo, 28, "MonitorQueuesModel", ty_Mo, rfl, by decide, in_Mo, gw_579, Or.inl rfl, zl_Mo, rfl, rfl, fun _ => rfl⟩
theorem zf_Mo_16 : ZF vcl GT "MonitorQueuesModel" 16 7 4 := ⟨_, T_Mo, 28, "MonitorQueuesModel", rfl, by decide, in_Mo, gw_580, Or.inl rfl⟩
theorem zp_Mo_16 : ZFp vcl GT "MonitorQueuesModel" 16 7 4 true (.array .int) := ⟨_, T_Mo, 28, "MonitorQueuesModel", ty_Mo, rfl, by decide, in_Mo, gw_580, Or.inl rfl, zl_Mo, rfl, rfl, fun _ => rfl⟩
theorem zf_Mo_19 : ZF vcl GT "MonitorQueuesModel" 19 7 5 := ⟨_, T_Mo, 28, "MonitorQueuesModel", rfl, by decide, in_Mo, gw_581, Or.inl rfl⟩
theorem zp_Mo_19 : ZFp vcl GT "MonitorQueuesModel" 19 7 5 true (.array .long) := ⟨_, T_Mo, 28, "MonitorQueuesModel", ty_Mo, rfl, by decide, in_Mo, gw_581, Or.inl rfl, zl_Mo, rfl, rfl, fun _ => rfl⟩
theorem zf_Mo_79 : ZF vcl GT "MonitorQueuesModel" 79 7 6 := ⟨_, T_Mo, 28, "MonitorQueuesModel", rfl, by decide, in_Mo, gw_582, Or.inl rfl⟩
theorem zp_Mo_79 : ZFp vcl GT "MonitorQueuesModel" 79 7 6 false (.int) := ⟨_, T_Mo, 28, "MonitorQueuesModel", ty_Mo, rfl, by decide, in_Mo, gw_582, Or.inl rfl, zl_Mo, rfl, rfl, fun _ => by simp_all⟩
theorem zf_Mo_23 : ZF vcl GT "MonitorQueuesModel" 23 7 7 := ⟨_, T_Mo, 28, "MonitorQueuesModel", rfl, by decide, in_Mo, gw_583, Or.inl rfl⟩
theorem zp_Mo_23 : ZFp vcl GT "MonitorQueuesModel" 23 7 7 true (.array .int) := ⟨_, T_Mo, 28, "MonitorQueuesModel", ty_Mo, rfl, by decide, in_Mo, gw_583, Or.inl rfl, zl_Mo, rfl, rfl, fun _ => rfl⟩
theorem zf_Mo_26 : ZF vcl GT "MonitorQueuesModel" 26 7 8 := ⟨_, T_Mo, 28, "MonitorQueuesModel", rfl, by decide, in_Mo, gw_584, Or.inl rfl⟩
theorem zp_Mo_26 : ZFp vcl GT "MonitorQueuesModel" 26 7 8 true (.array .int) := ⟨_, T_Mo, 28, "MonitorQueuesModel", ty_Mo, rfl, by decide, in_Mo, gw_584, Or.inl rfl, zl_Mo, rfl, rfl, fun _ => rfl⟩
theorem zf_Mo_29 : ZF vcl GT "MonitorQueuesModel" 29 7 9 := ⟨_, T_Mo, 28, "MonitorQueuesModel", rfl, by decide, in_Mo, gw_585, Or.inl rfl⟩
theorem zp_Mo_29 : ZFp vcl GT "MonitorQueuesModel" 29 7 9 true (.array .int) := ⟨_, T_Mo, 28, "MonitorQueuesModel", ty_Mo, rfl, by decide, in_Mo, gw_585, Or.inl rfl, zl_Mo, rfl, rfl, fun _ => rfl⟩
theorem zf_Mo_32 : ZF vcl GT "MonitorQueuesModel" 32 7 10 := ⟨_, T_Mo, 28, "MonitorQueuesModel", rfl, by decide, in_Mo, gw_586, Or.inl rfl⟩
theorem zp_Mo_32 : ZFp vcl GT "MonitorQueuesModel" 32 7 10 true (.array .int) := ⟨_, T_Mo, 28, "MonitorQueuesModel", ty_Mo, rfl, by decide, in_Mo, gw_586, Or.inl rfl, zl_Mo, rfl, rfl, fun _ => rfl⟩
theorem zf_Mo_35 : ZF vcl GT "MonitorQueuesModel" 35 7 11 := ⟨_, T_Mo, 28, "MonitorQueuesModel", rfl, by decide, in_Mo, gw_587, Or.inl rfl⟩
theorem zp_Mo_35 : ZFp vcl GT "MonitorQueuesModel" 35 7 11 true (.array .int) := ⟨_, T_Mo, 28, "MonitorQueuesModel", ty_Mo, rfl, by decide, in_Mo, gw_587, Or.inl rfl, zl_Mo, rfl, rfl, fun _ => rfl⟩
theorem zf_Mo_38 : ZF vcl GT "MonitorQueuesModel" 38 7 12 := ⟨_, T_Mo, 28, "MonitorQueuesModel", rfl, by decide, in_Mo, gw_588, Or.inl rfl⟩
theorem zp_Mo_38 : ZFp vcl GT "MonitorQueuesModel" 38 7 12 true (.array .int) := ⟨_, T_Mo, 28, "MonitorQueuesModel", ty_Mo, rfl, by decide, in_Mo, gw_588, Or.inl rfl, zl_Mo, rfl, rfl, fun _ => rfl⟩
theorem zf_Mo_41 : ZF vcl GT "MonitorQueuesModel" 41 7 13 := ⟨_, T_Mo, 28, "MonitorQueuesModel", rfl, by decide, in_Mo, gw_589, Or.inl rfl⟩
theorem zp_Mo_41 : ZFp vcl GT "MonitorQueuesModel" 41 7 13 true (.array .boolean) := ⟨_, T_Mo, 28, "MonitorQueuesModel", ty_Mo, rfl, by decide, in_Mo, gw_589, Or.inl rfl, zl_Mo, rfl, rfl, fun _ => rfl⟩
theorem zf_Mo_45 : ZF vcl GT "MonitorQueuesModel" 45 7 14 := ⟨_, T_Mo, 28, "MonitorQueuesModel", rfl, by decide, in_Mo, gw_590, Or.inl rfl⟩
theorem zp_Mo_45 : ZFp vcl GT "MonitorQueuesModel" 45 7 14 true (.array .boolean) := ⟨_, T_Mo, 28, "MonitorQueuesModel", ty_Mo, rfl, by decide, in_Mo, gw_590, Or.inl rfl, zl_Mo, rfl, rfl, fun _ => rfl⟩
theorem zf_Mo_48 : ZF vcl GT "MonitorQueuesModel" 48 7 15 := ⟨_, T_Mo, 28, "MonitorQueuesModel", rfl, by decide, in_Mo, gw_591, Or.inl rfl⟩
theorem zp_Mo_48 : ZFp vcl GT "MonitorQueuesModel" 48 7 15 true (.array .long) := ⟨_, T_Mo, 28, "MonitorQueuesModel", ty_Mo, rfl, by decide, in_Mo, gw_591, Or.inl rfl, zl_Mo, rfl, rfl, fun _ => rfl⟩
theorem zf_Mo_51 : ZF vcl GT "MonitorQueuesModel" 51 7 16 := ⟨_, T_Mo, 28, "MonitorQueuesModel", rfl, by decide, in_Mo, gw_592, Or.inl rfl⟩
theorem zp_Mo_51 : ZFp vcl GT "MonitorQueuesModel" 51 7 16 true (.array .long) := ⟨_, T_Mo, 28, "MonitorQueuesModel", ty_Mo, rfl, by decide, in_Mo, gw_592, Or.inl rfl, zl_Mo, rfl, rfl, fun _ => rfl⟩
theorem zf_Mo_54 : ZF vcl GT "MonitorQueuesModel" 54 7 17 := ⟨_, T_Mo, 28, "MonitorQueuesModel", rfl, by decide, in_Mo, gw_593, Or.inl rfl⟩
theorem zp_Mo_54 : ZFp vcl GT "MonitorQueuesModel" 54 7 17 true (.array .int) := ⟨_, T_Mo, 28, "MonitorQueuesModel", ty_Mo, rfl, by decide, in_Mo, gw_593, Or.inl rfl, zl_Mo, rfl, rfl, fun _ => rfl⟩
theorem zf_Mo_57 : ZF vcl GT "MonitorQueuesModel" 57 7 18 := ⟨_, T_Mo, 28, "MonitorQueuesModel", rfl, by decide, in_Mo, gw_594, Or.inl rfl⟩
theorem zp_Mo_57 : ZFp vcl GT "MonitorQueuesModel" 57 7 18 true (.array .int) := ⟨_, T_Mo, 28, "MonitorQueuesModel", ty_Mo, rfl, by decide, in_Mo, gw_594, Or.inl rfl, zl_Mo, rfl, rfl, fun _ => rfl⟩
theorem zf_Mo_60 : ZF vcl GT "MonitorQueuesModel" 60 7 19 := ⟨_, T_Mo, 28, "MonitorQueuesModel", rfl, by decide, in_Mo, gw_595, Or.inl rfl⟩
theorem zp_Mo_60 : ZFp vcl GT "MonitorQueuesModel" 60 7 19 true (.array .boolean) := ⟨_, T_Mo, 28, "MonitorQueuesModel", ty_Mo, rfl, by decide, in_Mo, gw_595, Or.inl rfl, zl_Mo, rfl, rfl, fun _ => rfl⟩
theorem zf_Mo_90 : ZF vcl GT "MonitorQueuesModel" 90 7 20 := ⟨_, T_Mo, 28, "MonitorQueuesModel", rfl, by decide, in_Mo, gw_596, Or.inl rfl⟩
theorem zp_Mo_90 : ZFp vcl GT "MonitorQueuesModel" 90 7 20 false (.int) := ⟨_, T_Mo, 28, "MonitorQueuesModel", ty_Mo, rfl, by decide, in_Mo, gw_596, Or.inl rfl, zl_Mo, rfl, rfl, fun _ => by simp_all⟩
theorem zf_Mo_93 : ZF vcl GT "MonitorQueuesModel" 93 7 21 := ⟨_, T_Mo, 28, "MonitorQueuesModel", rfl, by decide, in_Mo, gw_597, Or.inl rfl⟩
theorem zp_Mo_93 : ZFp vcl GT "MonitorQueuesModel" 93 7 21 false (.int) := ⟨_, T_Mo, 28, "MonitorQueuesModel", ty_Mo, rfl, by decide, in_Mo, gw_597, Or.inl rfl, zl_Mo, rfl, rfl, fun _ => by simp_all⟩
theorem zf_Mo_112 : ZF vcl GT "MonitorQueuesModel" 112 7 22 := ⟨_, T_Mo, 28, "MonitorQueuesModel", rfl, by decide, in_Mo, gw_598, Or.inl rfl⟩
theorem zp_Mo_112 : ZFp vcl GT "MonitorQueuesModel" 112 7 22 false (.long) := ⟨_, T_Mo, 28, "MonitorQueuesModel", ty_Mo, rfl, by decide, in_Mo, gw_598, Or.inl rfl, zl_Mo, rfl, rfl, fun _ => by simp_all⟩
theorem zf_Mo_63 : ZF vcl GT "MonitorQueuesModel" 63 7 23 := ⟨_, T_Mo, 28, "MonitorQueuesModel", rfl, by decide, in_Mo, gw_599, Or.inl rfl⟩
theorem zp_Mo_63 : ZFp vcl GT "MonitorQueuesModel" 63 7 23 true (.array .int) := ⟨_, T_Mo, 28, "MonitorQueuesModel", ty_Mo, rfl, by decide, in_Mo, gw_599, Or.inl rfl, zl_Mo, rfl, rfl, fun _ => rfl⟩
theorem zf_Mo_66 : ZF vcl GT "MonitorQueuesModel" 66 7 24 := ⟨_, T_Mo, 28, "MonitorQueuesModel", rfl, by decide, in_Mo, gw_600, Or.inl rfl⟩
theorem zp_Mo_66 : ZFp vcl GT "MonitorQueuesModel" 66 7 24 true (.array .int) := ⟨_, T_Mo, 28, "MonitorQueuesModel", ty_Mo, rfl, by decide, in_Mo, gw_600, Or.inl rfl, zl_Mo, rfl, rfl, fun _ => rfl⟩
theorem zf_Mo_69 : ZF vcl GT "MonitorQueuesModel" 69 7 25 := ⟨_, T_Mo, 28, "MonitorQueuesModel", rfl, by decide, in_Mo, gw_601, Or.inl rfl⟩
theorem zp_Mo_69 : ZFp vcl GT "MonitorQueuesModel" 69 7 25 true (.array .long) := ⟨_, T_Mo, 28, "MonitorQueuesModel", ty_Mo, rfl, by decide, in_Mo, gw_601, Or.inl rfl, zl_Mo, rfl, rfl, fun _ => rfl⟩
theorem zf_Mo_153 : ZF vcl GT "MonitorQueuesModel" 153 7 26 := ⟨_, T_Mo, 28, "MonitorQueuesModel", rfl, by decide, in_Mo, gw_602, Or.inl rfl⟩
theorem zp_Mo_153 : ZFp vcl GT "MonitorQueuesModel" 153 7 26 false (.int) := ⟨_, T_Mo, 28, "MonitorQueuesModel", ty_Mo, rfl, by decide, in_Mo, gw_602, Or.inl rfl, zl_Mo, rfl, rfl, fun _ => by simp_all⟩
theorem zf_Mo_156 : ZF vcl GT "MonitorQueuesModel" 156 7 27 := ⟨_, T_Mo, 28, "MonitorQueuesModel", rfl, by decide, in_Mo, gw_603, Or.inl rfl⟩
theorem zp_Mo_156 : ZFp vcl GT "MonitorQueuesModel" 156 7 27 false (.int) := ⟨_, T_Mo, 28, "MonitorQueuesModel", ty_Mo, rfl, by decide, in_Mo, gw_603, Or.inl rfl, zl_Mo, rfl, rfl, fun _ => by simp_all⟩
theorem zi_La_21 : ZI GT "MonitorQueuesLaw" 21 y_MQ_init b_MQ_init 3 1 := ⟨gw_58, gw_59, gw_36, gw_60, rfl, by decide +kernel, by decide +kernel, by decide +kernel⟩
theorem zs_MQ_9 : ZS GT "MonitorQueues" 9 y_Ma_min b_Ma_min 2 (Option.some FieldType.int) 2 := ⟨gw_64, gw_65, gw_37, gw_66, by decide +kernel, by decide +kernel, by decide +kernel⟩
theorem zs_MQ_15 : ZS GT "MonitorQueues" 15 y_Ma_max b_Ma_max 2 (Option.some FieldType.int) 2 := ⟨gw_67, gw_68, gw_37, gw_69, by decide +kernel, by decide +kernel, by decide +kernel⟩
theorem zi_MQ_28 : ZI GT "MonitorQueues" 28 y_Qu_init b_Qu_init 1 0 := ⟨gw_73, gw_74, gw_38, gw_75, rfl, by decide +kernel, by decide +kernel, by decide +kernel⟩
theorem zi_Qu_11 : ZI GT "MonitorQueues$Queue" 11 y_AL_init b_AL_init 1 0 := ⟨gw_79, gw_80, gw_41, gw_81, rfl, by decide +kernel, by decide +kernel, by decide +kernel⟩
theorem zi_AL_1 : ZI GT "java/util/ArrayList" 1 y_AB_init b_AB_init 1 0 := ⟨gw_82, gw_83, gw_40, gw_84, rfl, by decide +kernel, by decide +kernel, by decide +kernel⟩
theorem zi_AB_1 : ZI GT "java/util/AbstractList" 1 y_AC_init b_AC_init 1 0 := ⟨gw_85, gw_86, gw_39, gw_87, rfl, by decide +kernel, by decide +kernel, by decide +kernel⟩
theorem zi_MQ_31 : ZI GT "MonitorQueues" 31 y_AL_init b_AL_init 1 0 := ⟨gw_144, gw_80, gw_41, gw_81, rfl, by decide +kernel, by decide +kernel, by decide +kernel⟩
theorem zv_La_29 : ZV GT "MonitorQueuesLaw" 29 "MonitorQueues" y_MQ_put b_MQ_put 8 (Option.some FieldType.int) 4 := ⟨gw_167, gw_168, gw_169, gw_36, gw_170, rfl, by decide +kernel, by decide +kernel, by decide +kernel⟩
theorem zv_MQ_39 : ZV GT "MonitorQueues" 39 "MonitorQueues" y_MQ_isQueue b_MQ_isQueue 2 (Option.some FieldType.boolean) 1 := ⟨gw_171, gw_173, gw_0, gw_36, gw_174, rfl, by decide +kernel, by decide +kernel, by decide +kernel⟩
theorem zv_MQ_43 : ZV GT "MonitorQueues" 43 "MonitorQueues$Queue" y_Qu_admits b_Qu_admits 2 (Option.some FieldType.boolean) 1 := ⟨gw_175, gw_176, gw_177, gw_38, gw_178, rfl, by decide +kernel, by decide +kernel, by decide +kernel⟩
theorem zs_Qu_26 : ZS GT "MonitorQueues$Queue" 26 y_Qu_isTransientKind b_Qu_isTransientKind 1 (Option.some FieldType.boolean) 1 := ⟨gw_179, gw_180, gw_38, gw_181, by decide +kernel, by decide +kernel, by decide +kernel⟩
theorem zv_MQ_46 : ZV GT "MonitorQueues" 46 "MonitorQueues$Queue" y_Qu_isLocked b_Qu_isLocked 1 (Option.some FieldType.boolean) 0 := ⟨gw_182, gw_183, gw_184, gw_38, gw_185, rfl, by decide +kernel, by decide +kernel, by decide +kernel⟩
theorem zv_MQ_53 : ZV GT "MonitorQueues" 53 "MonitorQueues" y_MQ_allItems b_MQ_allItems 3 (Option.some FieldType.int) 0 := ⟨gw_186, gw_188, gw_1, gw_36, gw_189, rfl, by decide +kernel, by decide +kernel, by decide +kernel⟩
theorem zv_MQ_151 : ZV GT "MonitorQueues" 151 "java/util/ArrayList" y_AL_size b_AL_size 1 (Option.some FieldType.int) 0 := ⟨gw_190, gw_191, gw_192, gw_41, gw_193, rfl, by decide +kernel, by decide +kernel, by decide +kernel⟩
theorem zv_MQ_61 : ZV GT "MonitorQueues" 61 "MonitorQueues$Queue" y_Qu_touch b_Qu_touch 3 none 1 := ⟨gw_194, gw_195, gw_196, gw_38, gw_197, rfl, by decide +kernel, by decide +kernel, by decide +kernel⟩
theorem zv_MQ_65 : ZV GT "MonitorQueues" 65 "MonitorQueues$Queue" y_Qu_append b_Qu_append 5 (Option.some FieldType.int) 3 := ⟨gw_198, gw_199, gw_200, gw_38, gw_201, rfl, by decide +kernel, by decide +kernel, by decide +kernel⟩
theorem zi_Qu_47 : ZI GT "MonitorQueues$Queue" 47 y_It_init b_It_init 3 1 := ⟨gw_204, gw_205, gw_43, gw_206, rfl, by decide +kernel, by decide +kernel, by decide +kernel⟩
theorem zv_Qu_50 : ZV GT "MonitorQueues$Queue" 50 "java/util/ArrayList" y_AL_add b_AL_add 2 (Option.some FieldType.boolean) 1 := ⟨gw_214, gw_215, gw_216, gw_41, gw_217, rfl, by decide +kernel, by decide +kernel, by decide +kernel⟩
theorem zv_AL_131 : ZV GT "java/util/ArrayList" 131 "java/util/ArrayList" y_AL_add2 b_AL_add2 4 none 3 := ⟨gw_218, gw_220, gw_2, gw_41, gw_221, rfl, by decide +kernel, by decide +kernel, by decide +kernel⟩
theorem zv_AL_129 : ZV GT "java/util/ArrayList" 129 "java/util/ArrayList" y_AL_grow b_AL_grow 1 (Option.some (FieldType.array (FieldType.object "java/lang/Object"))) 0 := ⟨gw_222, gw_224, gw_3, gw_41, gw_225, rfl, by decide +kernel, by decide +kernel, by decide +kernel⟩
theorem zv_AL_69 : ZV GT "java/util/ArrayList" 69 "java/util/ArrayList" y_AL_grow2 b_AL_grow2 4 (Option.some (FieldType.array (FieldType.object "java/lang/Object"))) 1 := ⟨gw_226, gw_228, gw_4, gw_41, gw_229, rfl, by decide +kernel, by decide +kernel, by decide +kernel⟩
theorem zs_AL_73 : ZS GT "java/util/ArrayList" 73 y_AS_newLength b_AS_newLength 4 (Option.some FieldType.int) 3 := ⟨gw_230, gw_231, gw_44, gw_232, by decide +kernel, by decide +kernel, by decide +kernel⟩
theorem zs_AS_194 : ZS GT "jdk/internal/util/ArraysSupport" 194 y_Ma_max b_Ma_max 2 (Option.some FieldType.int) 2 := ⟨gw_233, gw_68, gw_37, gw_69, by decide +kernel, by decide +kernel, by decide +kernel⟩
theorem zs_AS_201 : ZS GT "jdk/internal/util/ArraysSupport" 201 y_AS_hugeLength b_AS_hugeLength 3 (Option.some FieldType.int) 2 := ⟨gw_235, gw_236, gw_44, gw_237, by decide +kernel, by decide +kernel, by decide +kernel⟩
theorem zs_AL_66 : ZS GT "java/util/ArrayList" 66 y_Ar_copyOf b_Ar_copyOf 2 (Option.some (FieldType.array (FieldType.object "java/lang/Object"))) 2 := ⟨gw_238, gw_239, gw_45, gw_240, by decide +kernel, by decide +kernel, by decide +kernel⟩
theorem zs_Ar_300 : ZS GT "java/util/Arrays" 300 y_Ar_copyOf2 b_Ar_copyOf2 4 (Option.some (FieldType.array (FieldType.object "java/lang/Object"))) 3 := ⟨gw_254, gw_255, gw_45, gw_256, by decide +kernel, by decide +kernel, by decide +kernel⟩
theorem zs_Ar_304 : ZS GT "java/util/Arrays" 304 y_Ma_min b_Ma_min 2 (Option.some FieldType.int) 2 := ⟨gw_260, gw_65, gw_37, gw_66, by decide +kernel, by decide +kernel, by decide +kernel⟩
theorem zs_AL_79 : ZS GT "java/util/ArrayList" 79 y_Ma_max b_Ma_max 2 (Option.some FieldType.int) 2 := ⟨gw_264, gw_68, gw_37, gw_69, by decide +kernel, by decide +kernel, by decide +kernel⟩
theorem zs_Qu_54 : ZS GT "MonitorQueues$Queue" 54 y_Qu_isProtectedKind b_Qu_isProtectedKind 1 (Option.some FieldType.boolean) 1 := ⟨gw_266, gw_267, gw_38, gw_268, by decide +kernel, by decide +kernel, by decide +kernel⟩
theorem zv_Qu_60 : ZV GT "MonitorQueues$Queue" 60 "MonitorQueues$Queue" y_Qu_isTransient b_Qu_isTransient 1 (Option.some FieldType.boolean) 0 := ⟨gw_269, gw_270, gw_271, gw_38, gw_272, rfl, by decide +kernel, by decide +kernel, by decide +kernel⟩
theorem zv_Qu_33 : ZV GT "MonitorQueues$Queue" 33 "java/util/ArrayList" y_AL_size b_AL_size 1 (Option.some FieldType.int) 0 := ⟨gw_273, gw_191, gw_192, gw_41, gw_193, rfl, by decide +kernel, by decide +kernel, by decide +kernel⟩
theorem zv_MQ_69 : ZV GT "MonitorQueues" 69 "MonitorQueues" y_MQ_lookAtTriggers b_MQ_lookAtTriggers 3 none 0 := ⟨gw_274, gw_276, gw_5, gw_36, gw_277, rfl, by decide +kernel, by decide +kernel, by decide +kernel⟩
theorem zv_MQ_117 : ZV GT "MonitorQueues" 117 "MonitorQueues$Queue" y_Qu_standing b_Qu_standing 1 (Option.some FieldType.int) 0 := ⟨gw_278, gw_279, gw_280, gw_38, gw_281, rfl, by decide +kernel, by decide +kernel, by decide +kernel⟩
theorem zv_MQ_205 : ZV GT "MonitorQueues" 205 "MonitorQueues" y_MQ_look b_MQ_look 3 none 2 := ⟨gw_282, gw_284, gw_6, gw_36, gw_285, rfl, by decide +kernel, by decide +kernel, by decide +kernel⟩
theorem zv_MQ_215 : ZV GT "MonitorQueues" 215 "MonitorQueues" y_MQ_beginFor b_MQ_beginFor 2 (Option.some FieldType.int) 1 := ⟨gw_286, gw_288, gw_7, gw_36, gw_289, rfl, by decide +kernel, by decide +kernel, by decide +kernel⟩
theorem zv_MQ_196 : ZV GT "MonitorQueues" 196 "MonitorQueues" y_MQ_begin b_MQ_begin 2 (Option.some FieldType.int) 1 := ⟨gw_290, gw_292, gw_8, gw_36, gw_293, rfl, by decide +kernel, by decide +kernel, by decide +kernel⟩
theorem zi_MQ_188 : ZI GT "MonitorQueues" 188 y_Ta_init b_Ta_init 2 1 := ⟨gw_296, gw_297, gw_47, gw_298, rfl, by decide +kernel, by decide +kernel, by decide +kernel⟩
theorem zv_MQ_191 : ZV GT "MonitorQueues" 191 "java/util/ArrayList" y_AL_add b_AL_add 2 (Option.some FieldType.boolean) 1 := ⟨gw_309, gw_215, gw_216, gw_41, gw_217, rfl, by decide +kernel, by decide +kernel, by decide +kernel⟩
theorem zv_La_42 : ZV GT "MonitorQueuesLaw" 42 "MonitorQueues" y_MQ_next b_MQ_next 5 (Option.some FieldType.int) 2 := ⟨gw_310, gw_311, gw_312, gw_36, gw_313, rfl, by decide +kernel, by decide +kernel, by decide +kernel⟩
theorem zv_MQ_107 : ZV GT "MonitorQueues" 107 "MonitorQueues$Queue" y_Qu_isTransient b_Qu_isTransient 1 (Option.some FieldType.boolean) 0 := ⟨gw_314, gw_270, gw_271, gw_38, gw_272, rfl, by decide +kernel, by decide +kernel, by decide +kernel⟩
theorem zv_MQ_82 : ZV GT "MonitorQueues" 82 "MonitorQueues$Queue" y_Qu_holds b_Qu_holds 2 (Option.some FieldType.boolean) 1 := ⟨gw_315, gw_316, gw_317, gw_38, gw_318, rfl, by decide +kernel, by decide +kernel, by decide +kernel⟩
theorem zv_La_47 : ZV GT "MonitorQueuesLaw" 47 "MonitorQueues" y_MQ_take b_MQ_take 4 (Option.some FieldType.int) 1 := ⟨gw_319, gw_320, gw_321, gw_36, gw_322, rfl, by decide +kernel, by decide +kernel, by decide +kernel⟩
theorem zv_MQ_79 : ZV GT "MonitorQueues" 79 "MonitorQueues$Queue" y_Qu_isTemporary b_Qu_isTemporary 1 (Option.some FieldType.boolean) 0 := ⟨gw_323, gw_324, gw_325, gw_38, gw_326, rfl, by decide +kernel, by decide +kernel, by decide +kernel⟩
theorem zv_MQ_114 : ZV GT "MonitorQueues" 114 "java/util/ArrayList" y_AL_isEmpty b_AL_isEmpty 1 (Option.some FieldType.boolean) 0 := ⟨gw_327, gw_328, gw_329, gw_41, gw_330, rfl, by decide +kernel, by decide +kernel, by decide +kernel⟩
theorem zv_MQ_120 : ZV GT "MonitorQueues" 120 "MonitorQueues$Queue" y_Qu_removeFirst b_Qu_removeFirst 1 (Option.some FieldType.int) 0 := ⟨gw_331, gw_332, gw_333, gw_38, gw_334, rfl, by decide +kernel, by decide +kernel, by decide +kernel⟩
theorem zv_Qu_67 : ZV GT "MonitorQueues$Queue" 67 "java/util/ArrayList" y_AL_isEmpty b_AL_isEmpty 1 (Option.some FieldType.boolean) 0 := ⟨gw_335, gw_328, gw_329, gw_41, gw_330, rfl, by decide +kernel, by decide +kernel, by decide +kernel⟩
theorem zv_Qu_73 : ZV GT "MonitorQueues$Queue" 73 "java/util/ArrayList" y_AL_get b_AL_get 2 (Option.some (FieldType.object "java/lang/Object")) 1 := ⟨gw_336, gw_337, gw_338, gw_41, gw_339, rfl, by decide +kernel, by decide +kernel, by decide +kernel⟩
theorem zs_AL_118 : ZS GT "java/util/ArrayList" 118 y_Ob_checkIndex b_Ob_checkIndex 2 (Option.some FieldType.int) 2 := ⟨gw_340, gw_341, gw_52, gw_342, by decide +kernel, by decide +kernel, by decide +kernel⟩
theorem zs_Ob_105 : ZS GT "java/util/Objects" 105 y_Pr_checkIndex b_Pr_checkIndex 3 (Option.some FieldType.int) 3 := ⟨gw_343, gw_344, gw_53, gw_345, by decide +kernel, by decide +kernel, by decide +kernel⟩
theorem zv_AL_123 : ZV GT "java/util/ArrayList" 123 "java/util/ArrayList" y_AL_elementData b_AL_elementData 2 (Option.some (FieldType.object "java/lang/Object")) 1 := ⟨gw_346, gw_347, gw_348, gw_41, gw_349, rfl, by decide +kernel, by decide +kernel, by decide +kernel⟩
theorem zv_Qu_83 : ZV GT "MonitorQueues$Queue" 83 "java/util/ArrayList" y_AL_remove b_AL_remove 4 (Option.some (FieldType.object "java/lang/Object")) 1 := ⟨gw_350, gw_351, gw_352, gw_41, gw_353, rfl, by decide +kernel, by decide +kernel, by decide +kernel⟩
theorem zv_AL_144 : ZV GT "java/util/ArrayList" 144 "java/util/ArrayList" y_AL_fastRemove b_AL_fastRemove 4 none 2 := ⟨gw_354, gw_356, gw_9, gw_41, gw_357, rfl, by decide +kernel, by decide +kernel, by decide +kernel⟩
theorem zv_Qu_92 : ZV GT "MonitorQueues$Queue" 92 "MonitorQueues$Queue" y_Qu_becomeEmpty b_Qu_becomeEmpty 1 none 0 := ⟨gw_359, gw_360, gw_361, gw_38, gw_362, rfl, by decide +kernel, by decide +kernel, by decide +kernel⟩
theorem zv_Qu_99 : ZV GT "MonitorQueues$Queue" 99 "java/util/ArrayList" y_AL_clear b_AL_clear 4 none 0 := ⟨gw_363, gw_364, gw_365, gw_41, gw_366, rfl, by decide +kernel, by decide +kernel, by decide +kernel⟩
theorem zs_Qu_102 : ZS GT "MonitorQueues$Queue" 102 y_Ar_fill b_Ar_fill 4 none 2 := ⟨gw_367, gw_368, gw_45, gw_369, by decide +kernel, by decide +kernel, by decide +kernel⟩
theorem zv_La_52 : ZV GT "MonitorQueuesLaw" 52 "MonitorQueues" y_MQ_trigger b_MQ_trigger 5 (Option.some FieldType.int) 3 := ⟨gw_370, gw_371, gw_372, gw_36, gw_373, rfl, by decide +kernel, by decide +kernel, by decide +kernel⟩
theorem zi_MQ_125 : ZI GT "MonitorQueues" 125 y_Tr_init b_Tr_init 3 2 := ⟨gw_376, gw_377, gw_54, gw_378, rfl, by decide +kernel, by decide +kernel, by decide +kernel⟩
theorem zv_La_57 : ZV GT "MonitorQueuesLaw" 57 "MonitorQueues" y_MQ_started b_MQ_started 2 (Option.some FieldType.int) 1 := ⟨gw_400, gw_401, gw_402, gw_36, gw_403, rfl, by decide +kernel, by decide +kernel, by decide +kernel⟩
theorem zv_MQ_132 : ZV GT "MonitorQueues" 132 "MonitorQueues" y_MQ_isTask b_MQ_isTask 2 (Option.some FieldType.boolean) 1 := ⟨gw_404, gw_406, gw_10, gw_36, gw_407, rfl, by decide +kernel, by decide +kernel, by decide +kernel⟩
theorem zv_MQ_90 : ZV GT "MonitorQueues" 90 "java/util/ArrayList" y_AL_get b_AL_get 2 (Option.some (FieldType.object "java/lang/Object")) 1 := ⟨gw_408, gw_337, gw_338, gw_41, gw_339, rfl, by decide +kernel, by decide +kernel, by decide +kernel⟩
theorem zv_La_61 : ZV GT "MonitorQueuesLaw" 61 "MonitorQueues" y_MQ_end b_MQ_end 4 (Option.some FieldType.int) 1 := ⟨gw_409, gw_410, gw_411, gw_36, gw_412, rfl, by decide +kernel, by decide +kernel, by decide +kernel⟩
theorem zv_MQ_147 : ZV GT "MonitorQueues" 147 "MonitorQueues" y_MQ_beginAgain b_MQ_beginAgain 5 (Option.some FieldType.int) 1 := ⟨gw_413, gw_415, gw_11, gw_36, gw_416, rfl, by decide +kernel, by decide +kernel, by decide +kernel⟩
theorem zv_La_65 : ZV GT "MonitorQueuesLaw" 65 "MonitorQueues" y_MQ_rewrite b_MQ_rewrite 6 (Option.some FieldType.int) 3 := ⟨gw_417, gw_418, gw_419, gw_36, gw_420, rfl, by decide +kernel, by decide +kernel, by decide +kernel⟩
theorem zv_La_70 : ZV GT "MonitorQueuesLaw" 70 "MonitorQueues" y_MQ_delay b_MQ_delay 4 (Option.some FieldType.int) 2 := ⟨gw_422, gw_423, gw_424, gw_36, gw_425, rfl, by decide +kernel, by decide +kernel, by decide +kernel⟩
theorem zi_MQ_159 : ZI GT "MonitorQueues" 159 y_De_init b_De_init 5 3 := ⟨gw_428, gw_429, gw_55, gw_430, rfl, by decide +kernel, by decide +kernel, by decide +kernel⟩
theorem zv_MQ_162 : ZV GT "MonitorQueues" 162 "MonitorQueues" y_MQ_keepWaiting b_MQ_keepWaiting 3 none 1 := ⟨gw_445, gw_447, gw_12, gw_36, gw_448, rfl, by decide +kernel, by decide +kernel, by decide +kernel⟩
theorem zv_MQ_222 : ZV GT "MonitorQueues" 222 "java/util/ArrayList" y_AL_add3 b_AL_add3 5 none 2 := ⟨gw_449, gw_450, gw_451, gw_41, gw_452, rfl, by decide +kernel, by decide +kernel, by decide +kernel⟩
theorem zv_AL_135 : ZV GT "java/util/ArrayList" 135 "java/util/ArrayList" y_AL_rangeCheckForAdd b_AL_rangeCheckForAdd 2 none 1 := ⟨gw_453, gw_455, gw_13, gw_41, gw_456, rfl, by decide +kernel, by decide +kernel, by decide +kernel⟩
theorem zv_MQ_166 : ZV GT "MonitorQueues" 166 "MonitorQueues" y_MQ_postDue b_MQ_postDue 2 (Option.some FieldType.int) 0 := ⟨gw_457, gw_459, gw_14, gw_36, gw_460, rfl, by decide +kernel, by decide +kernel, by decide +kernel⟩
theorem zv_MQ_172 : ZV GT "MonitorQueues" 172 "java/util/ArrayList" y_AL_remove b_AL_remove 4 (Option.some (FieldType.object "java/lang/Object")) 1 := ⟨gw_461, gw_351, gw_352, gw_41, gw_353, rfl, by decide +kernel, by decide +kernel, by decide +kernel⟩
theorem zv_La_75 : ZV GT "MonitorQueuesLaw" 75 "MonitorQueues" y_MQ_cancel b_MQ_cancel 3 (Option.some FieldType.int) 1 := ⟨gw_462, gw_463, gw_464, gw_36, gw_465, rfl, by decide +kernel, by decide +kernel, by decide +kernel⟩
theorem zv_La_79 : ZV GT "MonitorQueuesLaw" 79 "MonitorQueues" y_MQ_tick b_MQ_tick 3 (Option.some FieldType.int) 1 := ⟨gw_466, gw_467, gw_468, gw_36, gw_469, rfl, by decide +kernel, by decide +kernel, by decide +kernel⟩
theorem zv_La_84 : ZV GT "MonitorQueuesLaw" 84 "MonitorQueues" y_MQ_unit b_MQ_unit 6 (Option.some FieldType.int) 2 := ⟨gw_470, gw_471, gw_472, gw_36, gw_473, rfl, by decide +kernel, by decide +kernel, by decide +kernel⟩
theorem zv_MQ_175 : ZV GT "MonitorQueues" 175 "MonitorQueues$Queue" y_Qu_endPending b_Qu_endPending 3 (Option.some FieldType.int) 1 := ⟨gw_474, gw_475, gw_476, gw_38, gw_477, rfl, by decide +kernel, by decide +kernel, by decide +kernel⟩
theorem zv_Qu_95 : ZV GT "MonitorQueues$Queue" 95 "MonitorQueues$Queue" y_Qu_dropLast b_Qu_dropLast 3 none 1 := ⟨gw_478, gw_479, gw_480, gw_38, gw_481, rfl, by decide +kernel, by decide +kernel, by decide +kernel⟩
theorem zv_La_89 : ZV GT "MonitorQueuesLaw" 89 "MonitorQueues" y_MQ_age b_MQ_age 6 (Option.some FieldType.int) 1 := ⟨gw_482, gw_483, gw_484, gw_36, gw_485, rfl, by decide +kernel, by decide +kernel, by decide +kernel⟩
theorem zv_MQ_182 : ZV GT "MonitorQueues" 182 "MonitorQueues$Queue" y_Qu_becomeEmpty b_Qu_becomeEmpty 1 none 0 := ⟨gw_486, gw_360, gw_361, gw_38, gw_362, rfl, by decide +kernel, by decide +kernel, by decide +kernel⟩
theorem zv_La_93 : ZV GT "MonitorQueuesLaw" 93 "MonitorQueues" y_MQ_count b_MQ_count 2 (Option.some FieldType.int) 1 := ⟨gw_487, gw_488, gw_489, gw_36, gw_490, rfl, by decide +kernel, by decide +kernel, by decide +kernel⟩
theorem zs_La_15 : ZS GT "MonitorQueuesLaw" 15 y_La_cell b_La_cell 2 (Option.some FieldType.int) 2 := ⟨gw_491, gw_492, gw_35, gw_493, by decide +kernel, by decide +kernel, by decide +kernel⟩
theorem zv_La_7 : ZV GT "MonitorQueuesLaw" 7 "MonitorQueues" y_MQ_get b_MQ_get 4 (Option.some FieldType.long) 2 := ⟨gw_498, gw_499, gw_500, gw_36, gw_501, rfl, by decide +kernel, by decide +kernel, by decide +kernel⟩
theorem zi_MQ_76 : ZI GT "MonitorQueues" 76 y_Ne_init b_Ne_init 2 1 := ⟨gw_542, gw_543, gw_51, gw_544, rfl, by decide +kernel, by decide +kernel, by decide +kernel⟩
theorem zi_Ne_13 : ZI GT "java/util/NoSuchElementException" 13 y_Re_init b_Re_init 2 1 := ⟨gw_545, gw_546, gw_50, gw_547, rfl, by decide +kernel, by decide +kernel, by decide +kernel⟩
theorem zi_Re_7 : ZI GT "java/lang/RuntimeException" 7 y_Ex_init b_Ex_init 2 1 := ⟨gw_548, gw_549, gw_49, gw_550, rfl, by decide +kernel, by decide +kernel, by decide +kernel⟩
theorem zi_Ex_7 : ZI GT "java/lang/Exception" 7 y_Th_init2 b_Th_init2 2 1 := ⟨gw_551, gw_552, gw_48, gw_553, rfl, by decide +kernel, by decide +kernel, by decide +kernel⟩
theorem zi_La_26 : ZI GT "MonitorQueuesLaw" 26 y_Mo_init b_Mo_init 3 1 := ⟨gw_572, gw_573, gw_42, gw_574, rfl, by decide +kernel, by decide +kernel, by decide +kernel⟩
theorem zv_La_38 : ZV GT "MonitorQueuesLaw" 38 "MonitorQueuesModel" y_Mo_thrown b_Mo_thrown 1 (Option.some FieldType.int) 0 := ⟨gw_663, gw_664, gw_665, gw_42, gw_666, rfl, by decide +kernel, by decide +kernel, by decide +kernel⟩
theorem zv_La_33 : ZV GT "MonitorQueuesLaw" 33 "MonitorQueuesModel" y_Mo_put b_Mo_put 6 (Option.some FieldType.int) 4 := ⟨gw_667, gw_668, gw_669, gw_42, gw_670, rfl, by decide +kernel, by decide +kernel, by decide +kernel⟩
theorem zv_Mo_116 : ZV GT "MonitorQueuesModel" 116 "MonitorQueuesModel" y_Mo_putting b_Mo_putting 7 (Option.some FieldType.int) 4 := ⟨gw_671, gw_673, gw_16, gw_42, gw_674, rfl, by decide +kernel, by decide +kernel, by decide +kernel⟩
theorem zs_Mo_105 : ZS GT "MonitorQueuesModel" 105 y_Mo_isQueue b_Mo_isQueue 1 (Option.some FieldType.boolean) 1 := ⟨gw_675, gw_676, gw_42, gw_677, by decide +kernel, by decide +kernel, by decide +kernel⟩
theorem zv_Mo_109 : ZV GT "MonitorQueuesModel" 109 "MonitorQueuesModel" y_Mo_lockOf b_Mo_lockOf 4 (Option.some FieldType.int) 1 := ⟨gw_678, gw_680, gw_17, gw_42, gw_681, rfl, by decide +kernel, by decide +kernel, by decide +kernel⟩
theorem zv_Mo_82 : ZV GT "MonitorQueuesModel" 82 "MonitorQueuesModel" y_Mo_many b_Mo_many 4 (Option.some FieldType.int) 1 := ⟨gw_682, gw_684, gw_18, gw_42, gw_685, rfl, by decide +kernel, by decide +kernel, by decide +kernel⟩
theorem zv_Mo_120 : ZV GT "MonitorQueuesModel" 120 "MonitorQueuesModel" y_Mo_answer b_Mo_answer 2 (Option.some FieldType.int) 1 := ⟨gw_686, gw_688, gw_19, gw_42, gw_689, rfl, by decide +kernel, by decide +kernel, by decide +kernel⟩
theorem zv_Mo_102 : ZV GT "MonitorQueuesModel" 102 "MonitorQueuesModel" y_Mo_look b_Mo_look 3 none 0 := ⟨gw_690, gw_692, gw_20, gw_42, gw_693, rfl, by decide +kernel, by decide +kernel, by decide +kernel⟩
theorem zv_Mo_96 : ZV GT "MonitorQueuesModel" 96 "MonitorQueuesModel" y_Mo_standing b_Mo_standing 4 (Option.some FieldType.int) 1 := ⟨gw_694, gw_696, gw_21, gw_42, gw_697, rfl, by decide +kernel, by decide +kernel, by decide +kernel⟩
theorem zv_Mo_99 : ZV GT "MonitorQueuesModel" 99 "MonitorQueuesModel" y_Mo_task b_Mo_task 2 (Option.some FieldType.int) 1 := ⟨gw_698, gw_700, gw_22, gw_42, gw_701, rfl, by decide +kernel, by decide +kernel, by decide +kernel⟩
theorem zv_La_37 : ZV GT "MonitorQueuesLaw" 37 "MonitorQueuesModel" y_Mo_get b_Mo_get 4 (Option.some FieldType.long) 2 := ⟨gw_702, gw_703, gw_704, gw_42, gw_705, rfl, by decide +kernel, by decide +kernel, by decide +kernel⟩
theorem zv_Mo_123 : ZV GT "MonitorQueuesModel" 123 "MonitorQueuesModel" y_Mo_isTemporary b_Mo_isTemporary 2 (Option.some FieldType.boolean) 1 := ⟨gw_706, gw_708, gw_23, gw_42, gw_709, rfl, by decide +kernel, by decide +kernel, by decide +kernel⟩
theorem zv_Mo_126 : ZV GT "MonitorQueuesModel" 126 "MonitorQueuesModel" y_Mo_placeOf b_Mo_placeOf 5 (Option.some FieldType.int) 2 := ⟨gw_710, gw_712, gw_24, gw_42, gw_713, rfl, by decide +kernel, by decide +kernel, by decide +kernel⟩
theorem zv_La_46 : ZV GT "MonitorQueuesLaw" 46 "MonitorQueuesModel" y_Mo_next b_Mo_next 3 (Option.some FieldType.int) 2 := ⟨gw_714, gw_715, gw_716, gw_42, gw_717, rfl, by decide +kernel, by decide +kernel, by decide +kernel⟩
theorem zv_Mo_133 : ZV GT "MonitorQueuesModel" 133 "MonitorQueuesModel" y_Mo_nexting b_Mo_nexting 4 (Option.some FieldType.int) 2 := ⟨gw_718, gw_720, gw_25, gw_42, gw_721, rfl, by decide +kernel, by decide +kernel, by decide +kernel⟩
theorem zv_Mo_130 : ZV GT "MonitorQueuesModel" 130 "MonitorQueuesModel" y_Mo_isTransient b_Mo_isTransient 2 (Option.some FieldType.boolean) 1 := ⟨gw_722, gw_724, gw_26, gw_42, gw_725, rfl, by decide +kernel, by decide +kernel, by decide +kernel⟩
theorem zv_La_51 : ZV GT "MonitorQueuesLaw" 51 "MonitorQueuesModel" y_Mo_take b_Mo_take 2 (Option.some FieldType.int) 1 := ⟨gw_726, gw_727, gw_728, gw_42, gw_729, rfl, by decide +kernel, by decide +kernel, by decide +kernel⟩
theorem zv_Mo_139 : ZV GT "MonitorQueuesModel" 139 "MonitorQueuesModel" y_Mo_taking b_Mo_taking 3 (Option.some FieldType.int) 1 := ⟨gw_730, gw_732, gw_27, gw_42, gw_733, rfl, by decide +kernel, by decide +kernel, by decide +kernel⟩
theorem zv_Mo_136 : ZV GT "MonitorQueuesModel" 136 "MonitorQueuesModel" y_Mo_remove b_Mo_remove 4 none 1 := ⟨gw_734, gw_736, gw_28, gw_42, gw_737, rfl, by decide +kernel, by decide +kernel, by decide +kernel⟩
theorem zv_Mo_86 : ZV GT "MonitorQueuesModel" 86 "MonitorQueuesModel" y_Mo_emptied b_Mo_emptied 3 none 1 := ⟨gw_738, gw_740, gw_29, gw_42, gw_741, rfl, by decide +kernel, by decide +kernel, by decide +kernel⟩
theorem zv_La_56 : ZV GT "MonitorQueuesLaw" 56 "MonitorQueuesModel" y_Mo_trigger b_Mo_trigger 4 (Option.some FieldType.int) 3 := ⟨gw_742, gw_743, gw_744, gw_42, gw_745, rfl, by decide +kernel, by decide +kernel, by decide +kernel⟩
theorem zv_Mo_142 : ZV GT "MonitorQueuesModel" 142 "MonitorQueuesModel" y_Mo_triggers b_Mo_triggers 4 (Option.some FieldType.int) 3 := ⟨gw_746, gw_748, gw_30, gw_42, gw_749, rfl, by decide +kernel, by decide +kernel, by decide +kernel⟩
theorem zv_La_60 : ZV GT "MonitorQueuesLaw" 60 "MonitorQueuesModel" y_Mo_started b_Mo_started 2 (Option.some FieldType.int) 1 := ⟨gw_750, gw_751, gw_752, gw_42, gw_753, rfl, by decide +kernel, by decide +kernel, by decide +kernel⟩
theorem zv_La_64 : ZV GT "MonitorQueuesLaw" 64 "MonitorQueuesModel" y_Mo_end b_Mo_end 2 (Option.some FieldType.int) 1 := ⟨gw_754, gw_755, gw_756, gw_42, gw_757, rfl, by decide +kernel, by decide +kernel, by decide +kernel⟩
theorem zv_Mo_146 : ZV GT "MonitorQueuesModel" 146 "MonitorQueuesModel" y_Mo_ending b_Mo_ending 4 (Option.some FieldType.int) 1 := ⟨gw_758, gw_760, gw_31, gw_42, gw_761, rfl, by decide +kernel, by decide +kernel, by decide +kernel⟩
theorem zv_La_69 : ZV GT "MonitorQueuesLaw" 69 "MonitorQueuesModel" y_Mo_rewrite b_Mo_rewrite 5 (Option.some FieldType.int) 3 := ⟨gw_762, gw_763, gw_764, gw_42, gw_765, rfl, by decide +kernel, by decide +kernel, by decide +kernel⟩
theorem zv_Mo_149 : ZV GT "MonitorQueuesModel" 149 "MonitorQueuesModel" y_Mo_rewriting b_Mo_rewriting 6 (Option.some FieldType.int) 3 := ⟨gw_766, gw_768, gw_32, gw_42, gw_769, rfl, by decide +kernel, by decide +kernel, by decide +kernel⟩
theorem zv_La_74 : ZV GT "MonitorQueuesLaw" 74 "MonitorQueuesModel" y_Mo_delay b_Mo_delay 4 (Option.some FieldType.int) 2 := ⟨gw_770, gw_771, gw_772, gw_42, gw_773, rfl, by decide +kernel, by decide +kernel, by decide +kernel⟩
theorem zv_La_78 : ZV GT "MonitorQueuesLaw" 78 "MonitorQueuesModel" y_Mo_cancel b_Mo_cancel 4 (Option.some FieldType.int) 1 := ⟨gw_774, gw_775, gw_776, gw_42, gw_777, rfl, by decide +kernel, by decide +kernel, by decide +kernel⟩
theorem zv_Mo_159 : ZV GT "MonitorQueuesModel" 159 "MonitorQueuesModel" y_Mo_drop b_Mo_drop 3 none 1 := ⟨gw_778, gw_780, gw_33, gw_42, gw_781, rfl, by decide +kernel, by decide +kernel, by decide +kernel⟩
theorem zv_La_83 : ZV GT "MonitorQueuesLaw" 83 "MonitorQueuesModel" y_Mo_tick b_Mo_tick 7 (Option.some FieldType.int) 1 := ⟨gw_782, gw_783, gw_784, gw_42, gw_785, rfl, by decide +kernel, by decide +kernel, by decide +kernel⟩
theorem zv_La_88 : ZV GT "MonitorQueuesLaw" 88 "MonitorQueuesModel" y_Mo_unit b_Mo_unit 3 (Option.some FieldType.int) 2 := ⟨gw_786, gw_787, gw_788, gw_42, gw_789, rfl, by decide +kernel, by decide +kernel, by decide +kernel⟩
theorem zv_Mo_162 : ZV GT "MonitorQueuesModel" 162 "MonitorQueuesModel" y_Mo_unitEnds b_Mo_unitEnds 6 (Option.some FieldType.int) 2 := ⟨gw_790, gw_792, gw_34, gw_42, gw_793, rfl, by decide +kernel, by decide +kernel, by decide +kernel⟩
theorem zv_La_92 : ZV GT "MonitorQueuesLaw" 92 "MonitorQueuesModel" y_Mo_age b_Mo_age 5 (Option.some FieldType.int) 1 := ⟨gw_794, gw_795, gw_796, gw_42, gw_797, rfl, by decide +kernel, by decide +kernel, by decide +kernel⟩
theorem zv_La_96 : ZV GT "MonitorQueuesLaw" 96 "MonitorQueuesModel" y_Mo_count b_Mo_count 2 (Option.some FieldType.int) 1 := ⟨gw_798, gw_799, gw_800, gw_42, gw_801, rfl, by decide +kernel, by decide +kernel, by decide +kernel⟩
end
section
def zcopy (vs0 vs1 : List Value) (sp dp n : Nat) : List Value := (List.range vs1.length).map (fun j => if dp ≤ j ∧ j < dp + n then vs0.getD (sp + (j - dp)) .null else vs1.getD j .null)
theorem zcopy_len (vs0 vs1 : List Value) (sp dp n : Nat) : (zcopy vs0 vs1 sp dp n).length = vs1.length := by simp [zcopy]
theorem zarrV_congr {c : ClassId} {N : Nat} {f f' : Nat → Value} (h : ∀ j, j < N → f j = f' j) : arrV c N f = arrV c N f' := by
  unfold arrV
  congr 1
  apply Array.ext
  · simp
  · intro i h1 h2
    simp only [Array.getElem_ofFn]
    exact h i (by simpa using h1)
theorem zcopied (c0 c1 : ClassId) (vs0 vs1 : List Value) {sp dp n : Nat} (hs : sp + n ≤ vs0.length) : (zarr c1 vs1).storeRun dp ((zarr c0 vs0).stretch sp n) = zarr c1 (zcopy vs0 vs1 sp dp n) := by
  rw [zarr_arrV c1 vs1, zarr_arrV c0 vs0, zarr_arrV c1 (zcopy vs0 vs1 sp dp n), zcopy_len]
  refine (va_copied (fun v : Value => v) c0 c1 (fun j => vs0.getD j .null) (fun j => vs1.getD j .null) hs).trans (zarrV_congr fun j hj => ?_)
  simp only [va_cpy, zcopy, List.getD_eq_getElem?_getD, List.getElem?_map]
  rw [List.getElem?_range hj]
  rfl
theorem znn (z : Nat) (h : z < 2 ^ 31) : (nI z).toInt = (z : Int) := nI_toInt h
section ZJ
variable {cl : List vw_C} {tl : List FieldType} {Ts : List Cond} {own : String} {cc : ByteArray} {nL : Nat} {ret : Option FieldType} {nm : String} {R : Room} {g : ZG} {k : ZK} {post : Option Value → ZM → Prop} {L L' : List (Option Value)} {pc : Nat} {st : List Value} {M : ZM} {n1 n2 : Nat}
def zElems (cl : List vw_C) (M : ZM) (vs : List Value) : Prop := ∀ v ∈ vs, v = .null ∨ ∃ (b ci : Nat) (fs : List Value) (r : vw_C), v = .ref b ∧ M b = some (.inr (ci, fs)) ∧ cl[ci]? = some r ∧ (r.1, "java/lang/Object") ∈ zCa
theorem z_copy {a0 a1 ix sp dp n : Nat} {vs0 vs1 : List Value} (hd : decode cc pc = .ok (.invokestatic ix, 3)) (hlk : Cond.methodLink own ix arraycopyName ∈ Ts) (hnat : Cond.native arraycopyName ∈ Ts) (hstat : Cond.static arraycopyName ∈ Ts) (hini : Cond.initialized "java/lang/System" ∈ Ts) (ht : tl[0]? = some (.object "java/lang/Object")) (hM0 : M a0 = some (.inl (0, vs0))) (hM1 : M a1 = some (.inl (0, vs1))) (h4 : sp + n ≤ vs0.length) (h5 : dp + n ≤ vs1.length) (h6 : vs0.length < 2 ^ 31) (h7 : vs1.length < 2 ^ 31) (h8 : 0 < vs1.length) (hel : zElems cl M vs0) (hf : 1 ≤ R.frames) (hlo : (st.map fun v => v.category).sum + (nativeFrameWords "java/lang/System" "arraycopy" 5 + 11) ≤ R.locals)
    (h : ZW cl tl Ts own cc nL ret nm R g k post L (pc + 3) st (zset M a1 (.inl (0, zcopy vs0 vs1 sp dp n))) n1 n2) : ZW cl tl Ts own cc nL ret nm R g k post L pc (.int (nI n) :: .int (nI dp) :: .ref a1 :: .int (nI sp) :: .ref a0 :: st) M n1 n2 := by
  intro X ls H locs hl hL hP hS
  have hts := X.2.2.2.2.1
  have hc0 : H[a0]? = some (zarr (g.2.1 0) vs0) := hP.1 a0 _ hM0
  have hc1 : H[a1]? = some (zarr (g.2.1 0) vs1) := hP.1 a1 _ hM1
  obtain ⟨hz, hA⟩ := hP.arr hM1 h8
  obtain ⟨r0, kA, comp, r1, r2, r3, r4⟩ := X.2.2.2.2.2.2.2.2.1.2.1 0 _ ht
  obtain ⟨kE, hkE, -⟩ := Vm.findClass_spec r3
  have hcs : (nI sp).toNatClampNeg = sp := nI_clamp (by omega)
  have hcd : (nI dp).toNatClampNeg = dp := nI_clamp (by omega)
  have hcn : (nI n).toNatClampNeg = n := nI_clamp (by omega)
  intro T hT Y
  obtain ⟨vm', Y', step⟩ := Y.arraycopy X.1 X.2.2.2.1 (hts _ hlk) (hts _ hnat) (hts _ hstat) (hts _ hini) (src := a0) (dst := a1) (cs := zarr (g.2.1 0) vs0) (cd := zarr (g.2.1 0) vs1) (srcPos := nI sp) (destPos := nI dp) (n := nI n) (by rw [hT]; exact hc0) (by rw [hT]; exact hc1)
    (fun _ h => by cases h) (fun _ h => by cases h) (fun h => by cases h) (fun h => by cases h) r1 r1 r2 r2 rfl (nI_pos (by omega)) (nI_pos (by omega)) (nI_pos (by omega))
    (by rw [znn sp (by omega), znn n (by omega)]; simp [zarr]; omega)
    (by rw [znn dp (by omega), znn n (by omega)]; simp [zarr]; omega)
    (fun vm₁ hal i hi => by
      rw [hcn] at hi
      rw [hcs]
      have hlt : sp + i < vs0.length := by omega
      have e : (zarr (g.2.1 0) vs0).slots.getD (sp + i) .null = vs0[sp + i] := by
        simp [zarr, Array.getD, hlt]
      rw [e]
      rcases hel _ (List.getElem_mem hlt) with q | ⟨b, ci, fs, r, q, qM, qc, qa⟩
      · rw [q]
        exact ⟨rfl, trivial⟩
      · rw [q]
        obtain ⟨cellV, g1, g2, g3⟩ := hP.recv X.2.2.2.2.2.2.2.2.1 qM qc
        obtain ⟨kC, hkC, -⟩ := Vm.findClass_spec g3
        obtain ⟨kC', hkC', -⟩ := hal.2.2 _ _ hkC
        obtain ⟨kE', hkE', -⟩ := hal.2.2 _ _ hkE
        refine ⟨rfl, cellV, (show T.heap[b]? = some cellV by rw [hT]; exact g1), (fun q h => by rw [h] at g2; cases g2), ⟨kC', hkC'⟩, ⟨kE', hkE'⟩, ?_⟩
        show vm₁.assignable _ _ = true
        rw [hal.assignable]
        obtain ⟨c0, t1, f1, f2, f3⟩ := Cond.castable_spec (va_Nw.use (A := k.2.2.2.2.2.1) rfl (X.2.2.2.2.2.2.2.2.1.2.2.2.1 _ qa))
        cases g3.symm.trans f1
        cases r3.symm.trans f2
        exact f3)
    (g := F0 k.2.2.2.2.1 pc ls (.int (nI n) :: .int (nI dp) :: .ref a1 :: .int (nI sp) :: .ref a0 :: st)) rfl (by rw [X.2.2.1]; show ls.size = nL; rw [hl.2.1, hL]) (rest := st) rfl (by rw [X.2.1]; exact hd) hf (by show 2 * 0 + _ + _ ≤ _; omega)
  have e1 : copied (zarr (g.2.1 0) vs0) (zarr (g.2.1 0) vs1) (nI sp) (nI dp) (nI n) = zarr (g.2.1 0) (zcopy vs0 vs1 sp dp n) := by
    have := zcopied (g.2.1 0) (g.2.1 0) vs0 vs1 (dp := dp) h4
    rw [← this]
    show (zarr (g.2.1 0) vs1).storeRun (nI dp).toNatClampNeg ((zarr (g.2.1 0) vs0).stretch (nI sp).toNatClampNeg (nI n).toNatClampNeg) = _
    rw [hcs, hcd, hcn]
  rw [e1] at Y' step
  have hlt : a1 < H.size := (Array.getElem?_eq_some_iff.mp hc1).1
  have hheap : ((T.setVm vm').setCell a1 (zarr (g.2.1 0) (zcopy vs0 vs1 sp dp n))).heap = H.setIfInBounds a1 (zarr (g.2.1 0) (zcopy vs0 vs1 sp dp n)) := by rw [← hT]; rfl
  have oq : ∀ q : Nat, q ≠ a1 → (H.setIfInBounds a1 (zarr (g.2.1 0) (zcopy vs0 vs1 sp dp n)))[q]? = H[q]? := fun q hq => by simp [Array.getElem?_setIfInBounds, Ne.symm hq]
  obtain ⟨t, b1, b2⟩ := h X ls _ _ hl hL (hP.set hz hA (show (H.setIfInBounds a1 _)[a1]? = some (zarr _ _) by simp [Array.getElem?_setIfInBounds, hlt]) (fun q hq _ => oq q hq)) ⟨by simp; exact hS.1, fun q g1 g2 => by
      rw [oq q (fun e => g2 (by rw [e]; exact hA))]
      exact hS.2.1 q g1 g2, fun q hq => by
      rcases List.mem_append.mp hq with h | h
      · exact hS.2.2 q h
      · obtain ⟨z, -, hz⟩ := List.mem_map.mp h
        rw [← hz]
        exact hA⟩ _ hheap Y'
  exact ⟨t, step t b1, b2⟩
theorem z_mmax {x y : Int32} {ix : Nat} (hd : decode cc pc = .ok (.invokestatic ix, 3)) (hlk : Cond.methodLink own ix Lib.Math.max.name ∈ Ts) (hst : Cond.static Lib.Math.max.name ∈ Ts) (hini : Cond.initialized "java/lang/Math" ∈ Ts) (hco : Cond.code Lib.Math.max.name Lib.Math.max.code 2 (some .int) ∈ Ts) (hf : 1 ≤ R.frames) (hlo : (st.map fun v => v.category).sum + 13 ≤ R.locals) (hc1 : n1 ≤ R.cells) (hc2 : n2 ≤ R.slots) (h : ZW cl tl Ts own cc nL ret nm R g k post L (pc + 3) (.int (if x < y then y else x) :: st) M n1 n2) : ZW cl tl Ts own cc nL ret nm R g k post L pc (.int y :: .int x :: st) M n1 n2 := by
  intro X ls H locs hl hL hP hS
  have hts := X.2.2.2.2.1
  exact va_mmax X.1 X.2.1 (by rw [X.2.2.1, hl.2.1, hL]) X.2.2.2.1 (hts _ hlk) (hts _ hst) (hts _ hini) (hts _ hco) hf hlo hc1 hc2 hd (h X ls H locs hl hL hP hS)
theorem z_mmin {x y : Int32} {ix : Nat} (hd : decode cc pc = .ok (.invokestatic ix, 3)) (hlk : Cond.methodLink own ix Lib.Math.min.name ∈ Ts) (hst : Cond.static Lib.Math.min.name ∈ Ts) (hini : Cond.initialized "java/lang/Math" ∈ Ts) (hco : Cond.code Lib.Math.min.name Lib.Math.min.code 2 (some .int) ∈ Ts) (hf : 1 ≤ R.frames) (hlo : (st.map fun v => v.category).sum + 13 ≤ R.locals) (hc1 : n1 ≤ R.cells) (hc2 : n2 ≤ R.slots) (h : ZW cl tl Ts own cc nL ret nm R g k post L (pc + 3) (.int (if y < x then y else x) :: st) M n1 n2) : ZW cl tl Ts own cc nL ret nm R g k post L pc (.int y :: .int x :: st) M n1 n2 := by
  intro X ls H locs hl hL hP hS
  have hts := X.2.2.2.2.1
  exact va_mmin X.1 X.2.1 (by rw [X.2.2.1, hl.2.1, hL]) X.2.2.2.1 (hts _ hlk) (hts _ hst) (hts _ hini) (hts _ hco) hf hlo hc1 hc2 hd (h X ls H locs hl hL hP hS)
/-- the array's own Class object, the same twice -/
theorem z_getC {a ix : Nat} {vs : List Value} (hd : decode cc pc = .ok (.invokevirtual ix, 3)) (hlk : Cond.methodLink own ix ⟨"java/lang/Object", "getClass", "()Ljava/lang/Class;"⟩ ∈ Ts) (hsel : Cond.selects "[Ljava/lang/Object;" ⟨"java/lang/Object", "getClass", "()Ljava/lang/Class;"⟩ ⟨"java/lang/Object", "getClass", "()Ljava/lang/Class;"⟩ ∈ Ts) (hin : Cond.instanceMethod ⟨"java/lang/Object", "getClass", "()Ljava/lang/Class;"⟩ ∈ Ts) (hnat : Cond.native ⟨"java/lang/Object", "getClass", "()Ljava/lang/Class;"⟩ ∈ Ts) (hM : M a = some (.inl (0, vs))) (ht : tl[0]? = some (.object "java/lang/Object")) (hf : 1 ≤ R.frames) (hlo : (st.map fun v => v.category).sum + 14 ≤ R.locals)
    (h : ZW cl tl Ts own cc nL ret nm R g k post L (pc + 3) (.ref g.2.2.2.2 :: st) M n1 n2) : ZW cl tl Ts own cc nL ret nm R g k post L pc (.ref a :: st) M n1 n2 := by
  intro X ls H locs hl hL hP hS
  have hts := X.2.2.2.2.1
  have hmi := X.2.2.2.2.2.2.2.2.1.2.2.2.2.2
  have hra := (X.2.2.2.2.2.2.2.2.1.2.1 0 _ ht).2
  exact va_getC X.1 X.2.1 (by rw [X.2.2.1, hl.2.1, hL]) X.2.2.2.1 (hts _ hlk) (va_Dc.use X.2.2.2.2.2.2.2.2.1.2.2.2.2.1) (hts _ hsel) (hts _ hin) (hts _ hnat) hmi ⟨_, hP.1 a _ hM, rfl, va_nmO hra (by decide)⟩ hf hlo hd (h X ls H locs hl hL hP hS)
theorem z_ldcM {ix : Nat} (hd : decode cc pc = .ok (.ldc ix, 2)) (hlk : Cond.classLink own ix "[Ljava/lang/Object;" ∈ Ts) (h : ZW cl tl Ts own cc nL ret nm R g k post L (pc + 2) (.ref g.2.2.2.2 :: st) M n1 n2) : ZW cl tl Ts own cc nL ret nm R g k post L pc st M n1 n2 :=
  fun X ls H locs hl hL hP hS => va_ldcM X.1 X.2.1 X.2.2.2.1 (X.2.2.2.2.1 _ hlk) X.2.2.2.2.2.2.2.2.1.2.2.2.2.2 hd (h X ls H locs hl hL hP hS)
theorem z_irem {x y : Int32} (hd : decode cc pc = .ok (.irem, 1)) (hne : ¬ y = 0) (h : ZW cl tl Ts own cc nL ret nm R g k post L (pc + 1) (.int (x - x / y * y) :: st) M n1 n2) : ZW cl tl Ts own cc nL ret nm R g k post L pc (.int y :: .int x :: st) M n1 n2 :=
  fun X ls H locs hl hL hP hS => lv_irem X.1 X.2.1 hd hne (h X ls H locs hl hL hP hS)
theorem z_zast {a t j : Nat} {vs : List Value} {x : Int32} (hd : decode cc pc = .ok (.bastore, 1)) (hM : M a = some (.inl (t, vs))) (ht : tl[t]? = some .boolean) (hj : j < 2 ^ 31) (hlt : j < vs.length) (hx : narrow .boolean (.int x) = .int x) (h : ZW cl tl Ts own cc nL ret nm R g k post L (pc + 1) st (zset M a (.inl (t, vs.set j (.int x)))) n1 n2) : ZW cl tl Ts own cc nL ret nm R g k post L pc (.int x :: .int (nI j) :: .ref a :: st) M n1 n2 := by
  intro X ls H locs hl hL hP hS
  exact W.zast X.1 X.2.1 (hP.1 a _ hM) (zarr_of (X.2.2.2.2.2.2.2.2.1.2.1 t _ ht).1 vs) (fun q => by cases q) (zinb hj hlt) rfl rfl hd fun H' e1 e2 e3 => h X ls H' _ hl hL (hP.setA hM hlt hj (by rw [← hx]; exact e1) e3) (hS.put e2 e3 (hP.arr hM hlt).2)
theorem z_tableOut {dflt lo hi : Int} {offs : Array Int} {len : Nat} {x : Int32} {tgt : Nat} (hd : decode cc pc = .ok (.tableswitch dflt lo hi offs, len)) (hx : x.toInt < lo ∨ hi < x.toInt) (ht : (pc : Int) + dflt = (tgt : Int)) (h : ZW cl tl Ts own cc nL ret nm R g k post L tgt st M n1 n2) : ZW cl tl Ts own cc nL ret nm R g k post L pc (.int x :: st) M n1 n2 :=
  fun X ls H locs hl hL hP hS => lv_tableOut X.1 X.2.1 hd hx ht (h X ls H locs hl hL hP hS)
theorem z_tableIn {dflt lo hi : Int} {offs : Array Int} {len : Nat} {x : Int32} {off : Int} {tgt : Nat} (hd : decode cc pc = .ok (.tableswitch dflt lo hi offs, len)) (h1 : ¬ x.toInt < lo) (h2 : ¬ hi < x.toInt) (ho : offs[(x.toInt - lo).toNat]? = some off) (ht : (pc : Int) + off = (tgt : Int)) (h : ZW cl tl Ts own cc nL ret nm R g k post L tgt st M n1 n2) : ZW cl tl Ts own cc nL ret nm R g k post L pc (.int x :: st) M n1 n2 :=
  fun X ls H locs hl hL hP hS => lv_tableIn X.1 X.2.1 hd h1 h2 ho ht (h X ls H locs hl hL hP hS)
theorem z_acmpR_eq {x y : Nat} {off : Int} {tgt : Nat} (hd : decode cc pc = .ok (.if_acmp .eq off, 3)) (ht : (pc : Int) + off = (tgt : Int)) (h1 : x = y → ZW cl tl Ts own cc nL ret nm R g k post L tgt st M n1 n2) (h2 : ¬ x = y → ZW cl tl Ts own cc nL ret nm R g k post L (pc + 3) st M n1 n2) : ZW cl tl Ts own cc nL ret nm R g k post L pc (.ref y :: .ref x :: st) M n1 n2 :=
  z_acmp_eq (x := some x) (y := some y) hd ht (fun q => h1 (Option.some.inj q)) (fun q => h2 (fun e => q (congrArg some e)))
theorem z_acmpR_ne {x y : Nat} {off : Int} {tgt : Nat} (hd : decode cc pc = .ok (.if_acmp .ne off, 3)) (ht : (pc : Int) + off = (tgt : Int)) (h1 : ¬ x = y → ZW cl tl Ts own cc nL ret nm R g k post L tgt st M n1 n2) (h2 : x = y → ZW cl tl Ts own cc nL ret nm R g k post L (pc + 3) st M n1 n2) : ZW cl tl Ts own cc nL ret nm R g k post L pc (.ref y :: .ref x :: st) M n1 n2 :=
  z_acmp_ne (x := some x) (y := some y) hd ht (fun q => h1 (fun e => q (congrArg some e))) (fun q => h2 (Option.some.inj q))
end ZJ
end
section
theorem nI_max {x y : Nat} (hx : x < 2 ^ 31) (hy : y < 2 ^ 31) : (if nI x < nI y then nI y else nI x) = nI (max x y) := by
  by_cases h : x < y
  · rw [if_pos (nI_lt h hy), Nat.max_eq_right (by omega)]
  · rw [if_neg (nI_nlt (by omega) hx), Nat.max_eq_left (by omega)]
theorem nI_min {x y : Nat} (hx : x < 2 ^ 31) (hy : y < 2 ^ 31) : (if nI y < nI x then nI y else nI x) = nI (min x y) := by
  by_cases h : y < x
  · rw [if_pos (nI_lt h hx), Nat.min_eq_right (by omega)]
  · rw [if_neg (nI_nlt (by omega) hy), Nat.min_eq_left (by omega)]
theorem nI_gt0 {n : Nat} (h0 : 0 < n) (h : n < 2 ^ 31) : (0 : Int32) < nI n := by
  have := nI_lt h0 h
  rwa [nI_0] at this
theorem nI_half {n : Nat} (h : n < 2 ^ 31) : nI n >>> ((1 : Int32) &&& 31) = nI (n / 2) := by
  have k := pk_shrN (n := n) h ((1 : Int32) &&& 31) 1 (by decide)
  rw [Nat.pow_one] at k
  exact k
theorem zElems.fresh {cl : List vw_C} {M : ZM} {vs : List Value} {q : Nat} {e : ZE} (h : zElems cl M vs) (hq : M q = none) : zElems cl (zset M q e) vs := by
  intro v hv
  rcases h v hv with h | ⟨b, ci, fs, r, h1, h2, h3⟩
  · exact Or.inl h
  · refine Or.inr ⟨b, ci, fs, r, h1, ?_, h3⟩
    rw [zset_ne]
    · exact h2
    · intro hbq
      rw [hbq, hq] at h2
      cases h2
theorem zfresh_ne {M : ZM} {a q : Nat} {e : ZE} (ha : M a = some e) (hq : M q = none) : a ≠ q := by
  intro h
  rw [h, hq] at ha
  cases ha
theorem zcopy_grow (vs : List Value) {m : Nat} (h : vs.length ≤ m) : zcopy vs (List.replicate m .null) 0 0 vs.length = vs ++ List.replicate (m - vs.length) .null := by
  apply List.ext_getElem
  · simp [zcopy]
    omega
  · intro i h1 h2
    simp [zcopy] at h1
    simp only [zcopy, List.getElem_map, List.getElem_range]
    by_cases hi : i < vs.length
    · rw [if_pos ⟨Nat.zero_le _, by omega⟩, List.getElem_append_left hi]
      simp [hi]
    · rw [if_neg (by omega), List.getElem_append_right (by omega)]
      simp [h1]
/-- how many places a list's array has behind an add -/
def capA (n cap : Nat) : Nat := if n < cap then cap else if cap = 0 then 10 else cap + max 1 (cap / 2)
theorem capA_gt {n cap : Nat} (h : n ≤ cap) : n < capA n cap := by
  unfold capA
  split
  · omega
  · split <;> omega
theorem capA_ge {n cap : Nat} (h : n ≤ cap) : cap ≤ capA n cap := by
  unfold capA
  split
  · omega
  · split <;> omega
end
section
abbrev fAL (arr : Nat) (n mc : Int32) : List Value := [.ref arr, .int n, .int mc]
abbrev ZRm (f c s : Nat) : Room := { frames := f, cells := c, slots := s, locals := 30 * f }
set_option maxHeartbeats 4000000 in
set_option maxRecDepth 100000 in
theorem c_AL_size (l : Launch) (g : ZG) (M : ZM) (a arr : Nat) (n mc : Int32) (ha : M a = some (.inr (6, fAL arr n mc))) : ZC vcl tlx GT l g y_AL_size b_AL_size 1 (Option.some FieldType.int) (ZRm 0 0 0) [.ref a] M (fun v M' => v = some (.int n) ∧ M = M') := by
  refine ZC.of (by decide) (Nat.le_of_ble_eq_true rfl) rfl (fun k hz0 => ?_)
  refine z_aload_n d_AL_size_0 rfl ?_
  refine z_get d_AL_size_1 zf_AL_48 (by assumption) rfl ?_
  refine z_ireturn d_AL_size_4 rfl ?_ (by decide) (by decide)
  exact ⟨rfl, rfl⟩
set_option maxHeartbeats 4000000 in
set_option maxRecDepth 100000 in
theorem c_AL_isEmpty (l : Launch) (g : ZG) (M : ZM) (a arr : Nat) (n mc : Int32) (ha : M a = some (.inr (6, fAL arr n mc))) : ZC vcl tlx GT l g y_AL_isEmpty b_AL_isEmpty 1 (Option.some FieldType.boolean) (ZRm 0 0 0) [.ref a] M (fun v M' => v = some (.int (if n = 0 then 1 else 0)) ∧ M = M') := by
  refine ZC.of (by decide) (Nat.le_of_ble_eq_true rfl) rfl (fun k hz0 => ?_)
  refine z_aload_n d_AL_isEmpty_0 rfl ?_
  refine z_get d_AL_isEmpty_1 zf_AL_48 (by assumption) rfl ?_
  refine z_if_ne (tgt := 11) d_AL_isEmpty_4 (by decide) (fun h4 => ?_) (fun h4 => ?_)
  · skip
    refine z_iconst (v := 0) d_AL_isEmpty_11 (by decide) ?_
    refine z_zreturn d_AL_isEmpty_12 rfl (by decide) ?_ (by decide) (by decide)
    exact ⟨by simp [h4], rfl⟩
  · skip
    refine z_iconst (v := 1) d_AL_isEmpty_7 (by decide) ?_
    refine z_goto (tgt := 12) d_AL_isEmpty_8 (by decide) ?_
    refine z_zreturn d_AL_isEmpty_12 rfl (by decide) ?_ (by decide) (by decide)
    exact ⟨by simp [h4], rfl⟩
set_option maxHeartbeats 4000000 in
set_option maxRecDepth 100000 in
theorem c_Pr_checkIndex (l : Launch) (g : ZG) (M : ZM) (i cnt : Nat) (hi : i < cnt) (hc : cnt < 2 ^ 31) : ZC vcl tlx GT l g y_Pr_checkIndex b_Pr_checkIndex 3 (Option.some FieldType.int) (ZRm 0 0 0) [.int (nI i), .int (nI cnt), .null] M (fun v M' => M = M' ∧ v = some (.int (nI i))) := by
  refine ZC.of (by decide) (Nat.le_of_ble_eq_true rfl) rfl (fun k hz0 => ?_)
  refine z_iload_n d_Pr_checkIndex_0 rfl ?_
  refine z_if_lt (tgt := 9) d_Pr_checkIndex_1 (by decide) (fun h1 => (nI_pos (by omega) h1).elim) (fun h1 => ?_)
  refine z_iload_n d_Pr_checkIndex_4 rfl ?_
  refine z_iload_n d_Pr_checkIndex_5 rfl ?_
  refine z_icmp_lt (tgt := 16) d_Pr_checkIndex_6 (by decide) (fun h6 => ?_) (fun h6 => ?_)
  · skip
    refine z_iload_n d_Pr_checkIndex_16 rfl ?_
    refine z_ireturn d_Pr_checkIndex_17 rfl ?_ (by decide) (by decide)
    exact ⟨rfl, rfl⟩
  · skip
    exact absurd (nI_lt hi hc) h6
set_option maxHeartbeats 4000000 in
set_option maxRecDepth 100000 in
theorem c_Ob_checkIndex (l : Launch) (g : ZG) (M : ZM) (i cnt : Nat) (hi : i < cnt) (hc : cnt < 2 ^ 31) : ZC vcl tlx GT l g y_Ob_checkIndex b_Ob_checkIndex 2 (Option.some FieldType.int) (ZRm 1 0 0) [.int (nI i), .int (nI cnt)] M (fun v M' => M = M' ∧ v = some (.int (nI i))) := by
  refine ZC.of (by decide) (Nat.le_of_ble_eq_true rfl) rfl (fun k hz0 => ?_)
  refine z_iload_n d_Ob_checkIndex_0 rfl ?_
  refine z_iload_n d_Ob_checkIndex_1 rfl ?_
  refine z_null d_Ob_checkIndex_2 ?_
  refine z_callS gt_good d_Ob_checkIndex_3 zs_Ob_105 (fun l => c_Pr_checkIndex l g M i cnt hi hc) rfl rfl ⟨Nat.le_of_ble_eq_true rfl, Nat.le_of_ble_eq_true rfl⟩ (Nat.le_of_ble_eq_true rfl) (Nat.le_of_ble_eq_true rfl) (Nat.le_of_ble_eq_true rfl) ?_
  rintro _ _ ⟨rfl, rfl⟩
  refine z_ireturn d_Ob_checkIndex_6 rfl ?_ (by decide) (by decide)
  exact ⟨rfl, rfl⟩
set_option maxHeartbeats 4000000 in
set_option maxRecDepth 100000 in
theorem c_AL_elementData (l : Launch) (g : ZG) (M : ZM) (a arr : Nat) (n mc : Int32) (vs : List Value) (i b : Nat) (ha : M a = some (.inr (6, fAL arr n mc))) (hr : M arr = some (.inl (0, vs))) (hi : i < 2 ^ 31) (hv : vs[i]? = some (.ref b)) : ZC vcl tlx GT l g y_AL_elementData b_AL_elementData 2 (Option.some (FieldType.object "java/lang/Object")) (ZRm 0 0 0) [.ref a, .int (nI i)] M (fun v M' => M = M' ∧ v = some (.ref b)) := by
  refine ZC.of (by decide) (Nat.le_of_ble_eq_true rfl) rfl (fun k hz0 => ?_)
  refine z_aload_n d_AL_elementData_0 rfl ?_
  refine z_get d_AL_elementData_1 zf_AL_9 (by assumption) rfl ?_
  refine z_iload_n d_AL_elementData_4 rfl ?_
  refine z_aald d_AL_elementData_5 hr rfl rfl hi hv ?_
  refine z_areturn d_AL_elementData_6 rfl (by simp) (by simp) ?_ (by decide) (by decide)
  exact ⟨rfl, rfl⟩
set_option maxHeartbeats 4000000 in
set_option maxRecDepth 100000 in
theorem c_AL_get (l : Launch) (g : ZG) (M : ZM) (a arr cnt : Nat) (mc : Int32) (vs : List Value) (i b : Nat) (ha : M a = some (.inr (6, fAL arr (nI cnt) mc))) (hr : M arr = some (.inl (0, vs))) (hi : i < cnt) (hc : cnt < 2 ^ 31) (hv : vs[i]? = some (.ref b)) : ZC vcl tlx GT l g y_AL_get b_AL_get 2 (Option.some (FieldType.object "java/lang/Object")) (ZRm 2 0 0) [.ref a, .int (nI i)] M (fun v M' => M = M' ∧ v = some (.ref b)) := by
  refine ZC.of (by decide) (Nat.le_of_ble_eq_true rfl) rfl (fun k hz0 => ?_)
  refine z_iload_n d_AL_get_0 rfl ?_
  refine z_aload_n d_AL_get_1 rfl ?_
  refine z_get d_AL_get_2 zf_AL_48 (by assumption) rfl ?_
  refine z_callS gt_good d_AL_get_5 zs_AL_118 (fun l => c_Ob_checkIndex l g M i cnt hi hc) rfl rfl ⟨Nat.le_of_ble_eq_true rfl, Nat.le_of_ble_eq_true rfl⟩ (Nat.le_of_ble_eq_true rfl) (Nat.le_of_ble_eq_true rfl) (Nat.le_of_ble_eq_true rfl) ?_
  rintro _ _ ⟨rfl, rfl⟩
  refine z_pop d_AL_get_8 rfl ?_
  refine z_aload_n d_AL_get_9 rfl ?_
  refine z_iload_n d_AL_get_10 rfl ?_
  refine z_callV gt_good d_AL_get_11 zv_AL_123 (by assumption) rfl (fun l => c_AL_elementData l g M a arr (nI cnt) mc vs i b ha hr (by omega) hv) rfl rfl ⟨Nat.le_of_ble_eq_true rfl, Nat.le_of_ble_eq_true rfl⟩ (Nat.le_of_ble_eq_true rfl) (Nat.le_of_ble_eq_true rfl) (Nat.le_of_ble_eq_true rfl) ?_
  rintro _ _ ⟨rfl, rfl⟩
  refine z_areturn d_AL_get_14 rfl (by simp) (by simp) ?_ (by decide) (by decide)
  exact ⟨rfl, rfl⟩
end
section
set_option maxHeartbeats 4000000 in
set_option maxRecDepth 100000 in
theorem c_AC_init (l : Launch) (g : ZG) (M : ZM) (a : Nat)  : ZC vcl tlx GT l g y_AC_init b_AC_init 1 none (ZRm 1 0 0) [.ref a] M (fun v M' => M = M' ∧ v = none) := by
  refine ZC.of (by decide) (Nat.le_of_ble_eq_true rfl) rfl (fun k hz0 => ?_)
  refine z_aload_n d_AC_init_0 rfl ?_
  refine z_objInit d_AC_init_1 gw_88 gw_62 gw_63 (Nat.le_of_ble_eq_true rfl) (Nat.le_of_ble_eq_true rfl) ?_
  refine z_return d_AC_init_4 rfl ?_ (by decide) (by decide)
  exact ⟨rfl, rfl⟩
set_option maxHeartbeats 4000000 in
set_option maxRecDepth 100000 in
theorem c_AB_init (l : Launch) (g : ZG) (M : ZM) (a : Nat) (v0 v1 v2 : Value) (ha : M a = some (.inr (6, [v0, v1, v2]))) : ZC vcl tlx GT l g y_AB_init b_AB_init 1 none (ZRm 2 0 0) [.ref a] M (fun v M' => v = none ∧ M' = zset M a (.inr (6, [v0, v1, .int 0]))) := by
  refine ZC.of (by decide) (Nat.le_of_ble_eq_true rfl) rfl (fun k hz0 => ?_)
  refine z_aload_n d_AB_init_0 rfl ?_
  refine z_callI gt_good d_AB_init_1 zi_AB_1 (fun l => c_AC_init l g M a) rfl rfl ⟨Nat.le_of_ble_eq_true rfl, Nat.le_of_ble_eq_true rfl⟩ (Nat.le_of_ble_eq_true rfl) (Nat.le_of_ble_eq_true rfl) (Nat.le_of_ble_eq_true rfl) ?_
  rintro _ _ ⟨rfl, rfl⟩
  refine z_aload_n d_AB_init_4 rfl ?_
  refine z_iconst (v := 0) d_AB_init_5 (by decide) ?_
  refine z_put d_AB_init_6 zp_AB_7 (by assumption) rfl rfl ?_
  refine z_return d_AB_init_9 rfl ?_ (by decide) (by decide)
  exact ⟨rfl, rfl⟩
set_option maxHeartbeats 4000000 in
set_option maxRecDepth 100000 in
theorem c_AL_init (l : Launch) (g : ZG) (M : ZM) (a : Nat) (v1 v2 : Value) (ha : M a = some (.inr (6, [.null, .int 0, v2]))) : ZC vcl tlx GT l g y_AL_init b_AL_init 1 none (ZRm 3 0 0) [.ref a] M (fun v M' => v = none ∧ M' = zset M a (.inr (6, fAL g.2.2.2.1 0 0))) := by
  refine ZC.of (by decide) (Nat.le_of_ble_eq_true rfl) rfl (fun k hz0 => ?_)
  refine z_aload_n d_AL_init_0 rfl ?_
  refine z_callI gt_good d_AL_init_1 zi_AL_1 (fun l => c_AB_init l g M a _ _ _ ha) rfl rfl ⟨Nat.le_of_ble_eq_true rfl, Nat.le_of_ble_eq_true rfl⟩ (Nat.le_of_ble_eq_true rfl) (Nat.le_of_ble_eq_true rfl) (Nat.le_of_ble_eq_true rfl) ?_
  rintro _ _ ⟨rfl, rfl⟩
  refine z_aload_n d_AL_init_4 rfl ?_
  refine z_gets d_AL_init_5 gw_89 ?_
  refine z_put d_AL_init_8 zp_AL_9 (zset_self _ _ _) rfl rfl ?_
  refine z_return d_AL_init_11 rfl ?_ (by decide) (by decide)
  exact ⟨rfl, by rw [zset_zset]; rfl⟩
set_option maxHeartbeats 4000000 in
set_option maxRecDepth 100000 in
theorem c_AS_newLength (l : Launch) (g : ZG) (M : ZM) (o x y : Nat) (h1 : 0 < o + max x y) (h2 : o + max x y ≤ 2147483639) (hx : x < 2 ^ 31) (hy : y < 2 ^ 31) : ZC vcl tlx GT l g y_AS_newLength b_AS_newLength 4 (Option.some FieldType.int) (ZRm 1 0 0) [.int (nI o), .int (nI x), .int (nI y)] M (fun v M' => M = M' ∧ v = some (.int (nI (o + max x y)))) := by
  refine ZC.of (by decide) (Nat.le_of_ble_eq_true rfl) rfl (fun k hz0 => ?_)
  refine z_iload_n d_AS_newLength_0 rfl ?_
  refine z_iload_n d_AS_newLength_1 rfl ?_
  refine z_iload_n d_AS_newLength_2 rfl ?_
  refine z_mmax d_AS_newLength_3 gw_233 gw_68 gw_37 gw_69 (Nat.le_of_ble_eq_true rfl) (Nat.le_of_ble_eq_true rfl) (Nat.le_of_ble_eq_true rfl) (Nat.le_of_ble_eq_true rfl) ?_
  rw [nI_max hx hy]
  refine z_iadd d_AS_newLength_6 ?_
  rw [nI_add]
  refine z_istore_n (i := 3) d_AS_newLength_7 rfl (by decide) rfl ?_
  refine z_iconst (v := 0) d_AS_newLength_8 (by decide) ?_
  refine z_iload_n d_AS_newLength_9 rfl ?_
  refine z_icmp_ge (tgt := 21) d_AS_newLength_10 (by decide) (fun h10 => (nI_nle h1 (by omega) h10).elim) (fun h10 => ?_)
  refine z_iload_n d_AS_newLength_13 rfl ?_
  refine z_ldc d_AS_newLength_14 gw_234 ?_
  refine z_icmp_gt (tgt := 21) d_AS_newLength_16 (by decide) (fun h16 => (nI_nlt h2 (by decide) h16).elim) (fun h16 => ?_)
  refine z_iload_n d_AS_newLength_19 rfl ?_
  refine z_ireturn d_AS_newLength_20 rfl ?_ (by decide) (by decide)
  exact ⟨rfl, rfl⟩
set_option maxHeartbeats 4000000 in
set_option maxRecDepth 100000 in
theorem c_Ar_copyOf2 (l : Launch) (g : ZG) (M : ZM) (arr m : Nat) (vs : List Value) (hr : M arr = some (.inl (0, vs))) (hel : zElems vcl M vs) (hm : vs.length ≤ m) (h0 : 0 < m) (hM : m < 2 ^ 27) : ZC vcl tlx GT l g y_Ar_copyOf2 b_Ar_copyOf2 4 (Option.some (FieldType.array (FieldType.object "java/lang/Object"))) (ZRm 1 1 m) [.ref arr, .int (nI m), .ref g.2.2.2.2] M (fun v M' => ∃ q : Nat, v = some (.ref q) ∧ M q = none ∧ M' = zset M q (.inl (0, vs ++ List.replicate (m - vs.length) .null))) := by
  refine ZC.of (by decide) (Nat.le_of_ble_eq_true rfl) rfl (fun k hz0 => ?_)
  refine z_aload_n d_Ar_copyOf2_0 rfl ?_
  refine z_ldcM d_Ar_copyOf2_1 gw_257 ?_
  refine z_acmpR_ne (tgt := 13) d_Ar_copyOf2_3 (by decide) (fun h => absurd rfl h) (fun _ => ?_)
  refine z_iload_n d_Ar_copyOf2_6 rfl ?_
  refine z_anew (t := 0) d_Ar_copyOf2_7 gw_259 (by decide) rfl rfl hM (Nat.le_of_ble_eq_true rfl) (by simp) (fun q hq => ?_)
  have hrq : zset M q (.inl (0, List.replicate m .null)) arr = some (.inl (0, vs)) := by rw [zset_ne (zfresh_ne hr hq)]; exact hr
  refine z_goto (tgt := 24) d_Ar_copyOf2_10 (by decide) ?_
  refine z_astore_n (i := 3) d_Ar_copyOf2_24 rfl (by decide) rfl ?_
  refine z_aload_n d_Ar_copyOf2_25 rfl ?_
  refine z_iconst (v := 0) d_Ar_copyOf2_26 (by decide) ?_
  refine z_aload_n d_Ar_copyOf2_27 rfl ?_
  refine z_iconst (v := 0) d_Ar_copyOf2_28 (by decide) ?_
  refine z_aload_n d_Ar_copyOf2_29 rfl ?_
  refine z_alen d_Ar_copyOf2_30 (hrq) rfl ?_
  refine z_iload_n d_Ar_copyOf2_31 rfl ?_
  refine z_mmin d_Ar_copyOf2_32 gw_260 gw_65 gw_37 gw_66 (Nat.le_of_ble_eq_true rfl) (Nat.le_of_ble_eq_true rfl) (by simp) (by simp) ?_
  rw [nI_min (by omega) (by omega), Nat.min_eq_left hm]
  refine z_copy (sp := 0) (dp := 0) d_Ar_copyOf2_35 gw_261 gw_263 gw_262 gw_46 rfl hrq (zset_self _ _ _) (by omega) (by simp; omega) (by omega) (by simp; omega) (by simp; omega) (hel.fresh hq) (Nat.le_of_ble_eq_true rfl) (Nat.le_of_ble_eq_true rfl) ?_
  refine z_aload_n d_Ar_copyOf2_38 rfl ?_
  refine z_areturn d_Ar_copyOf2_39 rfl (by simp) (by simp) ?_ (by simp) (by simp)
  exact ⟨q, rfl, hq, by rw [zset_zset, zcopy_grow vs hm]⟩
set_option maxHeartbeats 4000000 in
set_option maxRecDepth 100000 in
theorem c_Ar_copyOf (l : Launch) (g : ZG) (M : ZM) (arr m : Nat) (vs : List Value) (hr : M arr = some (.inl (0, vs))) (hel : zElems vcl M vs) (hm : vs.length ≤ m) (h0 : 0 < m) (hM : m < 2 ^ 27) : ZC vcl tlx GT l g y_Ar_copyOf b_Ar_copyOf 2 (Option.some (FieldType.array (FieldType.object "java/lang/Object"))) (ZRm 2 1 m) [.ref arr, .int (nI m)] M (fun v M' => ∃ q : Nat, v = some (.ref q) ∧ M q = none ∧ M' = zset M q (.inl (0, vs ++ List.replicate (m - vs.length) .null))) := by
  refine ZC.of (by decide) (Nat.le_of_ble_eq_true rfl) rfl (fun k hz0 => ?_)
  refine z_aload_n d_Ar_copyOf_0 rfl ?_
  refine z_iload_n d_Ar_copyOf_1 rfl ?_
  refine z_aload_n d_Ar_copyOf_2 rfl ?_
  refine z_getC d_Ar_copyOf_3 gw_241 gw_808 gw_242 gw_253 hr rfl (Nat.le_of_ble_eq_true rfl) (Nat.le_of_ble_eq_true rfl) ?_
  refine z_callS gt_good d_Ar_copyOf_6 zs_Ar_300 (fun l => c_Ar_copyOf2 l g M arr m vs hr hel hm h0 hM) rfl rfl ⟨Nat.le_of_ble_eq_true rfl, Nat.le_of_ble_eq_true rfl⟩ (Nat.le_of_ble_eq_true rfl) (by simp) (by simp) ?_
  rintro _ _ ⟨q, rfl, hq, rfl⟩
  refine z_areturn d_Ar_copyOf_9 rfl (by simp) (by simp) ?_ (by simp) (by simp)
  exact ⟨q, rfl, hq, rfl⟩
set_option maxHeartbeats 4000000 in
set_option maxRecDepth 100000 in
theorem c_AL_grow2n (l : Launch) (g : ZG) (M : ZM) (a arr : Nat) (mc : Int32) (vs : List Value) (ha : M a = some (.inr (6, fAL arr (nI vs.length) mc))) (hr : M arr = some (.inl (0, vs))) (hel : zElems vcl M vs) (h0 : 0 < vs.length) (hc : vs.length ≤ 1000000) : ZC vcl tlx GT l g y_AL_grow2 b_AL_grow2 4 (Option.some (FieldType.array (FieldType.object "java/lang/Object"))) (ZRm 3 1 (capA vs.length vs.length)) [.ref a, .int (nI (vs.length + 1))] M (fun v M' => ∃ q : Nat, v = some (.ref q) ∧ M q = none ∧ M' = zset (zset M q (.inl (0, vs ++ List.replicate (capA vs.length vs.length - vs.length) .null))) a (.inr (6, fAL q (nI vs.length) mc))) := by
  refine ZC.of (by decide) (Nat.le_of_ble_eq_true rfl) rfl (fun k hz0 => ?_)
  have ec : capA vs.length vs.length = vs.length + max 1 (vs.length / 2) := by unfold capA; rw [if_neg (by omega), if_neg (by omega)]
  refine z_aload_n d_AL_grow2_0 rfl ?_
  refine z_get d_AL_grow2_1 zf_AL_9 (by assumption) rfl ?_
  refine z_alen d_AL_grow2_4 (by assumption) rfl ?_
  refine z_istore_n (i := 2) d_AL_grow2_5 rfl (by decide) rfl ?_
  refine z_iload_n d_AL_grow2_6 rfl ?_
  refine z_if_gt (tgt := 20) d_AL_grow2_7 (by decide) (fun h7 => ?_) (fun h7 => (h7 (nI_gt0 h0 (by omega))).elim)
  refine z_iload_n d_AL_grow2_20 rfl ?_
  refine z_iload_n d_AL_grow2_21 rfl ?_
  refine z_iload_n d_AL_grow2_22 rfl ?_
  refine z_isub d_AL_grow2_23 ?_
  refine z_iload_n d_AL_grow2_24 rfl ?_
  refine z_iconst (v := 1) d_AL_grow2_25 (by decide) ?_
  refine z_ishr d_AL_grow2_26 ?_
  rw [pk_sub (by omega), nI_half (by omega), show vs.length + 1 - vs.length = 1 from by omega]
  refine z_callS gt_good d_AL_grow2_27 zs_AL_73 (fun l => c_AS_newLength l g M vs.length 1 (vs.length / 2) (by omega) (by omega) (by decide) (by omega)) rfl rfl ⟨Nat.le_of_ble_eq_true rfl, Nat.le_of_ble_eq_true rfl⟩ (Nat.le_of_ble_eq_true rfl) (by simp) (by simp) ?_
  rintro _ _ ⟨rfl, rfl⟩
  refine z_istore_n (i := 3) d_AL_grow2_30 rfl (by decide) rfl ?_
  refine z_aload_n d_AL_grow2_31 rfl ?_
  refine z_aload_n d_AL_grow2_32 rfl ?_
  refine z_get d_AL_grow2_33 zf_AL_9 (by assumption) rfl ?_
  refine z_iload_n d_AL_grow2_36 rfl ?_
  refine z_callS gt_good d_AL_grow2_37 zs_AL_66 (fun l => c_Ar_copyOf l g M arr (vs.length + max 1 (vs.length / 2)) vs hr hel (by omega) (by omega) (by omega)) rfl rfl ⟨Nat.le_of_ble_eq_true rfl, Nat.le_of_ble_eq_true rfl⟩ (Nat.le_of_ble_eq_true rfl) (by simp) (by simp [ec]) ?_
  rintro _ _ ⟨q, rfl, hq, rfl⟩
  have haq : zset M q (.inl (0, vs ++ List.replicate (vs.length + max 1 (vs.length / 2) - vs.length) .null)) a = some (.inr (6, fAL arr (nI vs.length) mc)) := by rw [zset_ne (zfresh_ne ha hq)]; exact ha
  refine z_dup_x1 d_AL_grow2_40 rfl rfl ?_
  refine z_put d_AL_grow2_41 zp_AL_9 (haq) rfl rfl ?_
  refine z_areturn d_AL_grow2_44 rfl (by simp) (by simp) ?_ (by simp) (by simp [ec])
  exact ⟨q, rfl, hq, by rw [ec]; rfl⟩
set_option maxHeartbeats 4000000 in
set_option maxRecDepth 100000 in
theorem c_AL_grow20 (l : Launch) (g : ZG) (M : ZM) (a arr : Nat) (mc : Int32) (ha : M a = some (.inr (6, fAL arr (nI ([] : List Value).length) mc))) (hr : M arr = some (.inl (0, []))) (hz : arr = g.2.2.2.1) : ZC vcl tlx GT l g y_AL_grow2 b_AL_grow2 4 (Option.some (FieldType.array (FieldType.object "java/lang/Object"))) (ZRm 3 1 (capA ([] : List Value).length ([] : List Value).length)) [.ref a, .int (nI (([] : List Value).length + 1))] M (fun v M' => ∃ q : Nat, v = some (.ref q) ∧ M q = none ∧ M' = zset (zset M q (.inl (0, ([] : List Value) ++ List.replicate (capA ([] : List Value).length ([] : List Value).length - ([] : List Value).length) .null))) a (.inr (6, fAL q (nI ([] : List Value).length) mc))) := by
  refine ZC.of (by decide) (Nat.le_of_ble_eq_true rfl) rfl (fun k hz0 => ?_)
  refine z_aload_n d_AL_grow2_0 rfl ?_
  refine z_get d_AL_grow2_1 zf_AL_9 (by assumption) rfl ?_
  refine z_alen d_AL_grow2_4 (by assumption) rfl ?_
  refine z_istore_n (i := 2) d_AL_grow2_5 rfl (by decide) rfl ?_
  refine z_iload_n d_AL_grow2_6 rfl ?_
  refine z_if_gt (tgt := 20) d_AL_grow2_7 (by decide) (fun h7 => (nI_nlt (Nat.le_refl 0) (by decide) h7).elim) (fun h7 => ?_)
  refine z_aload_n d_AL_grow2_10 rfl ?_
  refine z_get d_AL_grow2_11 zf_AL_9 (by assumption) rfl ?_
  refine z_gets d_AL_grow2_14 gw_89 ?_
  refine z_acmpR_eq (tgt := 45) d_AL_grow2_17 (by decide) (fun _ => ?_) (fun h => absurd hz h)
  refine z_aload_n d_AL_grow2_45 rfl ?_
  refine z_bipush (v := 10) d_AL_grow2_46 (by decide) ?_
  refine z_iload_n d_AL_grow2_48 rfl ?_
  refine z_mmax d_AL_grow2_49 gw_264 gw_68 gw_37 gw_69 (Nat.le_of_ble_eq_true rfl) (Nat.le_of_ble_eq_true rfl) (by simp) (by simp) ?_
  refine z_anew (t := 0) (N := 10) d_AL_grow2_52 gw_265 (by decide) rfl (by decide) (by decide) (by simp) (by simp [capA]) (fun q hq => ?_)
  have haq : zset M q (.inl (0, List.replicate 10 .null)) a = some (.inr (6, fAL arr (nI ([] : List Value).length) mc)) := by rw [zset_ne (zfresh_ne ha hq)]; exact ha
  refine z_dup_x1 d_AL_grow2_55 rfl rfl ?_
  refine z_put d_AL_grow2_56 zp_AL_9 (haq) rfl rfl ?_
  refine z_areturn d_AL_grow2_59 rfl (by simp) (by simp) ?_ (by simp) (by simp [capA])
  exact ⟨q, rfl, hq, rfl⟩
theorem c_AL_grow2 (l : Launch) (g : ZG) (M : ZM) (a arr : Nat) (mc : Int32) (vs : List Value) (ha : M a = some (.inr (6, fAL arr (nI vs.length) mc))) (hr : M arr = some (.inl (0, vs))) (hel : zElems vcl M vs) (hz : vs = [] → arr = g.2.2.2.1) (hc : vs.length ≤ 1000000) : ZC vcl tlx GT l g y_AL_grow2 b_AL_grow2 4 (Option.some (FieldType.array (FieldType.object "java/lang/Object"))) (ZRm 3 1 (capA vs.length vs.length)) [.ref a, .int (nI (vs.length + 1))] M (fun v M' => ∃ q : Nat, v = some (.ref q) ∧ M q = none ∧ M' = zset (zset M q (.inl (0, vs ++ List.replicate (capA vs.length vs.length - vs.length) .null))) a (.inr (6, fAL q (nI vs.length) mc))) := by
  cases vs with
  | nil => exact c_AL_grow20 l g M a arr mc ha hr (hz rfl)
  | cons v r => exact c_AL_grow2n l g M a arr mc (v :: r) ha hr hel (by simp) hc
set_option maxHeartbeats 4000000 in
set_option maxRecDepth 100000 in
theorem c_AL_grow (l : Launch) (g : ZG) (M : ZM) (a arr : Nat) (mc : Int32) (vs : List Value) (ha : M a = some (.inr (6, fAL arr (nI vs.length) mc))) (hr : M arr = some (.inl (0, vs))) (hel : zElems vcl M vs) (hz : vs = [] → arr = g.2.2.2.1) (hc : vs.length ≤ 1000000) : ZC vcl tlx GT l g y_AL_grow b_AL_grow 1 (Option.some (FieldType.array (FieldType.object "java/lang/Object"))) (ZRm 4 1 (capA vs.length vs.length)) [.ref a] M (fun v M' => ∃ q : Nat, v = some (.ref q) ∧ M q = none ∧ M' = zset (zset M q (.inl (0, vs ++ List.replicate (capA vs.length vs.length - vs.length) .null))) a (.inr (6, fAL q (nI vs.length) mc))) := by
  refine ZC.of (by decide) (Nat.le_of_ble_eq_true rfl) rfl (fun k hz0 => ?_)
  refine z_aload_n d_AL_grow_0 rfl ?_
  refine z_aload_n d_AL_grow_1 rfl ?_
  refine z_get d_AL_grow_2 zf_AL_48 (by assumption) rfl ?_
  refine z_iconst (v := 1) d_AL_grow_5 (by decide) ?_
  refine z_iadd d_AL_grow_6 ?_
  rw [nI_1]
  refine z_callV gt_good d_AL_grow_7 zv_AL_69 (by assumption) rfl (fun l => c_AL_grow2 l g M a arr mc vs ha hr hel hz hc) rfl rfl ⟨Nat.le_of_ble_eq_true rfl, Nat.le_of_ble_eq_true rfl⟩ (Nat.le_of_ble_eq_true rfl) (by simp) (by simp) ?_
  rintro _ _ ⟨q, rfl, hq, rfl⟩
  refine z_areturn d_AL_grow_10 rfl (by simp) (by simp) ?_ (by simp) (by simp)
  exact ⟨q, rfl, hq, rfl⟩
end
section
/-- an object that a list may hold -/
def zObj (M : ZM) (b : Nat) : Prop := ∃ (ci : Nat) (fs : List Value) (r : vw_C), M b = some (.inr (ci, fs)) ∧ vcl[ci]? = some r ∧ (r.1, "java/lang/Object") ∈ zCa
/-- the list object at a, its array at arr: it holds es; cap places -/
def ALr (M : ZM) (z a arr : Nat) (es : List Nat) (cap : Nat) : Prop := (∃ mc : Int32, M a = some (.inr (6, fAL arr (nI es.length) mc))) ∧ M arr = some (.inl (0, es.map Value.ref ++ List.replicate (cap - es.length) .null)) ∧ es.length ≤ cap ∧ (cap = 0 → arr = z)
theorem al_elems {M : ZM} {es : List Nat} (k : Nat) (h : ∀ e ∈ es, zObj M e) : zElems vcl M (es.map Value.ref ++ List.replicate k .null) := by
  intro v hv
  rcases List.mem_append.mp hv with hv | hv
  · obtain ⟨e, he, rfl⟩ := List.mem_map.mp hv
    obtain ⟨ci, fs, r, h1, h2, h3⟩ := h e he
    exact Or.inr ⟨e, ci, fs, r, rfl, h1, h2, h3⟩
  · exact Or.inl (List.mem_replicate.mp hv).2
theorem al_set (es : List Nat) (b : Nat) {cap k : Nat} (h : es.length ≤ cap) (hk : es.length < cap + k) : ((es.map Value.ref ++ List.replicate (cap - es.length) Value.null) ++ List.replicate k Value.null).set es.length (Value.ref b) = (es ++ [b]).map Value.ref ++ List.replicate (cap + k - (es ++ [b]).length) Value.null := by
  rw [List.append_assoc, List.replicate_append_replicate, List.set_append_right _ _ (by simp)]
  simp only [List.length_map, Nat.sub_self, List.map_append, List.length_append, List.length_singleton, List.append_assoc]
  congr 1
  rw [show cap - es.length + k = (cap + k - (es.length + 1)) + 1 by omega, List.replicate_succ]
  rfl
theorem zset_none {M : ZM} {a q : Nat} {e : ZE} (h : zset M a e q = none) : M q = none := by
  by_cases hq : q = a
  · subst hq
    rw [zset_self] at h
    cases h
  · rwa [zset_ne hq] at h
theorem zObj.set {M : ZM} {a b : Nat} {ci : Nat} {fs fs' : List Value} (h : zObj M b) (ha : M a = some (.inr (ci, fs))) : zObj (zset M a (.inr (ci, fs'))) b := by
  obtain ⟨c, f, r, h1, h2, h3⟩ := h
  by_cases hb : b = a
  · subst hb
    rw [ha] at h1
    cases h1
    exact ⟨ci, fs', r, zset_self _ _ _, h2, h3⟩
  · exact ⟨c, f, r, by rw [zset_ne hb]; exact h1, h2, h3⟩
theorem capA_lt {n cap : Nat} (h : n < cap) : capA n cap = cap := by unfold capA; rw [if_pos h]
theorem al_ne {M : ZM} {a b ci t : Nat} {fs vs : List Value} (ha : M a = some (.inr (ci, fs))) (hb : M b = some (.inl (t, vs))) : a ≠ b := by
  intro h
  rw [h, hb] at ha
  cases ha
theorem zne {M : ZM} {a b : Nat} {e1 e2 : ZE} (h1 : M a = some e1) (h2 : M b = some e2) (h : e1 ≠ e2) : a ≠ b := by
  intro hab
  rw [hab, h2] at h1
  exact h (Option.some.inj h1).symm
end
section
set_option maxHeartbeats 4000000 in
set_option maxRecDepth 100000 in
theorem c_AL_add2 (l : Launch) (g : ZG) (M : ZM) (a arr b n : Nat) (mc : Int32) (vs : List Value) (ha : M a = some (.inr (6, fAL arr (nI n) mc))) (hr : M arr = some (.inl (0, vs))) (hel : zElems vcl M vs) (hz : vs = [] → arr = g.2.2.2.1) (hc : vs.length ≤ 1000000) (hn : n ≤ vs.length) (hb : zObj M b) : ZC vcl tlx GT l g y_AL_add2 b_AL_add2 4 none (ZRm 5 (if n < vs.length then 0 else 1) (if n < vs.length then 0 else capA n vs.length)) [.ref a, .ref b, .ref arr, .int (nI n)] M (fun v M' => ∃ q : Nat, v = none ∧ (q = arr ∧ n < vs.length ∨ M q = none) ∧ M' a = some (.inr (6, fAL q (nI (n + 1)) mc)) ∧ M' q = some (.inl (0, (vs ++ List.replicate (capA n vs.length - vs.length) Value.null).set n (Value.ref b))) ∧ ∀ x, x ≠ a → x ≠ q → M' x = M x) := by
  refine ZC.of (by decide) (Nat.le_of_ble_eq_true rfl) rfl (fun k hz0 => ?_)
  obtain ⟨ci, bs, r, hb1, hb2, hb3⟩ := hb
  have hne := al_ne ha hr
  refine z_iload_n d_AL_add2_0 rfl ?_
  refine z_aload_n d_AL_add2_1 rfl ?_
  refine z_alen d_AL_add2_2 (hr) rfl ?_
  refine z_icmp_ne (tgt := 11) d_AL_add2_3 (by decide) (fun h3 => ?_) (fun h3 => ?_)
  · skip
    have hlt : n < vs.length := Nat.lt_of_le_of_ne hn (fun e => h3 (by rw [e]))
    have hcur : M arr = some (.inl (0, vs)) := hr
    have hca := ha
    have hbc := hb1
    have hin : n < vs.length := hlt
    have hcapn : vs ++ List.replicate (capA n vs.length - vs.length) .null = vs := by rw [capA_lt hlt]; simp
    refine z_aload_n d_AL_add2_11 rfl ?_
    refine z_iload_n d_AL_add2_12 rfl ?_
    refine z_aload_n d_AL_add2_13 rfl ?_
    refine z_aast d_AL_add2_14 hcur rfl (by omega) hin hbc hb2 (Or.inr hb3) ?_
    refine z_aload_n d_AL_add2_15 rfl ?_
    refine z_iload_n d_AL_add2_16 rfl ?_
    refine z_iconst (v := 1) d_AL_add2_17 (by decide) ?_
    refine z_iadd d_AL_add2_18 ?_
    rw [nI_1]
    refine z_put d_AL_add2_19 zp_AL_48 (by rw [zset_ne hne]; exact hca) rfl rfl ?_
    refine z_return d_AL_add2_22 rfl ?_ (by simp [hlt]) (by simp [hlt])
    first
      | exact ⟨arr, rfl, Or.inl ⟨rfl, hlt⟩, zset_self _ _ _, by rw [zset_ne (Ne.symm hne), zset_self, hcapn], fun x hx hy => by rw [zset_ne hx, zset_ne hy]⟩
      | exact ⟨q, rfl, Or.inr hq, zset_self _ _ _, by rw [zset_ne (Ne.symm hne), zset_self], fun x hx hy => by rw [zset_ne hx, zset_ne hy, zset_ne hx, zset_ne hy]⟩
  · skip
    obtain rfl : n = vs.length := (nI_eq (by omega) (by omega)).mp h3
    have hlt : ¬ vs.length < vs.length := Nat.lt_irrefl _
    refine z_aload_n d_AL_add2_6 rfl ?_
    refine z_callV gt_good d_AL_add2_7 zv_AL_129 (by assumption) rfl (fun l => c_AL_grow l g M a arr mc vs ha hr hel hz hc) rfl rfl ⟨Nat.le_of_ble_eq_true rfl, Nat.le_of_ble_eq_true rfl⟩ (Nat.le_of_ble_eq_true rfl) (by simp [hlt]) (by simp [hlt]) ?_
    rintro _ _ ⟨q, rfl, hq, rfl⟩
    have hne : a ≠ q := zfresh_ne ha hq
    have hcur : zset (zset M q (.inl (0, vs ++ List.replicate (capA vs.length vs.length - vs.length) .null))) a (.inr (6, fAL q (nI vs.length) mc)) q = some (.inl (0, vs ++ List.replicate (capA vs.length vs.length - vs.length) .null)) := by rw [zset_ne (Ne.symm hne), zset_self]
    have hca : zset (zset M q (.inl (0, vs ++ List.replicate (capA vs.length vs.length - vs.length) .null))) a (.inr (6, fAL q (nI vs.length) mc)) a = some (.inr (6, fAL q (nI vs.length) mc)) := zset_self _ _ _
    have hbq : b ≠ q := zfresh_ne hb1 hq
    have hbc : zObj (zset (zset M q (.inl (0, vs ++ List.replicate (capA vs.length vs.length - vs.length) .null))) a (.inr (6, fAL q (nI vs.length) mc))) b := zObj.set (ci := 6) (fs := fAL arr (nI vs.length) mc) ⟨ci, bs, r, by rw [zset_ne hbq]; exact hb1, hb2, hb3⟩ (by rw [zset_ne hne]; exact ha)
    obtain ⟨ci, bs, r, hbc, hb2, hb3⟩ := hbc
    have hin : vs.length < (vs ++ List.replicate (capA vs.length vs.length - vs.length) Value.null).length := by have := capA_gt (Nat.le_refl vs.length); simp; omega
    refine z_astore_n (i := 2) d_AL_add2_10 rfl (by decide) rfl ?_
    refine z_aload_n d_AL_add2_11 rfl ?_
    refine z_iload_n d_AL_add2_12 rfl ?_
    refine z_aload_n d_AL_add2_13 rfl ?_
    refine z_aast d_AL_add2_14 hcur rfl (by omega) hin hbc hb2 (Or.inr hb3) ?_
    refine z_aload_n d_AL_add2_15 rfl ?_
    refine z_iload_n d_AL_add2_16 rfl ?_
    refine z_iconst (v := 1) d_AL_add2_17 (by decide) ?_
    refine z_iadd d_AL_add2_18 ?_
    rw [nI_1]
    refine z_put d_AL_add2_19 zp_AL_48 (by rw [zset_ne hne]; exact hca) rfl rfl ?_
    refine z_return d_AL_add2_22 rfl ?_ (by simp [hlt]) (by simp [hlt])
    first
      | exact ⟨arr, rfl, Or.inl ⟨rfl, hlt⟩, zset_self _ _ _, by rw [zset_ne (Ne.symm hne), zset_self, hcapn], fun x hx hy => by rw [zset_ne hx, zset_ne hy]⟩
      | exact ⟨q, rfl, Or.inr hq, zset_self _ _ _, by rw [zset_ne (Ne.symm hne), zset_self], fun x hx hy => by rw [zset_ne hx, zset_ne hy, zset_ne hx, zset_ne hy]⟩
set_option maxHeartbeats 4000000 in
set_option maxRecDepth 100000 in
theorem c_AL_add (l : Launch) (g : ZG) (M : ZM) (a arr b : Nat) (es : List Nat) (cap : Nat) (hl : ALr M g.2.2.2.1 a arr es cap) (hc : cap ≤ 1000000) (hes : ∀ e ∈ es, zObj M e) (hb : zObj M b) : ZC vcl tlx GT l g y_AL_add b_AL_add 2 (Option.some FieldType.boolean) (ZRm 6 (if es.length < cap then 0 else 1) (if es.length < cap then 0 else capA es.length cap)) [.ref a, .ref b] M (fun v M' => ∃ q : Nat, v = some (.int 1) ∧ (q = arr ∨ M q = none) ∧ q ≠ g.2.2.2.1 ∧ ALr M' g.2.2.2.1 a q (es ++ [b]) (capA es.length cap) ∧ ∀ x, x ≠ a → x ≠ q → M' x = M x) := by
  refine ZC.of (by decide) (Nat.le_of_ble_eq_true rfl) rfl (fun k hz0 => ?_)
  obtain ⟨⟨mc, ha⟩, hr, hle, hz⟩ := hl
  have hne := al_ne ha hr
  generalize hvs : es.map Value.ref ++ List.replicate (cap - es.length) Value.null = vs at hr
  have hvl : vs.length = cap := by rw [← hvs]; simp; omega
  have ha1 : zset M a (.inr (6, fAL arr (nI es.length) (mc + 1))) a = some (.inr (6, fAL arr (nI es.length) (mc + 1))) := zset_self _ _ _
  have hr1 : zset M a (.inr (6, fAL arr (nI es.length) (mc + 1))) arr = some (.inl (0, vs)) := by rw [zset_ne (Ne.symm hne)]; exact hr
  refine z_aload_n d_AL_add_0 rfl ?_
  refine z_dup d_AL_add_1 rfl ?_
  refine z_get d_AL_add_2 zf_AL_63 (by assumption) rfl ?_
  refine z_iconst (v := 1) d_AL_add_5 (by decide) ?_
  refine z_iadd d_AL_add_6 ?_
  refine z_put d_AL_add_7 zp_AL_63 (ha) rfl rfl ?_
  refine z_aload_n d_AL_add_10 rfl ?_
  refine z_aload_n d_AL_add_11 rfl ?_
  refine z_aload_n d_AL_add_12 rfl ?_
  refine z_get d_AL_add_13 zf_AL_9 (ha1) rfl ?_
  refine z_aload_n d_AL_add_16 rfl ?_
  refine z_get d_AL_add_17 zf_AL_48 (ha1) rfl ?_
  refine z_callV gt_good d_AL_add_20 zv_AL_131 (ha1) rfl (fun l => c_AL_add2 l g _ a arr b es.length (mc + 1) vs ha1 hr1 (by rw [← hvs]; exact al_elems _ (fun e he => (hes e he).set ha)) (fun e => hz (by rw [e] at hvl; simpa using hvl.symm)) (by omega) (by omega) (hb.set ha)) rfl rfl ⟨Nat.le_of_ble_eq_true rfl, Nat.le_of_ble_eq_true rfl⟩ (Nat.le_of_ble_eq_true rfl) (by simp [hvl]) (by simp [hvl]) ?_
  rintro _ M' ⟨q, rfl, hq, h1, h2, h3⟩
  refine z_iconst (v := 1) d_AL_add_23 (by decide) ?_
  refine z_zreturn d_AL_add_24 rfl (by decide) ?_ (by simp [hvl]) (by simp [hvl])
  have hq0 : q = arr ∨ M q = none := hq.imp And.left zset_none
  have hqz : q ≠ g.2.2.2.1 := by
    rcases hq with ⟨e, hlt⟩ | e
    · rw [e]; exact zne hr hz0 (fun w => by rw [hvl] at hlt; cases w; simp at hvl; omega)
    · exact Ne.symm (zfresh_ne hz0 (zset_none e))
  have hqa : q ≠ a := by
    rcases hq0 with e | e
    · rw [e]; exact Ne.symm hne
    · exact Ne.symm (zfresh_ne ha e)
  refine ⟨q, rfl, hq0, hqz, ⟨⟨mc + 1, by rw [h1]; simp⟩, ?_, ?_, ?_⟩, fun x hx hy => by rw [h3 x hx hy, zset_ne hx]⟩
  · rw [h2, hvl, ← hvs]
    have hge := capA_ge hle
    have hgt := capA_gt hle
    have := al_set es b (cap := cap) (k := capA es.length cap - cap) hle (by omega)
    rw [this, show cap + (capA es.length cap - cap) = capA es.length cap by omega]
  · have := capA_gt hle
    simp
    omega
  · intro h0
    have := capA_gt hle
    omega
end
section
theorem zset_id {M : ZM} {a : Nat} {e : ZE} (h : M a = some e) : zset M a e = M := by
  funext q
  unfold zset
  split
  · rename_i hq
    rw [hq, h]
  · rfl
theorem zcopy_get (vs0 vs1 : List Value) (sp dp n j : Nat) (hj : j < vs1.length) : (zcopy vs0 vs1 sp dp n)[j]? = some (if dp ≤ j ∧ j < dp + n then vs0.getD (sp + (j - dp)) .null else vs1.getD j .null) := by
  unfold zcopy
  rw [List.getElem?_map, List.getElem?_range hj]
  rfl
theorem al_at (es : List Nat) (k j : Nat) : (es.map Value.ref ++ List.replicate k Value.null).getD j .null = if h : j < es.length then Value.ref es[j] else .null := by
  rw [List.getD_eq_getElem?_getD]
  by_cases h : j < es.length
  · rw [List.getElem?_append_left (by simpa using h), dif_pos h]
    simp [h]
  · rw [List.getElem?_append_right (by simpa using h), dif_neg h]
    simp only [List.length_map, List.getElem?_replicate]
    split <;> rfl
theorem al_ext {vs : List Value} {es : List Nat} {k : Nat} (hl : vs.length = es.length + k) (h : ∀ j, j < vs.length → vs[j]? = some (if h : j < es.length then Value.ref es[j] else .null)) : vs = es.map Value.ref ++ List.replicate k Value.null := by
  apply List.ext_getElem?
  intro j
  by_cases hj : j < vs.length
  · rw [h j hj]
    by_cases h2 : j < es.length
    · rw [dif_pos h2, List.getElem?_append_left (by simpa using h2)]
      simp [h2]
    · rw [dif_neg h2, List.getElem?_append_right (by simpa using h2)]
      simp only [List.length_map, List.getElem?_replicate]
      rw [if_pos (by omega)]
  · rw [List.getElem?_eq_none (by omega), List.getElem?_eq_none (by simp; omega)]
theorem al_ins (es : List Nat) (b i k : Nat) (hi : i ≤ es.length) : (zcopy (es.map Value.ref ++ List.replicate (k + 1) Value.null) (es.map Value.ref ++ List.replicate (k + 1) Value.null) i (i + 1) (es.length - i)).set i (Value.ref b) = (es.take i ++ b :: es.drop i).map Value.ref ++ List.replicate k Value.null := by
  have hlen : (es.take i ++ b :: es.drop i).length = es.length + 1 := by simp; omega
  refine al_ext (by rw [hlen]; simp [zcopy]; omega) (fun j hj => ?_)
  have hj' : j < es.length + (k + 1) := by simpa [zcopy] using hj
  by_cases hji : j = i
  · subst hji
    rw [List.getElem?_set_self (by simp [zcopy]; omega), dif_pos (by omega)]
    congr 2
    rw [List.getElem_append_right (by simp; omega)]
    simp [Nat.min_eq_left hi]
  · rw [List.getElem?_set_ne (Ne.symm hji), zcopy_get _ _ _ _ _ _ (by simpa using hj')]
    congr 1
    by_cases h1 : i + 1 ≤ j ∧ j < i + 1 + (es.length - i)
    · rw [if_pos h1, al_at, dif_pos (by omega), dif_pos (by omega)]
      congr 1
      rw [List.getElem_append_right (by simp; omega)]
      simp only [List.length_take, Nat.min_eq_left hi]
      rw [List.getElem_cons]
      rw [dif_neg (by omega), List.getElem_drop]
      congr 1
      all_goals omega
    · rw [if_neg h1, al_at]
      by_cases h2 : j < i
      · rw [dif_pos (by omega), dif_pos (by omega)]
        congr 1
        rw [List.getElem_append_left (by simp; omega), List.getElem_take]
      · rw [dif_neg (by omega), dif_neg (by omega)]
theorem al_rem (es : List Nat) (i k : Nat) (hi : i < es.length) : (zcopy (es.map Value.ref ++ List.replicate k Value.null) (es.map Value.ref ++ List.replicate k Value.null) (i + 1) i (es.length - 1 - i)).set (es.length - 1) Value.null = (es.eraseIdx i).map Value.ref ++ List.replicate (k + 1) Value.null := by
  have hlen : (es.eraseIdx i).length = es.length - 1 := by rw [List.length_eraseIdx, if_pos hi]
  refine al_ext (by rw [hlen]; simp [zcopy]; omega) (fun j hj => ?_)
  have hj' : j < es.length + k := by simpa [zcopy] using hj
  by_cases hjn : j = es.length - 1
  · subst hjn
    rw [List.getElem?_set_self (by simp [zcopy]; omega), dif_neg (by omega)]
  · rw [List.getElem?_set_ne (Ne.symm hjn), zcopy_get _ _ _ _ _ _ (by simpa using hj')]
    congr 1
    by_cases h1 : i ≤ j ∧ j < i + (es.length - 1 - i)
    · rw [if_pos h1, al_at, dif_pos (by omega), dif_pos (by omega)]
      congr 1
      rw [List.getElem_eraseIdx_of_ge (by omega) (by omega)]
      congr 1
      omega
    · rw [if_neg h1, al_at]
      by_cases h2 : j < i
      · rw [dif_pos (by omega), dif_pos (by omega)]
        congr 1
        rw [List.getElem_eraseIdx_of_lt (by omega) h2]
      · rw [dif_neg (by omega), dif_neg (by omega)]
theorem al_copy0 (vs : List Value) (sp dp : Nat) : zcopy vs vs sp dp 0 = vs := by
  apply List.ext_getElem?
  intro j
  by_cases hj : j < vs.length
  · rw [zcopy_get _ _ _ _ _ _ hj, if_neg (by omega)]
    simp [hj]
  · rw [List.getElem?_eq_none (by rw [zcopy_len]; omega), List.getElem?_eq_none (by omega)]
theorem al_wipe (vs : List Value) (v : Value) (j : Nat) (hj : j < vs.length) : (List.replicate j v ++ vs.drop j).set j v = List.replicate (j + 1) v ++ vs.drop (j + 1) := by
  rw [List.set_append_right _ _ (by simp)]
  simp only [List.length_replicate, Nat.sub_self]
  rw [List.drop_eq_getElem_cons hj, List.set_cons_zero, List.replicate_succ', List.append_assoc]
  rfl
end
section
set_option maxHeartbeats 4000000 in
set_option maxRecDepth 100000 in
theorem c_AL_rangeCheckForAdd (l : Launch) (g : ZG) (M : ZM) (a arr n i : Nat) (mc : Int32) (ha : M a = some (.inr (6, fAL arr (nI n) mc))) (hi : i ≤ n) (hn : n < 2 ^ 31) : ZC vcl tlx GT l g y_AL_rangeCheckForAdd b_AL_rangeCheckForAdd 2 none (ZRm 0 0 0) [.ref a, .int (nI i)] M (fun v M' => M = M' ∧ v = none) := by
  refine ZC.of (by decide) (Nat.le_of_ble_eq_true rfl) rfl (fun k hz0 => ?_)
  refine z_iload_n d_AL_rangeCheckForAdd_0 rfl ?_
  refine z_aload_n d_AL_rangeCheckForAdd_1 rfl ?_
  refine z_get d_AL_rangeCheckForAdd_2 zf_AL_48 (by assumption) rfl ?_
  refine z_icmp_gt (tgt := 12) d_AL_rangeCheckForAdd_5 (by decide) (fun h5 => False.elim (nI_nlt hi hn h5)) (fun h5 => ?_)
  refine z_iload_n d_AL_rangeCheckForAdd_8 rfl ?_
  refine z_if_ge (tgt := 25) d_AL_rangeCheckForAdd_9 (by decide) (fun h9 => ?_) (fun h9 => False.elim (h9 (nI_pos' (by omega))))
  refine z_return d_AL_rangeCheckForAdd_25 rfl ?_ (by decide) (by decide)
  exact ⟨rfl, rfl⟩
set_option maxHeartbeats 4000000 in
set_option maxRecDepth 100000 in
theorem t_AL_add3 (g : ZG) (k : ZK) (R : Room) (post : Option Value → ZM → Prop) (M : ZM) (n1 n2 a q b i n : Nat) (mc : Int32) (ws : List Value) (ha : M a = some (.inr (6, fAL q (nI n) mc))) (hq : M q = some (.inl (0, ws))) (hel : zElems vcl M ws) (hb : zObj M b) (hi : i ≤ n) (hn : n < ws.length) (hw : ws.length < 2 ^ 31) (hf : 1 ≤ R.frames) (hlo : (nativeFrameWords "java/lang/System" "arraycopy" 5 + 11) ≤ R.locals) (h1 : n1 ≤ R.cells) (h2 : n2 ≤ R.slots) (hp : post none (zset (zset M q (.inl (0, (zcopy ws ws i (i + 1) (n - i)).set i (.ref b)))) a (.inr (6, fAL q (nI (n + 1)) mc)))) : ZW vcl tlx GT "java/util/ArrayList" b_AL_add3 5 none "add" R g k post [some (.ref a), some (.int (nI i)), some (.ref b), some (.int (nI n)), some (.ref q)] 38 [] (M) n1 n2 := by
  obtain ⟨ci, bs, r, hb1, hb2, hb3⟩ := hb
  have hne := al_ne ha hq
  have hbq := al_ne hb1 hq
  refine z_aload d_AL_add3_38 rfl ?_
  refine z_iload_n d_AL_add3_40 rfl ?_
  refine z_aload d_AL_add3_41 rfl ?_
  refine z_iload_n d_AL_add3_43 rfl ?_
  refine z_iconst (v := 1) d_AL_add3_44 (by decide) ?_
  refine z_iadd d_AL_add3_45 ?_
  rw [nI_1]
  refine z_iload_n d_AL_add3_46 rfl ?_
  refine z_iload_n d_AL_add3_47 rfl ?_
  refine z_isub d_AL_add3_48 ?_
  rw [pk_sub hi]
  refine z_copy (sp := i) (dp := i + 1) (n := n - i) d_AL_add3_49 gw_358 gw_263 gw_262 gw_46 rfl hq hq (by omega) (by omega) hw hw (by omega) hel hf (by simpa using hlo) ?_
  refine z_aload d_AL_add3_52 rfl ?_
  refine z_iload_n d_AL_add3_54 rfl ?_
  refine z_aload_n d_AL_add3_55 rfl ?_
  refine z_aast d_AL_add3_56 (zset_self _ _ _) rfl (by omega) (by rw [zcopy_len]; omega) (by rw [zset_ne hbq]; exact hb1) hb2 (Or.inr hb3) ?_
  rw [zset_zset]
  refine z_aload_n d_AL_add3_57 rfl ?_
  refine z_iload_n d_AL_add3_58 rfl ?_
  refine z_iconst (v := 1) d_AL_add3_59 (by decide) ?_
  refine z_iadd d_AL_add3_60 ?_
  rw [nI_1]
  refine z_put d_AL_add3_61 zp_AL_48 (by rw [zset_ne hne]; exact ha) rfl rfl ?_
  refine z_return d_AL_add3_64 rfl ?_ h1 h2
  exact hp
set_option maxHeartbeats 4000000 in
set_option maxRecDepth 100000 in
theorem c_AL_add3 (l : Launch) (g : ZG) (M : ZM) (a arr b i : Nat) (es : List Nat) (cap : Nat) (hl : ALr M g.2.2.2.1 a arr es cap) (hc : cap ≤ 1000000) (hes : ∀ e ∈ es, zObj M e) (hb : zObj M b) (hi : i ≤ es.length) : ZC vcl tlx GT l g y_AL_add3 b_AL_add3 5 none (ZRm 5 (if es.length < cap then 0 else 1) (if es.length < cap then 0 else capA es.length cap)) [.ref a, .int (nI i), .ref b] M (fun v M' => ∃ q : Nat, v = none ∧ (q = arr ∨ M q = none) ∧ q ≠ g.2.2.2.1 ∧ ALr M' g.2.2.2.1 a q (es.take i ++ b :: es.drop i) (capA es.length cap) ∧ ∀ x, x ≠ a → x ≠ q → M' x = M x) := by
  refine ZC.of (by decide) (Nat.le_of_ble_eq_true rfl) rfl (fun k hz0 => ?_)
  obtain ⟨⟨mc, ha⟩, hr, hle, hz⟩ := hl
  have hne := al_ne ha hr
  generalize hvs : es.map Value.ref ++ List.replicate (cap - es.length) Value.null = vs at hr
  have hvl : vs.length = cap := by rw [← hvs]; simp; omega
  have hge := capA_ge hle
  have hgt := capA_gt hle
  have hln : (es.take i ++ b :: es.drop i).length = es.length + 1 := by simp; omega
  have ha1 : zset M a (.inr (6, fAL arr (nI es.length) (mc + 1))) a = some (.inr (6, fAL arr (nI es.length) (mc + 1))) := zset_self _ _ _
  have hr1 : zset M a (.inr (6, fAL arr (nI es.length) (mc + 1))) arr = some (.inl (0, vs)) := by rw [zset_ne (Ne.symm hne)]; exact hr
  have hel1 : zElems vcl (zset M a (.inr (6, fAL arr (nI es.length) (mc + 1)))) vs := by rw [← hvs]; exact al_elems _ (fun e he => (hes e he).set ha)
  have hb1 := hb.set (fs' := fAL arr (nI es.length) (mc + 1)) ha
  refine z_aload_n d_AL_add3_0 rfl ?_
  refine z_iload_n d_AL_add3_1 rfl ?_
  refine z_callV gt_good d_AL_add3_2 zv_AL_135 (ha) rfl (fun l => c_AL_rangeCheckForAdd l g M a arr es.length i mc ha hi (by omega)) rfl rfl ⟨Nat.le_of_ble_eq_true rfl, Nat.le_of_ble_eq_true rfl⟩ (Nat.le_of_ble_eq_true rfl) (by simp) (by simp) ?_
  rintro _ _ ⟨rfl, rfl⟩
  refine z_aload_n d_AL_add3_5 rfl ?_
  refine z_dup d_AL_add3_6 rfl ?_
  refine z_get d_AL_add3_7 zf_AL_63 (ha) rfl ?_
  refine z_iconst (v := 1) d_AL_add3_10 (by decide) ?_
  refine z_iadd d_AL_add3_11 ?_
  refine z_put d_AL_add3_12 zp_AL_63 (ha) rfl rfl ?_
  refine z_aload_n d_AL_add3_15 rfl ?_
  refine z_get d_AL_add3_16 zf_AL_48 (ha1) rfl ?_
  refine z_dup d_AL_add3_19 rfl ?_
  refine z_istore_n (i := 3) d_AL_add3_20 rfl (by decide) rfl ?_
  refine z_aload_n d_AL_add3_21 rfl ?_
  refine z_get d_AL_add3_22 zf_AL_9 (ha1) rfl ?_
  refine z_dup d_AL_add3_25 rfl ?_
  refine z_astore d_AL_add3_26 (by decide) rfl ?_
  refine z_alen d_AL_add3_28 (hr1) rfl ?_
  refine z_icmp_ne (tgt := 38) d_AL_add3_29 (by decide) (fun h29 => ?_) (fun h29 => ?_)
  · skip
    have hlt : es.length < cap := Nat.lt_of_le_of_ne hle (fun e => h29 (by rw [e, hvl]))
    refine t_AL_add3 g k _ _ _ _ _ a arr b i es.length (mc + 1) vs ha1 hr1 hel1 hb1 hi (by omega) (by omega) (Nat.le_of_ble_eq_true rfl) (Nat.le_of_ble_eq_true rfl) (by simp) (by simp) ?_
    refine ⟨arr, rfl, Or.inl rfl, zne hr hz0 (fun w => by cases w; simp at hvl; omega), ⟨⟨mc + 1, by rw [zset_self, hln]⟩, ?_, by omega, by omega⟩, fun x hx hy => by rw [zset_ne hx, zset_ne hy, zset_ne hx]⟩
    rw [zset_ne (Ne.symm hne), zset_self, ← hvs, capA_lt hlt, hln, show cap - es.length = (cap - (es.length + 1)) + 1 by omega, al_ins es b i _ hi]
    skip
  · skip
    have hcap : es.length = cap := by rw [hvl] at h29; exact (nI_eq (by omega) (by omega)).mp h29
    refine z_aload_n d_AL_add3_32 rfl ?_
    refine z_callV gt_good d_AL_add3_33 zv_AL_129 (ha1) rfl (fun l => c_AL_grow l g _ a arr (mc + 1) vs (by rw [hvl, ← hcap]; exact ha1) hr1 hel1 (fun e => hz (by rw [e] at hvl; simpa using hvl.symm)) (by omega)) rfl rfl ⟨Nat.le_of_ble_eq_true rfl, Nat.le_of_ble_eq_true rfl⟩ (Nat.le_of_ble_eq_true rfl) (by simp [hcap]) (by simp [hcap, hvl]) ?_
    rintro _ _ ⟨q, rfl, hq, rfl⟩
    refine z_astore d_AL_add3_36 (by decide) rfl ?_
    have hqm := zset_none hq
    have hqa : a ≠ q := zfresh_ne ha hqm
    refine t_AL_add3 g k _ _ _ _ _ a q b i es.length (mc + 1) (vs ++ List.replicate (capA vs.length vs.length - vs.length) Value.null) (by rw [zset_self, hvl, hcap]) (by rw [zset_ne (Ne.symm hqa), zset_self]) ?_ ?_ hi ?_ ?_ (Nat.le_of_ble_eq_true rfl) (Nat.le_of_ble_eq_true rfl) (by simp [hcap]) (by simp [hcap, hvl]) ?_
    · rw [← hvs, List.append_assoc, List.replicate_append_replicate]
      exact al_elems _ (fun e he => zObj.set (ci := 6) (fs := fAL arr (nI es.length) (mc + 1)) (by obtain ⟨c, f, r, h1, h2, h3⟩ := hes e he; have heq := zfresh_ne h1 hqm; obtain ⟨c, f, r, h1, h2, h3⟩ := (hes e he).set (fs' := fAL arr (nI es.length) (mc + 1)) ha; exact ⟨c, f, r, by rw [zset_ne heq]; exact h1, h2, h3⟩) (by rw [zset_ne hqa]; exact ha1))
    · refine zObj.set (ci := 6) (fs := fAL arr (nI es.length) (mc + 1)) ?_ (by rw [zset_ne hqa]; exact ha1)
      obtain ⟨c, f, r, h1, h2, h3⟩ := hb
      have heq := zfresh_ne h1 hqm
      obtain ⟨c, f, r, h1, h2, h3⟩ := hb1
      exact ⟨c, f, r, by rw [zset_ne heq]; exact h1, h2, h3⟩
    · rw [List.length_append, List.length_replicate, hvl]
      rw [hcap] at hgt
      omega
    · rw [List.length_append, List.length_replicate, hvl]
      have : capA cap cap ≤ 2000000 := by unfold capA; rw [if_neg (by omega)]; split <;> omega
      omega
    · refine ⟨q, rfl, Or.inr hqm, Ne.symm (zfresh_ne hz0 hqm), ⟨⟨mc + 1, by rw [zset_self, hln]⟩, ?_, by omega, by omega⟩, fun x hx hy => by rw [zset_ne hx, zset_ne hy, zset_ne hx, zset_ne hy, zset_ne hx]⟩
      rw [zset_ne (Ne.symm hqa), zset_self, hvl, ← hvs, List.append_assoc, List.replicate_append_replicate, hln]
      rw [show cap - es.length + (capA cap cap - cap) = (capA es.length cap - (es.length + 1)) + 1 by rw [hcap] at hgt ⊢; omega, al_ins es b i _ hi]
end
section
set_option maxHeartbeats 4000000 in
set_option maxRecDepth 100000 in
theorem t_AL_fastRemove (g : ZG) (k : ZK) (R : Room) (post : Option Value → ZM → Prop) (M : ZM) (n1 n2 a q i n : Nat) (mc : Int32) (ws : List Value) (ha : M a = some (.inr (6, fAL q (nI (n + 1)) mc))) (hq : M q = some (.inl (0, ws))) (hn : n < ws.length) (hw : ws.length < 2 ^ 31) (h1 : n1 ≤ R.cells) (h2 : n2 ≤ R.slots) (hp : post none (zset (zset M a (.inr (6, fAL q (nI n) mc))) q (.inl (0, ws.set n .null)))) : ZW vcl tlx GT "java/util/ArrayList" b_AL_fastRemove 4 none "fastRemove" R g k post [some (.ref a), some (.ref q), some (.int (nI i)), some (.int (nI n))] 34 [] (M) n1 n2 := by
  have hne := al_ne ha hq
  refine z_aload_n d_AL_fastRemove_34 rfl ?_
  refine z_aload_n d_AL_fastRemove_35 rfl ?_
  refine z_iload_n d_AL_fastRemove_36 rfl ?_
  refine z_dup_x1 d_AL_fastRemove_37 rfl rfl ?_
  refine z_put d_AL_fastRemove_38 zp_AL_48 (ha) rfl rfl ?_
  refine z_null d_AL_fastRemove_41 ?_
  refine z_aastN d_AL_fastRemove_42 (by rw [zset_ne (Ne.symm hne)]; exact hq) rfl (by omega) hn ?_
  refine z_return d_AL_fastRemove_43 rfl ?_ h1 h2
  exact hp
set_option maxHeartbeats 4000000 in
set_option maxRecDepth 100000 in
theorem c_AL_fastRemove (l : Launch) (g : ZG) (M : ZM) (a arr i n : Nat) (mc : Int32) (vs : List Value) (ha : M a = some (.inr (6, fAL arr (nI (n + 1)) mc))) (hr : M arr = some (.inl (0, vs))) (hel : zElems vcl M vs) (hi : i ≤ n) (hn : n < vs.length) (hw : vs.length < 2 ^ 31) : ZC vcl tlx GT l g y_AL_fastRemove b_AL_fastRemove 4 none (ZRm 1 0 0) [.ref a, .ref arr, .int (nI i)] M (fun v M' => v = none ∧ M' a = some (.inr (6, fAL arr (nI n) (mc + 1))) ∧ M' arr = some (.inl (0, (zcopy vs vs (i + 1) i (n - i)).set n .null)) ∧ ∀ x, x ≠ a → x ≠ arr → M' x = M x) := by
  refine ZC.of (by decide) (Nat.le_of_ble_eq_true rfl) rfl (fun k hz0 => ?_)
  have hne := al_ne ha hr
  have ha1 : zset M a (.inr (6, fAL arr (nI (n + 1)) (mc + 1))) a = some (.inr (6, fAL arr (nI (n + 1)) (mc + 1))) := zset_self _ _ _
  have hr1 : zset M a (.inr (6, fAL arr (nI (n + 1)) (mc + 1))) arr = some (.inl (0, vs)) := by rw [zset_ne (Ne.symm hne)]; exact hr
  have hel1 : zElems vcl (zset M a (.inr (6, fAL arr (nI (n + 1)) (mc + 1)))) vs := fun v hv => (hel v hv).imp id (fun ⟨b, c, f, r, e, h⟩ => by obtain ⟨c, f, r, h⟩ := zObj.set (fs' := fAL arr (nI (n + 1)) (mc + 1)) (⟨c, f, r, h⟩ : zObj M b) ha; exact ⟨b, c, f, r, e, h⟩)
  refine z_aload_n d_AL_fastRemove_0 rfl ?_
  refine z_dup d_AL_fastRemove_1 rfl ?_
  refine z_get d_AL_fastRemove_2 zf_AL_63 (ha) rfl ?_
  refine z_iconst (v := 1) d_AL_fastRemove_5 (by decide) ?_
  refine z_iadd d_AL_fastRemove_6 ?_
  refine z_put d_AL_fastRemove_7 zp_AL_63 (ha) rfl rfl ?_
  refine z_aload_n d_AL_fastRemove_10 rfl ?_
  refine z_get d_AL_fastRemove_11 zf_AL_48 (ha1) rfl ?_
  refine z_iconst (v := 1) d_AL_fastRemove_14 (by decide) ?_
  refine z_isub d_AL_fastRemove_15 ?_
  rw [nI_pred]
  refine z_dup d_AL_fastRemove_16 rfl ?_
  refine z_istore_n (i := 3) d_AL_fastRemove_17 rfl (by decide) rfl ?_
  refine z_iload_n d_AL_fastRemove_18 rfl ?_
  refine z_icmp_le (tgt := 34) d_AL_fastRemove_19 (by decide) (fun h19 => ?_) (fun h19 => ?_)
  · skip
    have hin : n = i := Nat.le_antisymm (Nat.not_lt.mp fun q => nI_ge q (by omega) h19) hi
    refine t_AL_fastRemove g k _ _ _ _ _ a arr i n (mc + 1) vs ha1 hr1 hn hw (by simp) (by simp) ⟨rfl, ?_, ?_, fun x hx hy => by rw [zset_ne hy, zset_ne hx, zset_ne hx]⟩
    · rw [zset_ne hne, zset_self]
    · rw [zset_self, hin, Nat.sub_self, al_copy0]
    skip
  · skip
    refine z_aload_n d_AL_fastRemove_22 rfl ?_
    refine z_iload_n d_AL_fastRemove_23 rfl ?_
    refine z_iconst (v := 1) d_AL_fastRemove_24 (by decide) ?_
    refine z_iadd d_AL_fastRemove_25 ?_
    rw [nI_1]
    refine z_aload_n d_AL_fastRemove_26 rfl ?_
    refine z_iload_n d_AL_fastRemove_27 rfl ?_
    refine z_iload_n d_AL_fastRemove_28 rfl ?_
    refine z_iload_n d_AL_fastRemove_29 rfl ?_
    refine z_isub d_AL_fastRemove_30 ?_
    rw [pk_sub hi]
    refine z_copy (sp := i + 1) (dp := i) (n := n - i) d_AL_fastRemove_31 gw_358 gw_263 gw_262 gw_46 rfl hr1 hr1 (by omega) (by omega) hw hw (by omega) hel1 (Nat.le_of_ble_eq_true rfl) (Nat.le_of_ble_eq_true rfl) ?_
    refine t_AL_fastRemove g k _ _ _ _ _ a arr i n (mc + 1) _ (by rw [zset_ne hne]; exact ha1) (zset_self _ _ _) (by rw [zcopy_len]; exact hn) (by rw [zcopy_len]; exact hw) (by simp) (by simp) ⟨rfl, ?_, ?_, fun x hx hy => by rw [zset_ne hy, zset_ne hx, zset_ne hy, zset_ne hx]⟩
    · rw [zset_ne hne, zset_self]
    · rw [zset_self]
set_option maxHeartbeats 4000000 in
set_option maxRecDepth 100000 in
theorem c_AL_remove (l : Launch) (g : ZG) (M : ZM) (a arr i : Nat) (es : List Nat) (cap : Nat) (hl : ALr M g.2.2.2.1 a arr es cap) (hc : cap ≤ 1000000) (hes : ∀ e ∈ es, zObj M e) (hi : i < es.length) : ZC vcl tlx GT l g y_AL_remove b_AL_remove 4 (Option.some (FieldType.object "java/lang/Object")) (ZRm 2 0 0) [.ref a, .int (nI i)] M (fun v M' => v = some (.ref es[i]) ∧ ALr M' g.2.2.2.1 a arr (es.eraseIdx i) cap ∧ ∀ x, x ≠ a → x ≠ arr → M' x = M x) := by
  refine ZC.of (by decide) (Nat.le_of_ble_eq_true rfl) rfl (fun k hz0 => ?_)
  obtain ⟨⟨mc, ha⟩, hr, hle, hz⟩ := hl
  have hln : es.length = (es.length - 1) + 1 := by omega
  have hlE : (es.eraseIdx i).length = es.length - 1 := by rw [List.length_eraseIdx, if_pos hi]
  have hvl : (es.map Value.ref ++ List.replicate (cap - es.length) Value.null).length = cap := by simp; omega
  have hvi : (es.map Value.ref ++ List.replicate (cap - es.length) Value.null)[i]? = some (.ref es[i]) := by rw [List.getElem?_append_left (by simpa using hi)]; simp [hi]
  refine z_iload_n d_AL_remove_0 rfl ?_
  refine z_aload_n d_AL_remove_1 rfl ?_
  refine z_get d_AL_remove_2 zf_AL_48 (ha) rfl ?_
  refine z_callS gt_good d_AL_remove_5 zs_AL_118 (fun l => c_Ob_checkIndex l g M i es.length hi (by omega)) rfl rfl ⟨Nat.le_of_ble_eq_true rfl, Nat.le_of_ble_eq_true rfl⟩ (Nat.le_of_ble_eq_true rfl) (Nat.le_of_ble_eq_true rfl) (Nat.le_of_ble_eq_true rfl) ?_
  rintro _ _ ⟨rfl, rfl⟩
  refine z_pop d_AL_remove_8 rfl ?_
  refine z_aload_n d_AL_remove_9 rfl ?_
  refine z_get d_AL_remove_10 zf_AL_9 (ha) rfl ?_
  refine z_astore_n (i := 2) d_AL_remove_13 rfl (by decide) rfl ?_
  refine z_aload_n d_AL_remove_14 rfl ?_
  refine z_iload_n d_AL_remove_15 rfl ?_
  refine z_aald d_AL_remove_16 hr rfl rfl (by omega) hvi ?_
  refine z_astore_n (i := 3) d_AL_remove_17 rfl (by decide) rfl ?_
  refine z_aload_n d_AL_remove_18 rfl ?_
  refine z_aload_n d_AL_remove_19 rfl ?_
  refine z_iload_n d_AL_remove_20 rfl ?_
  refine z_callV gt_good d_AL_remove_21 zv_AL_144 (ha) rfl (fun l => c_AL_fastRemove l g M a arr i (es.length - 1) mc _ (by rw [← hln]; exact ha) hr (al_elems _ hes) (by omega) (by omega) (by omega)) rfl rfl ⟨Nat.le_of_ble_eq_true rfl, Nat.le_of_ble_eq_true rfl⟩ (Nat.le_of_ble_eq_true rfl) (Nat.le_of_ble_eq_true rfl) (Nat.le_of_ble_eq_true rfl) ?_
  rintro _ M' ⟨rfl, h1, h2, h3⟩
  refine z_aload_n d_AL_remove_24 rfl ?_
  refine z_areturn d_AL_remove_25 rfl (by simp) (by simp) ?_ (by decide) (by decide)
  refine ⟨rfl, ⟨⟨mc + 1, by rw [h1, hlE]⟩, ?_, by omega, hz⟩, h3⟩
  rw [h2, al_rem es i _ hi, hlE, show cap - es.length + 1 = cap - (es.length - 1) by omega]
set_option maxHeartbeats 4000000 in
set_option maxRecDepth 100000 in
theorem lp_AL_clear (g : ZG) (k : ZK) (R : Room) (post : Option Value → ZM → Prop) (M : ZM) (n1 n2 a q n : Nat) (ws : List Value) (hn : n ≤ ws.length) (hw : ws.length < 2 ^ 31) (h1 : n1 ≤ R.cells) (h2 : n2 ≤ R.slots) (hp : post none (zset M q (.inl (0, List.replicate n .null ++ ws.drop n)))) : ∀ (d j : Nat), n - j = d → j ≤ n → ZW vcl tlx GT "java/util/ArrayList" b_AL_clear 4 none "clear" R g k post [some (.ref a), some (.ref q), some (.int (nI n)), some (.int (nI j))] 27 [] (zset M q (.inl (0, List.replicate j .null ++ ws.drop j))) n1 n2 := by
  intro d
  induction d with
  | zero =>
    intro j hd hj
    obtain rfl : j = n := by omega
    refine z_iload_n d_AL_clear_27 rfl ?_
    refine z_iload_n d_AL_clear_28 rfl ?_
    refine z_icmp_ge (tgt := 42) d_AL_clear_29 (by decide) (fun h29 => ?_) (fun h29 => (h29 (nI_le (Nat.le_refl _) (by omega))).elim)
    refine z_return d_AL_clear_42 rfl ?_ h1 h2
    exact hp
  | succ d ih =>
    intro j hd hj
    refine z_iload_n d_AL_clear_27 rfl ?_
    refine z_iload_n d_AL_clear_28 rfl ?_
    refine z_icmp_ge (tgt := 42) d_AL_clear_29 (by decide) (fun h29 => (nI_ge (show j < n by omega) (by omega) h29).elim) (fun h29 => ?_)
    refine z_aload_n d_AL_clear_32 rfl ?_
    refine z_iload_n d_AL_clear_33 rfl ?_
    refine z_null d_AL_clear_34 ?_
    refine z_aastN d_AL_clear_35 (zset_self _ _ _) rfl (by omega) (by simp; omega) ?_
    rw [zset_zset, al_wipe ws .null j (by omega)]
    refine z_iinc (v := nI (j + 1)) d_AL_clear_36 rfl (nI_1 j) (by decide) rfl ?_
    refine z_goto (tgt := 27) d_AL_clear_39 (by decide) ?_
    exact ih (j + 1) (by omega) (by omega)
set_option maxHeartbeats 4000000 in
set_option maxRecDepth 100000 in
theorem c_AL_clear (l : Launch) (g : ZG) (M : ZM) (a arr : Nat) (es : List Nat) (cap : Nat) (hl : ALr M g.2.2.2.1 a arr es cap) (hc : cap ≤ 1000000) : ZC vcl tlx GT l g y_AL_clear b_AL_clear 4 none (ZRm 0 0 0) [.ref a] M (fun v M' => v = none ∧ ALr M' g.2.2.2.1 a arr [] cap ∧ ∀ x, x ≠ a → x ≠ arr → M' x = M x) := by
  refine ZC.of (by decide) (Nat.le_of_ble_eq_true rfl) rfl (fun k hz0 => ?_)
  obtain ⟨⟨mc, ha⟩, hr, hle, hz⟩ := hl
  have hne := al_ne ha hr
  generalize hvs : es.map Value.ref ++ List.replicate (cap - es.length) Value.null = vs at hr
  have hvl : vs.length = cap := by rw [← hvs]; simp; omega
  have ha1 : zset M a (.inr (6, fAL arr (nI es.length) (mc + 1))) a = some (.inr (6, fAL arr (nI es.length) (mc + 1))) := zset_self _ _ _
  refine z_aload_n d_AL_clear_0 rfl ?_
  refine z_dup d_AL_clear_1 rfl ?_
  refine z_get d_AL_clear_2 zf_AL_63 (ha) rfl ?_
  refine z_iconst (v := 1) d_AL_clear_5 (by decide) ?_
  refine z_iadd d_AL_clear_6 ?_
  refine z_put d_AL_clear_7 zp_AL_63 (ha) rfl rfl ?_
  refine z_aload_n d_AL_clear_10 rfl ?_
  refine z_get d_AL_clear_11 zf_AL_9 (ha1) rfl ?_
  refine z_astore_n (i := 1) d_AL_clear_14 rfl (by decide) rfl ?_
  refine z_aload_n d_AL_clear_15 rfl ?_
  refine z_get d_AL_clear_16 zf_AL_48 (ha1) rfl ?_
  refine z_istore_n (i := 2) d_AL_clear_19 rfl (by decide) rfl ?_
  refine z_aload_n d_AL_clear_20 rfl ?_
  refine z_iconst (v := 0) d_AL_clear_21 (by decide) ?_
  refine z_dup_x1 d_AL_clear_22 rfl rfl ?_
  refine z_put d_AL_clear_23 zp_AL_48 (ha1) rfl rfl ?_
  refine z_istore_n (i := 3) d_AL_clear_26 rfl (by decide) rfl ?_
  rw [zset_zset]
  have hr1 : zset M a (.inr (6, fAL arr (nI 0) (mc + 1))) arr = some (.inl (0, List.replicate 0 Value.null ++ vs.drop 0)) := by rw [zset_ne (Ne.symm hne)]; exact hr
  have hw := lp_AL_clear g k (ZRm 0 0 0) (fun v M' => v = none ∧ ALr M' g.2.2.2.1 a arr [] cap ∧ ∀ x, x ≠ a → x ≠ arr → M' x = M x) (zset M a (.inr (6, fAL arr (nI 0) (mc + 1)))) 0 0 a arr es.length vs (by omega) (by omega) (by simp) (by simp) ?_ (es.length - 0) 0 rfl (by omega)
  · rw [zset_id hr1] at hw
    exact hw
  · refine ⟨rfl, ⟨⟨mc + 1, by rw [zset_ne hne, zset_self]; rfl⟩, ?_, by simp, hz⟩, fun x hx hy => by rw [zset_ne hy, zset_ne hx]⟩
    rw [zset_self, ← hvs, List.drop_left' (by simp), List.replicate_append_replicate]
    simp
    omega
set_option maxHeartbeats 4000000 in
set_option maxRecDepth 100000 in
theorem lp_Ar_fill (g : ZG) (k : ZK) (R : Room) (post : Option Value → ZM → Prop) (M : ZM) (n1 n2 q : Nat) (x : Int32) (ws : List Value) (hw : ws.length < 2 ^ 31) (h1 : n1 ≤ R.cells) (h2 : n2 ≤ R.slots) (hp : post none (zset M q (.inl (1, List.replicate ws.length (.int x))))) : ∀ (d j : Nat), ws.length - j = d → j ≤ ws.length → ZW vcl tlx GT "java/util/Arrays" b_Ar_fill 4 none "fill" R g k post [some (.ref q), some (.int x), some (.int (nI j)), some (.int (nI ws.length))] 5 [] (zset M q (.inl (1, List.replicate j (.int x) ++ ws.drop j))) n1 n2 := by
  intro d
  induction d with
  | zero =>
    intro j hd hj
    obtain rfl : j = ws.length := by omega
    refine z_iload_n d_Ar_fill_5 rfl ?_
    refine z_iload_n d_Ar_fill_6 rfl ?_
    refine z_icmp_ge (tgt := 20) d_Ar_fill_7 (by decide) (fun h7 => ?_) (fun h7 => (h7 (nI_le (Nat.le_refl _) (by omega))).elim)
    refine z_return d_Ar_fill_20 rfl ?_ h1 h2
    rw [List.drop_length, List.append_nil]
    exact hp
  | succ d ih =>
    intro j hd hj
    refine z_iload_n d_Ar_fill_5 rfl ?_
    refine z_iload_n d_Ar_fill_6 rfl ?_
    refine z_icmp_ge (tgt := 20) d_Ar_fill_7 (by decide) (fun h7 => (nI_ge (show j < ws.length by omega) (by omega) h7).elim) (fun h7 => ?_)
    refine z_aload_n d_Ar_fill_10 rfl ?_
    refine z_iload_n d_Ar_fill_11 rfl ?_
    refine z_iload_n d_Ar_fill_12 rfl ?_
    refine z_iast d_Ar_fill_13 (zset_self _ _ _) rfl (by omega) (by simp; omega) ?_
    rw [zset_zset, al_wipe ws (.int x) j (by omega)]
    refine z_iinc (v := nI (j + 1)) d_Ar_fill_14 rfl (nI_1 j) (by decide) rfl ?_
    refine z_goto (tgt := 5) d_Ar_fill_17 (by decide) ?_
    exact ih (j + 1) (by omega) (by omega)
set_option maxHeartbeats 4000000 in
set_option maxRecDepth 100000 in
theorem c_Ar_fill (l : Launch) (g : ZG) (M : ZM) (q : Nat) (x : Int32) (ws : List Value) (hr : M q = some (.inl (1, ws))) (hw : ws.length < 2 ^ 31) : ZC vcl tlx GT l g y_Ar_fill b_Ar_fill 4 none (ZRm 0 0 0) [.ref q, .int x] M (fun v M' => v = none ∧ M' = zset M q (.inl (1, List.replicate ws.length (.int x)))) := by
  refine ZC.of (by decide) (Nat.le_of_ble_eq_true rfl) rfl (fun k hz0 => ?_)
  refine z_iconst (v := 0) d_Ar_fill_0 (by decide) ?_
  refine z_istore_n (i := 2) d_Ar_fill_1 rfl (by decide) rfl ?_
  refine z_aload_n d_Ar_fill_2 rfl ?_
  refine z_alen d_Ar_fill_3 (hr) rfl ?_
  refine z_istore_n (i := 3) d_Ar_fill_4 rfl (by decide) rfl ?_
  have hr1 : M q = some (.inl (1, List.replicate 0 (.int x) ++ ws.drop 0)) := hr
  have hh := lp_Ar_fill g k (ZRm 0 0 0) (fun v M' => v = none ∧ M' = zset M q (.inl (1, List.replicate ws.length (.int x)))) M 0 0 q x ws hw (by simp) (by simp) ⟨rfl, rfl⟩ (ws.length - 0) 0 rfl (by omega)
  rw [zset_id hr1] at hh
  exact hh
end
section
abbrev fQ (la pa : Nat) (kd pe ho : Int32) (us : Int64) (ln tn : Int32) (tv : Int64) (tr : Value) : List Value := [.ref la, .ref pa, .int kd, .int pe, .int ho, .long us, .int ln, .int tn, .long tv, tr]
abbrev kTrans (kd : Int32) : Prop := ¬ kd = -1 ∧ ¬ kd < 2
abbrev kTemp (kd : Int32) : Prop := ¬ kd = -1 ∧ kd < 2
abbrev kProt (kd : Int32) : Prop := kd = 1 ∨ kd = 3
set_option maxHeartbeats 4000000 in
set_option maxRecDepth 100000 in
theorem c_It_init (l : Launch) (g : ZG) (M : ZM) (a : Nat) (v0 : Value) (v : Int64) (ha : M a = some (.inr (2, [v0]))) : ZC vcl tlx GT l g y_It_init b_It_init 3 none (ZRm 1 0 0) [.ref a, .long v] M (fun r M' => r = none ∧ M' = zset M a (.inr (2, [.long v]))) := by
  refine ZC.of (by decide) (Nat.le_of_ble_eq_true rfl) rfl (fun k hz0 => ?_)
  refine z_aload_n d_It_init_0 rfl ?_
  refine z_objInit d_It_init_1 gw_207 gw_62 gw_63 (Nat.le_of_ble_eq_true rfl) (Nat.le_of_ble_eq_true rfl) ?_
  refine z_aload_n d_It_init_4 rfl ?_
  refine z_lload_n d_It_init_5 rfl ?_
  refine z_put d_It_init_6 zp_It_7 (by assumption) rfl rfl ?_
  refine z_return d_It_init_9 rfl ?_ (by decide) (by decide)
  exact ⟨rfl, rfl⟩
set_option maxHeartbeats 4000000 in
set_option maxRecDepth 100000 in
theorem c_Ta_init (l : Launch) (g : ZG) (M : ZM) (a : Nat) (v0 v1 : Value) (c : Int32) (ha : M a = some (.inr (3, [v0, v1]))) : ZC vcl tlx GT l g y_Ta_init b_Ta_init 2 none (ZRm 1 0 0) [.ref a, .int c] M (fun r M' => r = none ∧ M' = zset M a (.inr (3, [.int c, .int 1]))) := by
  refine ZC.of (by decide) (Nat.le_of_ble_eq_true rfl) rfl (fun k hz0 => ?_)
  refine z_aload_n d_Ta_init_0 rfl ?_
  refine z_objInit d_Ta_init_1 gw_299 gw_62 gw_63 (Nat.le_of_ble_eq_true rfl) (Nat.le_of_ble_eq_true rfl) ?_
  refine z_aload_n d_Ta_init_4 rfl ?_
  refine z_iload_n d_Ta_init_5 rfl ?_
  refine z_putF d_Ta_init_6 zp_Ta_7 rfl (by assumption) rfl rfl ?_
  refine z_aload_n d_Ta_init_9 rfl ?_
  refine z_iconst (v := 1) d_Ta_init_10 (by decide) ?_
  refine z_put d_Ta_init_11 zp_Ta_13 (zset_self _ _ _) rfl rfl ?_
  refine z_return d_Ta_init_14 rfl ?_ (by decide) (by decide)
  exact ⟨rfl, by rw [zset_zset]; rfl⟩
set_option maxHeartbeats 4000000 in
set_option maxRecDepth 100000 in
theorem c_De_init (l : Launch) (g : ZG) (M : ZM) (a : Nat) (v0 v1 v2 : Value) (n c : Int32) (u : Int64) (ha : M a = some (.inr (5, [v0, v1, v2]))) : ZC vcl tlx GT l g y_De_init b_De_init 5 none (ZRm 1 0 0) [.ref a, .int n, .int c, .long u] M (fun r M' => r = none ∧ M' = zset M a (.inr (5, [.int n, .int c, .long u]))) := by
  refine ZC.of (by decide) (Nat.le_of_ble_eq_true rfl) rfl (fun k hz0 => ?_)
  refine z_aload_n d_De_init_0 rfl ?_
  refine z_objInit d_De_init_1 gw_431 gw_62 gw_63 (Nat.le_of_ble_eq_true rfl) (Nat.le_of_ble_eq_true rfl) ?_
  refine z_aload_n d_De_init_4 rfl ?_
  refine z_iload_n d_De_init_5 rfl ?_
  refine z_putF d_De_init_6 zp_De_7 rfl (by assumption) rfl rfl ?_
  refine z_aload_n d_De_init_9 rfl ?_
  refine z_iload_n d_De_init_10 rfl ?_
  refine z_putF d_De_init_11 zp_De_13 rfl (zset_self _ _ _) rfl rfl ?_
  refine z_aload_n d_De_init_14 rfl ?_
  refine z_lload_n d_De_init_15 rfl ?_
  refine z_putF d_De_init_16 zp_De_16 rfl (zset_self _ _ _) rfl rfl ?_
  refine z_return d_De_init_19 rfl ?_ (by decide) (by decide)
  exact ⟨rfl, by rw [zset_zset, zset_zset]; rfl⟩
set_option maxHeartbeats 4000000 in
set_option maxRecDepth 100000 in
theorem c_Tr_init (l : Launch) (g : ZG) (M : ZM) (a : Nat) (v0 v1 v2 v3 v4 : Value) (n c : Int32) (ha : M a = some (.inr (4, [v0, v1, v2, v3, v4]))) : ZC vcl tlx GT l g y_Tr_init b_Tr_init 3 none (ZRm 1 0 0) [.ref a, .int n, .int c] M (fun r M' => r = none ∧ M' = zset M a (.inr (4, [.int n, .int c, .int 1, v3, v4]))) := by
  refine ZC.of (by decide) (Nat.le_of_ble_eq_true rfl) rfl (fun k hz0 => ?_)
  refine z_aload_n d_Tr_init_0 rfl ?_
  refine z_objInit d_Tr_init_1 gw_379 gw_62 gw_63 (Nat.le_of_ble_eq_true rfl) (Nat.le_of_ble_eq_true rfl) ?_
  refine z_aload_n d_Tr_init_4 rfl ?_
  refine z_iload_n d_Tr_init_5 rfl ?_
  refine z_putF d_Tr_init_6 zp_Tr_7 rfl (by assumption) rfl rfl ?_
  refine z_aload_n d_Tr_init_9 rfl ?_
  refine z_iload_n d_Tr_init_10 rfl ?_
  refine z_putF d_Tr_init_11 zp_Tr_13 rfl (zset_self _ _ _) rfl rfl ?_
  refine z_aload_n d_Tr_init_14 rfl ?_
  refine z_iconst (v := 1) d_Tr_init_15 (by decide) ?_
  refine z_put d_Tr_init_16 zp_Tr_16 (zset_self _ _ _) rfl rfl ?_
  refine z_return d_Tr_init_19 rfl ?_ (by decide) (by decide)
  exact ⟨rfl, by rw [zset_zset, zset_zset]; rfl⟩
set_option maxHeartbeats 4000000 in
set_option maxRecDepth 100000 in
theorem c_Qu_isTransientKind (l : Launch) (g : ZG) (M : ZM) (kd : Int32)  : ZC vcl tlx GT l g y_Qu_isTransientKind b_Qu_isTransientKind 1 (Option.some FieldType.boolean) (ZRm 0 0 0) [.int kd] M (fun r M' => M = M' ∧ r = some (.int (if kd < 2 then 0 else 1))) := by
  refine ZC.of (by decide) (Nat.le_of_ble_eq_true rfl) rfl (fun k hz0 => ?_)
  refine z_iload_n d_Qu_isTransientKind_0 rfl ?_
  refine z_iconst (v := 2) d_Qu_isTransientKind_1 (by decide) ?_
  refine z_icmp_lt (tgt := 9) d_Qu_isTransientKind_2 (by decide) (fun h2 => ?_) (fun h2 => ?_)
  · skip
    refine z_iconst (v := 0) d_Qu_isTransientKind_9 (by decide) ?_
    refine z_zreturn d_Qu_isTransientKind_10 rfl (by decide) ?_ (by decide) (by decide)
    exact ⟨rfl, by simp [h2]⟩
  · skip
    refine z_iconst (v := 1) d_Qu_isTransientKind_5 (by decide) ?_
    refine z_goto (tgt := 10) d_Qu_isTransientKind_6 (by decide) ?_
    refine z_zreturn d_Qu_isTransientKind_10 rfl (by decide) ?_ (by decide) (by decide)
    exact ⟨rfl, by simp [h2]⟩
set_option maxHeartbeats 4000000 in
set_option maxRecDepth 100000 in
theorem c_Qu_isProtectedKind (l : Launch) (g : ZG) (M : ZM) (kd : Int32)  : ZC vcl tlx GT l g y_Qu_isProtectedKind b_Qu_isProtectedKind 1 (Option.some FieldType.boolean) (ZRm 0 0 0) [.int kd] M (fun r M' => M = M' ∧ r = some (.int (if kProt kd then 1 else 0))) := by
  refine ZC.of (by decide) (Nat.le_of_ble_eq_true rfl) rfl (fun k hz0 => ?_)
  refine z_iload_n d_Qu_isProtectedKind_0 rfl ?_
  refine z_iconst (v := 1) d_Qu_isProtectedKind_1 (by decide) ?_
  refine z_icmp_eq (tgt := 10) d_Qu_isProtectedKind_2 (by decide) (fun h2 => ?_) (fun h2 => ?_)
  · skip
    refine z_iconst (v := 1) d_Qu_isProtectedKind_10 (by decide) ?_
    refine z_goto (tgt := 15) d_Qu_isProtectedKind_11 (by decide) ?_
    refine z_zreturn d_Qu_isProtectedKind_15 rfl (by decide) ?_ (by decide) (by decide)
    exact ⟨rfl, by first | simp [h2, h7] | simp [h2]⟩
  · skip
    refine z_iload_n d_Qu_isProtectedKind_5 rfl ?_
    refine z_iconst (v := 3) d_Qu_isProtectedKind_6 (by decide) ?_
    refine z_icmp_ne (tgt := 14) d_Qu_isProtectedKind_7 (by decide) (fun h7 => ?_) (fun h7 => ?_)
    · skip
      refine z_iconst (v := 0) d_Qu_isProtectedKind_14 (by decide) ?_
      refine z_zreturn d_Qu_isProtectedKind_15 rfl (by decide) ?_ (by decide) (by decide)
      exact ⟨rfl, by first | simp [h2, h7] | simp [h2]⟩
    · skip
      refine z_iconst (v := 1) d_Qu_isProtectedKind_10 (by decide) ?_
      refine z_goto (tgt := 15) d_Qu_isProtectedKind_11 (by decide) ?_
      refine z_zreturn d_Qu_isProtectedKind_15 rfl (by decide) ?_ (by decide) (by decide)
      exact ⟨rfl, by first | simp [h2, h7] | simp [h2]⟩
set_option maxHeartbeats 4000000 in
set_option maxRecDepth 100000 in
theorem c_Qu_isTransient (l : Launch) (g : ZG) (M : ZM) (a la pa : Nat) (kd pe ho : Int32) (us : Int64) (ln tn : Int32) (tv : Int64) (tr : Value) (ha : M a = some (.inr (1, fQ la pa kd pe ho us ln tn tv tr))) : ZC vcl tlx GT l g y_Qu_isTransient b_Qu_isTransient 1 (Option.some FieldType.boolean) (ZRm 1 0 0) [.ref a] M (fun r M' => M = M' ∧ r = some (.int (if kTrans kd then 1 else 0))) := by
  refine ZC.of (by decide) (Nat.le_of_ble_eq_true rfl) rfl (fun k hz0 => ?_)
  refine z_aload_n d_Qu_isTransient_0 rfl ?_
  refine z_get d_Qu_isTransient_1 zf_Qu_22 (by assumption) rfl ?_
  refine z_iconst (v := (-1)) d_Qu_isTransient_4 (by decide) ?_
  refine z_icmp_eq (tgt := 22) d_Qu_isTransient_5 (by decide) (fun h5 => ?_) (fun h5 => ?_)
  · skip
    refine z_iconst (v := 0) d_Qu_isTransient_22 (by decide) ?_
    refine z_zreturn d_Qu_isTransient_23 rfl (by decide) ?_ (by decide) (by decide)
    exact ⟨rfl, by simp_all⟩
  · skip
    refine z_aload_n d_Qu_isTransient_8 rfl ?_
    refine z_get d_Qu_isTransient_9 zf_Qu_22 (by assumption) rfl ?_
    refine z_callS gt_good d_Qu_isTransient_12 zs_Qu_26 (fun l => c_Qu_isTransientKind l g M kd) rfl rfl ⟨Nat.le_of_ble_eq_true rfl, Nat.le_of_ble_eq_true rfl⟩ (Nat.le_of_ble_eq_true rfl) (Nat.le_of_ble_eq_true rfl) (Nat.le_of_ble_eq_true rfl) ?_
    rintro _ _ ⟨rfl, rfl⟩
    refine z_if_eq (tgt := 22) d_Qu_isTransient_15 (by decide) (fun h15 => ?_) (fun h15 => ?_)
    · skip
      refine z_iconst (v := 0) d_Qu_isTransient_22 (by decide) ?_
      refine z_zreturn d_Qu_isTransient_23 rfl (by decide) ?_ (by decide) (by decide)
      exact ⟨rfl, by simp_all⟩
    · skip
      refine z_iconst (v := 1) d_Qu_isTransient_18 (by decide) ?_
      refine z_goto (tgt := 23) d_Qu_isTransient_19 (by decide) ?_
      refine z_zreturn d_Qu_isTransient_23 rfl (by decide) ?_ (by decide) (by decide)
      exact ⟨rfl, by simp_all⟩
set_option maxHeartbeats 4000000 in
set_option maxRecDepth 100000 in
theorem c_Qu_isTemporary (l : Launch) (g : ZG) (M : ZM) (a la pa : Nat) (kd pe ho : Int32) (us : Int64) (ln tn : Int32) (tv : Int64) (tr : Value) (ha : M a = some (.inr (1, fQ la pa kd pe ho us ln tn tv tr))) : ZC vcl tlx GT l g y_Qu_isTemporary b_Qu_isTemporary 1 (Option.some FieldType.boolean) (ZRm 1 0 0) [.ref a] M (fun r M' => M = M' ∧ r = some (.int (if kTemp kd then 1 else 0))) := by
  refine ZC.of (by decide) (Nat.le_of_ble_eq_true rfl) rfl (fun k hz0 => ?_)
  refine z_aload_n d_Qu_isTemporary_0 rfl ?_
  refine z_get d_Qu_isTemporary_1 zf_Qu_22 (by assumption) rfl ?_
  refine z_iconst (v := (-1)) d_Qu_isTemporary_4 (by decide) ?_
  refine z_icmp_eq (tgt := 22) d_Qu_isTemporary_5 (by decide) (fun h5 => ?_) (fun h5 => ?_)
  · skip
    refine z_iconst (v := 0) d_Qu_isTemporary_22 (by decide) ?_
    refine z_zreturn d_Qu_isTemporary_23 rfl (by decide) ?_ (by decide) (by decide)
    exact ⟨rfl, by simp_all⟩
  · skip
    refine z_aload_n d_Qu_isTemporary_8 rfl ?_
    refine z_get d_Qu_isTemporary_9 zf_Qu_22 (by assumption) rfl ?_
    refine z_callS gt_good d_Qu_isTemporary_12 zs_Qu_26 (fun l => c_Qu_isTransientKind l g M kd) rfl rfl ⟨Nat.le_of_ble_eq_true rfl, Nat.le_of_ble_eq_true rfl⟩ (Nat.le_of_ble_eq_true rfl) (Nat.le_of_ble_eq_true rfl) (Nat.le_of_ble_eq_true rfl) ?_
    rintro _ _ ⟨rfl, rfl⟩
    refine z_if_ne (tgt := 22) d_Qu_isTemporary_15 (by decide) (fun h15 => ?_) (fun h15 => ?_)
    · skip
      refine z_iconst (v := 0) d_Qu_isTemporary_22 (by decide) ?_
      refine z_zreturn d_Qu_isTemporary_23 rfl (by decide) ?_ (by decide) (by decide)
      exact ⟨rfl, by simp_all⟩
    · skip
      refine z_iconst (v := 1) d_Qu_isTemporary_18 (by decide) ?_
      refine z_goto (tgt := 23) d_Qu_isTemporary_19 (by decide) ?_
      refine z_zreturn d_Qu_isTemporary_23 rfl (by decide) ?_ (by decide) (by decide)
      exact ⟨rfl, by simp_all⟩
set_option maxHeartbeats 4000000 in
set_option maxRecDepth 100000 in
theorem c_Qu_isLocked (l : Launch) (g : ZG) (M : ZM) (a la pa : Nat) (kd pe ho : Int32) (us : Int64) (ln tn : Int32) (tv : Int64) (tr : Value) (ha : M a = some (.inr (1, fQ la pa kd pe ho us ln tn tv tr))) : ZC vcl tlx GT l g y_Qu_isLocked b_Qu_isLocked 1 (Option.some FieldType.boolean) (ZRm 0 0 0) [.ref a] M (fun r M' => M = M' ∧ r = some (.int (if pe ≤ 0 then 0 else 1))) := by
  refine ZC.of (by decide) (Nat.le_of_ble_eq_true rfl) rfl (fun k hz0 => ?_)
  refine z_aload_n d_Qu_isLocked_0 rfl ?_
  refine z_get d_Qu_isLocked_1 zf_Qu_30 (by assumption) rfl ?_
  refine z_if_le (tgt := 11) d_Qu_isLocked_4 (by decide) (fun h4 => ?_) (fun h4 => ?_)
  · skip
    refine z_iconst (v := 0) d_Qu_isLocked_11 (by decide) ?_
    refine z_zreturn d_Qu_isLocked_12 rfl (by decide) ?_ (by decide) (by decide)
    exact ⟨rfl, by simp [h4]⟩
  · skip
    refine z_iconst (v := 1) d_Qu_isLocked_7 (by decide) ?_
    refine z_goto (tgt := 12) d_Qu_isLocked_8 (by decide) ?_
    refine z_zreturn d_Qu_isLocked_12 rfl (by decide) ?_ (by decide) (by decide)
    exact ⟨rfl, by simp [h4]⟩
set_option maxHeartbeats 4000000 in
set_option maxRecDepth 100000 in
theorem c_Qu_standing (l : Launch) (g : ZG) (M : ZM) (a la pa : Nat) (kd pe ho : Int32) (us : Int64) (ln tn : Int32) (tv : Int64) (tr : Value) (arr : Nat) (n mc : Int32) (ha : M a = some (.inr (1, fQ la pa kd pe ho us ln tn tv tr))) (hl : M la = some (.inr (6, fAL arr n mc))) : ZC vcl tlx GT l g y_Qu_standing b_Qu_standing 1 (Option.some FieldType.int) (ZRm 1 0 0) [.ref a] M (fun r M' => M = M' ∧ r = some (.int (n - pe))) := by
  refine ZC.of (by decide) (Nat.le_of_ble_eq_true rfl) rfl (fun k hz0 => ?_)
  refine z_aload_n d_Qu_standing_0 rfl ?_
  refine z_get d_Qu_standing_1 zf_Qu_12 (ha) rfl ?_
  refine z_callV gt_good d_Qu_standing_4 zv_Qu_33 (hl) rfl (fun l => c_AL_size l g M la arr n mc hl) rfl rfl ⟨Nat.le_of_ble_eq_true rfl, Nat.le_of_ble_eq_true rfl⟩ (Nat.le_of_ble_eq_true rfl) (Nat.le_of_ble_eq_true rfl) (Nat.le_of_ble_eq_true rfl) ?_
  rintro _ _ ⟨rfl, rfl⟩
  refine z_aload_n d_Qu_standing_7 rfl ?_
  refine z_get d_Qu_standing_8 zf_Qu_30 (ha) rfl ?_
  refine z_isub d_Qu_standing_11 ?_
  refine z_ireturn d_Qu_standing_12 rfl ?_ (by decide) (by decide)
  exact ⟨rfl, rfl⟩
set_option maxHeartbeats 4000000 in
set_option maxRecDepth 100000 in
theorem c_Qu_holds (l : Launch) (g : ZG) (M : ZM) (a la pa : Nat) (kd pe ho : Int32) (us : Int64) (ln tn : Int32) (tv : Int64) (tr : Value) (arr : Nat) (n mc : Int32) (i : Int32) (ha : M a = some (.inr (1, fQ la pa kd pe ho us ln tn tv tr))) (hl : M la = some (.inr (6, fAL arr n mc))) : ZC vcl tlx GT l g y_Qu_holds b_Qu_holds 2 (Option.some FieldType.boolean) (ZRm 1 0 0) [.ref a, .int i] M (fun r M' => M = M' ∧ r = some (.int (if i < 1 ∨ n < i then 0 else 1))) := by
  refine ZC.of (by decide) (Nat.le_of_ble_eq_true rfl) rfl (fun k hz0 => ?_)
  refine z_iload_n d_Qu_holds_0 rfl ?_
  refine z_iconst (v := 1) d_Qu_holds_1 (by decide) ?_
  refine z_icmp_lt (tgt := 20) d_Qu_holds_2 (by decide) (fun h2 => ?_) (fun h2 => ?_)
  · skip
    refine z_iconst (v := 0) d_Qu_holds_20 (by decide) ?_
    refine z_zreturn d_Qu_holds_21 rfl (by decide) ?_ (by decide) (by decide)
    exact ⟨rfl, by first | simp [h2, h13] | simp [h2]⟩
  · skip
    refine z_iload_n d_Qu_holds_5 rfl ?_
    refine z_aload_n d_Qu_holds_6 rfl ?_
    refine z_get d_Qu_holds_7 zf_Qu_12 (ha) rfl ?_
    refine z_callV gt_good d_Qu_holds_10 zv_Qu_33 (hl) rfl (fun l => c_AL_size l g M la arr n mc hl) rfl rfl ⟨Nat.le_of_ble_eq_true rfl, Nat.le_of_ble_eq_true rfl⟩ (Nat.le_of_ble_eq_true rfl) (Nat.le_of_ble_eq_true rfl) (Nat.le_of_ble_eq_true rfl) ?_
    rintro _ _ ⟨rfl, rfl⟩
    refine z_icmp_gt (tgt := 20) d_Qu_holds_13 (by decide) (fun h13 => ?_) (fun h13 => ?_)
    · skip
      refine z_iconst (v := 0) d_Qu_holds_20 (by decide) ?_
      refine z_zreturn d_Qu_holds_21 rfl (by decide) ?_ (by decide) (by decide)
      exact ⟨rfl, by first | simp [h2, h13] | simp [h2]⟩
    · skip
      refine z_iconst (v := 1) d_Qu_holds_16 (by decide) ?_
      refine z_goto (tgt := 21) d_Qu_holds_17 (by decide) ?_
      refine z_zreturn d_Qu_holds_21 rfl (by decide) ?_ (by decide) (by decide)
      exact ⟨rfl, by first | simp [h2, h13] | simp [h2]⟩
set_option maxHeartbeats 4000000 in
set_option maxRecDepth 100000 in
theorem c_Qu_touch (l : Launch) (g : ZG) (M : ZM) (a la pa : Nat) (kd pe ho : Int32) (us : Int64) (ln tn : Int32) (tv : Int64) (tr : Value) (t : Int64) (ha : M a = some (.inr (1, fQ la pa kd pe ho us ln tn tv tr))) : ZC vcl tlx GT l g y_Qu_touch b_Qu_touch 3 none (ZRm 0 0 0) [.ref a, .long t] M (fun r M' => r = none ∧ M' = zset M a (.inr (1, fQ la pa kd pe ho t ln tn tv tr))) := by
  refine ZC.of (by decide) (Nat.le_of_ble_eq_true rfl) rfl (fun k hz0 => ?_)
  refine z_aload_n d_Qu_touch_0 rfl ?_
  refine z_lload_n d_Qu_touch_1 rfl ?_
  refine z_put d_Qu_touch_2 zp_Qu_41 (by assumption) rfl rfl ?_
  refine z_return d_Qu_touch_5 rfl ?_ (by decide) (by decide)
  exact ⟨rfl, rfl⟩
set_option maxHeartbeats 4000000 in
set_option maxRecDepth 100000 in
theorem c_Qu_admitsN (l : Launch) (g : ZG) (M : ZM) (a la pa : Nat) (kd pe ho : Int32) (us : Int64) (ln tn : Int32) (tv : Int64) (w : Int32) (ha : M a = some (.inr (1, fQ la pa kd pe ho us ln tn tv .null))) : ZC vcl tlx GT l g y_Qu_admits b_Qu_admits 2 (Option.some FieldType.boolean) (ZRm 1 0 0) [.ref a, .int w] M (fun r M' => M = M' ∧ r = some (.int (if kd = -1 then 1 else if kd = w then 1 else 0))) := by
  refine ZC.of (by decide) (Nat.le_of_ble_eq_true rfl) rfl (fun k hz0 => ?_)
  refine z_aload_n d_Qu_admits_0 rfl ?_
  refine z_get d_Qu_admits_1 zf_Qu_22 (by assumption) rfl ?_
  refine z_iconst (v := (-1)) d_Qu_admits_4 (by decide) ?_
  refine z_icmp_eq (tgt := 22) d_Qu_admits_5 (by decide) (fun h5 => ?_) (fun h5 => ?_)
  · skip
    refine z_aload_n d_Qu_admits_22 rfl ?_
    refine z_get d_Qu_admits_23 zf_Qu_37 (by assumption) rfl ?_
    refine z_ifnullN (tgt := 36) d_Qu_admits_26 (by decide) ?_
    refine z_iconst (v := 1) d_Qu_admits_36 (by decide) ?_
    refine z_goto (tgt := 41) d_Qu_admits_37 (by decide) ?_
    refine z_zreturn d_Qu_admits_41 rfl (by decide) ?_ (by decide) (by decide)
    exact ⟨rfl, by simp_all⟩
  · skip
    refine z_aload_n d_Qu_admits_8 rfl ?_
    refine z_get d_Qu_admits_9 zf_Qu_22 (by assumption) rfl ?_
    refine z_iload_n d_Qu_admits_12 rfl ?_
    refine z_icmp_ne (tgt := 20) d_Qu_admits_13 (by decide) (fun h13 => ?_) (fun h13 => ?_)
    · skip
      refine z_iconst (v := 0) d_Qu_admits_20 (by decide) ?_
      refine z_zreturn d_Qu_admits_21 rfl (by decide) ?_ (by decide) (by decide)
      exact ⟨rfl, by simp_all⟩
    · skip
      refine z_iconst (v := 1) d_Qu_admits_16 (by decide) ?_
      refine z_goto (tgt := 21) d_Qu_admits_17 (by decide) ?_
      refine z_zreturn d_Qu_admits_21 rfl (by decide) ?_ (by decide) (by decide)
      exact ⟨rfl, by simp_all⟩
set_option maxHeartbeats 4000000 in
set_option maxRecDepth 100000 in
theorem c_Qu_admitsR (l : Launch) (g : ZG) (M : ZM) (a la pa : Nat) (kd pe ho : Int32) (us : Int64) (ln tn : Int32) (tv : Int64) (w : Int32) (t : Nat) (ha : M a = some (.inr (1, fQ la pa kd pe ho us ln tn tv (.ref t)))) : ZC vcl tlx GT l g y_Qu_admits b_Qu_admits 2 (Option.some FieldType.boolean) (ZRm 1 0 0) [.ref a, .int w] M (fun r M' => M = M' ∧ r = some (.int (if kd = -1 then (if w < 2 then 0 else 1) else if kd = w then 1 else 0))) := by
  refine ZC.of (by decide) (Nat.le_of_ble_eq_true rfl) rfl (fun k hz0 => ?_)
  refine z_aload_n d_Qu_admits_0 rfl ?_
  refine z_get d_Qu_admits_1 zf_Qu_22 (by assumption) rfl ?_
  refine z_iconst (v := (-1)) d_Qu_admits_4 (by decide) ?_
  refine z_icmp_eq (tgt := 22) d_Qu_admits_5 (by decide) (fun h5 => ?_) (fun h5 => ?_)
  · skip
    refine z_aload_n d_Qu_admits_22 rfl ?_
    refine z_get d_Qu_admits_23 zf_Qu_37 (by assumption) rfl ?_
    refine z_ifnull d_Qu_admits_26 ?_
    refine z_iload_n d_Qu_admits_29 rfl ?_
    refine z_callS gt_good d_Qu_admits_30 zs_Qu_26 (fun l => c_Qu_isTransientKind l g M w) rfl rfl ⟨Nat.le_of_ble_eq_true rfl, Nat.le_of_ble_eq_true rfl⟩ (Nat.le_of_ble_eq_true rfl) (Nat.le_of_ble_eq_true rfl) (Nat.le_of_ble_eq_true rfl) ?_
    rintro _ _ ⟨rfl, rfl⟩
    refine z_if_eq (tgt := 40) d_Qu_admits_33 (by decide) (fun h33 => ?_) (fun h33 => ?_)
    · skip
      refine z_iconst (v := 0) d_Qu_admits_40 (by decide) ?_
      refine z_zreturn d_Qu_admits_41 rfl (by decide) ?_ (by decide) (by decide)
      exact ⟨rfl, by simp_all⟩
    · skip
      refine z_iconst (v := 1) d_Qu_admits_36 (by decide) ?_
      refine z_goto (tgt := 41) d_Qu_admits_37 (by decide) ?_
      refine z_zreturn d_Qu_admits_41 rfl (by decide) ?_ (by decide) (by decide)
      exact ⟨rfl, by simp_all⟩
  · skip
    refine z_aload_n d_Qu_admits_8 rfl ?_
    refine z_get d_Qu_admits_9 zf_Qu_22 (by assumption) rfl ?_
    refine z_iload_n d_Qu_admits_12 rfl ?_
    refine z_icmp_ne (tgt := 20) d_Qu_admits_13 (by decide) (fun h13 => ?_) (fun h13 => ?_)
    · skip
      refine z_iconst (v := 0) d_Qu_admits_20 (by decide) ?_
      refine z_zreturn d_Qu_admits_21 rfl (by decide) ?_ (by decide) (by decide)
      exact ⟨rfl, by simp_all⟩
    · skip
      refine z_iconst (v := 1) d_Qu_admits_16 (by decide) ?_
      refine z_goto (tgt := 21) d_Qu_admits_17 (by decide) ?_
      refine z_zreturn d_Qu_admits_21 rfl (by decide) ?_ (by decide) (by decide)
      exact ⟨rfl, by simp_all⟩
end
section
theorem ALr.kept {M M' : ZM} {z a arr cap : Nat} {es : List Nat} (h : ALr M z a arr es cap) (h1 : M' a = M a) (h2 : M' arr = M arr) : ALr M' z a arr es cap := by
  obtain ⟨⟨mc, ha⟩, hr, h3⟩ := h
  exact ⟨⟨mc, by rw [h1]; exact ha⟩, by rw [h2]; exact hr, h3⟩
theorem zObj.it {M : ZM} {e : Nat} {x : Int64} (h : M e = some (.inr (2, [.long x]))) : zObj M e := ⟨2, _, _, h, rfl, by decide⟩
theorem zObj.ta {M : ZM} {e : Nat} {fs : List Value} (h : M e = some (.inr (3, fs))) : zObj M e := ⟨3, _, _, h, rfl, by decide⟩
theorem zObj.de {M : ZM} {e : Nat} {fs : List Value} (h : M e = some (.inr (5, fs))) : zObj M e := ⟨5, _, _, h, rfl, by decide⟩
theorem zObj.kept {M M' : ZM} {e : Nat} (h : zObj M e) (hk : M' e = M e) : zObj M' e := by
  obtain ⟨c, f, r, h1, h2⟩ := h
  exact ⟨c, f, r, by rw [hk]; exact h1, h2⟩
theorem zif1 {p : Prop} [Decidable p] (h : ¬ (if p then (1 : Int32) else 0) = 0) : p := by
  by_cases hp : p
  · exact hp
  · exact absurd (if_neg hp) h
theorem zif0 {p : Prop} [Decidable p] (h : (if p then (1 : Int32) else 0) = 0) : ¬ p := by
  intro hp
  rw [if_pos hp] at h
  exact absurd h (by decide)
theorem ALr.zk {M M' : ZM} {z a arr cap : Nat} {es es' : List Nat} (h : ALr M z a arr es cap) (h' : ALr M' z a arr es' cap) (hz : M z = some (.inl (0, []))) (fr : ∀ x, x ≠ a → x ≠ arr → M' x = M x) : M' z = M z := by
  obtain ⟨⟨mc, ha⟩, hr, hle, -⟩ := h
  obtain ⟨-, hr', hle', -⟩ := h'
  by_cases e : z = arr
  · rw [← e, hz] at hr
    have hl := congrArg (fun o : Option ZE => match o with | some (.inl p) => p.2.length | _ => 0) hr
    simp at hl
    have hc : cap = 0 := by omega
    have he : es' = [] := List.length_eq_zero_iff.mp (by omega)
    rw [e, hr', ← e, hz, he, hc]
    rfl
  · exact fr z (zne hz ha (by intro h; cases h)) e
end
section
set_option maxHeartbeats 4000000 in
set_option maxRecDepth 100000 in
theorem c_Qu_init (l : Launch) (g : ZG) (M : ZM) (a : Nat) (ha : M a = some (.inr (1, [.null, .null, .int 0, .int 0, .int 0, .long 0, .int 0, .int 0, .long 0, .null]))) : ZC vcl tlx GT l g y_Qu_init b_Qu_init 1 none (ZRm 4 2 11) [.ref a] M (fun r M' => ∃ q1 q2 : Nat, r = none ∧ M q1 = none ∧ M q2 = none ∧ q1 ≠ q2 ∧ M' a = some (.inr (1, fQ q1 q2 (-1) 0 0 0 0 0 0 .null)) ∧ M' q1 = some (.inr (6, fAL g.2.2.2.1 0 0)) ∧ M' q2 = some (.inl (1, List.replicate 8 (.int 0))) ∧ ∀ x, x ≠ a → x ≠ q1 → x ≠ q2 → M' x = M x) := by
  refine ZC.of (by decide) (Nat.le_of_ble_eq_true rfl) rfl (fun k hz0 => ?_)
  refine z_aload_n d_Qu_init_0 rfl ?_
  refine z_objInit d_Qu_init_1 gw_76 gw_62 gw_63 (Nat.le_of_ble_eq_true rfl) (Nat.le_of_ble_eq_true rfl) ?_
  refine z_aload_n d_Qu_init_4 rfl ?_
  refine z_new (ci := 6) (fs := [.null, .int 0, .int 0]) d_Qu_init_5 ⟨_, T_AL, 3, ty_AL, rfl, in_AL, zl_AL, gw_77, gw_78, gw_41, rfl, by decide⟩ (by simp) (by simp) (fun q1 hq1 => ?_)
  have hne1 : a ≠ q1 := zfresh_ne ha hq1
  refine z_dup d_Qu_init_8 rfl ?_
  refine z_callI gt_good d_Qu_init_9 zi_Qu_11 (fun l => c_AL_init l g _ q1 (.int 0) (.int 0) (zset_self _ _ _)) rfl rfl ⟨Nat.le_of_ble_eq_true rfl, Nat.le_of_ble_eq_true rfl⟩ (Nat.le_of_ble_eq_true rfl) (by simp) (by simp) ?_
  rintro _ _ ⟨rfl, rfl⟩
  rw [zset_zset]
  refine z_putF d_Qu_init_12 zp_Qu_12 rfl (by rw [zset_ne hne1]; exact ha) rfl rfl ?_
  refine z_aload_n d_Qu_init_15 rfl ?_
  refine z_bipush (v := 8) d_Qu_init_16 (by decide) ?_
  refine z_newarr (t := 1) (N := 8) (ty := .int) d_Qu_init_18 rfl gw_142 rfl (fun _ _ h => h) (by decide) (by decide) (by simp) (by simp) (by decide) (fun q2 hq2 => ?_)
  have hq2a := zset_none hq2
  have hq2b := zset_none hq2a
  have hne2 : a ≠ q2 := zfresh_ne ha hq2b
  have hne3 : q1 ≠ q2 := zfresh_ne (zset_self _ _ _) hq2a
  refine z_putF d_Qu_init_20 zp_Qu_18 rfl (by rw [zset_ne hne2]; exact zset_self _ _ _) rfl rfl ?_
  refine z_aload_n d_Qu_init_23 rfl ?_
  refine z_iconst (v := (-1)) d_Qu_init_24 (by decide) ?_
  refine z_put d_Qu_init_25 zp_Qu_22 (zset_self _ _ _) rfl rfl ?_
  refine z_return d_Qu_init_28 rfl ?_ (by simp) (by simp)
  refine ⟨q1, q2, rfl, hq1, hq2b, hne3, zset_self _ _ _, ?_, ?_, fun x h1 h2 h3 => ?_⟩
  · rw [zset_ne (Ne.symm hne1), zset_ne (Ne.symm hne1), zset_ne hne3, zset_ne (Ne.symm hne1), zset_self]
  · rw [zset_ne (Ne.symm hne2), zset_ne (Ne.symm hne2), zset_self]; rfl
  · rw [zset_ne h1, zset_ne h1, zset_ne h3, zset_ne h1, zset_ne h2]
set_option maxHeartbeats 4000000 in
set_option maxRecDepth 100000 in
theorem c_Qu_becomeEmpty (l : Launch) (g : ZG) (M : ZM) (a la pa : Nat) (kd pe ho : Int32) (us : Int64) (ln tn : Int32) (tv : Int64) (tr : Value) (arr : Nat) (es : List Nat) (cap : Nat) (ws : List Value) (ha : M a = some (.inr (1, fQ la pa kd pe ho us ln tn tv tr))) (hl : ALr M g.2.2.2.1 la arr es cap) (hp : M pa = some (.inl (1, ws))) (hc : cap ≤ 1000000) (hw : ws.length < 2 ^ 31) : ZC vcl tlx GT l g y_Qu_becomeEmpty b_Qu_becomeEmpty 1 none (ZRm 1 0 0) [.ref a] M (fun r M' => r = none ∧ M' a = some (.inr (1, fQ la pa (-1) pe ho us ln tn tv tr)) ∧ ALr M' g.2.2.2.1 la arr [] cap ∧ M' pa = some (.inl (1, List.replicate ws.length (.int 0))) ∧ ∀ x, x ≠ a → x ≠ la → x ≠ arr → x ≠ pa → M' x = M x) := by
  refine ZC.of (by decide) (Nat.le_of_ble_eq_true rfl) rfl (fun k hz0 => ?_)
  have hl0 := hl
  obtain ⟨⟨mc, hla⟩, hr, hle, hz⟩ := hl0
  have n1 : a ≠ la := zne ha hla (by intro h; cases h)
  have n2 : a ≠ arr := zne ha hr (by intro h; cases h)
  have n3 : pa ≠ la := zne hp hla (by intro h; cases h)
  have n4 : pa ≠ arr := zne hp hr (by simp)
  have n5 : a ≠ pa := zne ha hp (by intro h; cases h)
  refine z_aload_n d_Qu_becomeEmpty_0 rfl ?_
  refine z_get d_Qu_becomeEmpty_1 zf_Qu_12 (ha) rfl ?_
  refine z_callV gt_good d_Qu_becomeEmpty_4 zv_Qu_99 (hla) rfl (fun l => c_AL_clear l g M la arr es cap hl hc) rfl rfl ⟨Nat.le_of_ble_eq_true rfl, Nat.le_of_ble_eq_true rfl⟩ (Nat.le_of_ble_eq_true rfl) (Nat.le_of_ble_eq_true rfl) (Nat.le_of_ble_eq_true rfl) ?_
  rintro _ M1 ⟨rfl, hl1, hf⟩
  refine z_aload_n d_Qu_becomeEmpty_7 rfl ?_
  refine z_get d_Qu_becomeEmpty_8 zf_Qu_18 (by rw [hf a n1 n2]; exact ha) rfl ?_
  refine z_iconst (v := 0) d_Qu_becomeEmpty_11 (by decide) ?_
  refine z_callS gt_good d_Qu_becomeEmpty_12 zs_Qu_102 (fun l => c_Ar_fill l g M1 pa 0 ws (by rw [hf pa n3 n4]; exact hp) hw) rfl rfl ⟨Nat.le_of_ble_eq_true rfl, Nat.le_of_ble_eq_true rfl⟩ (Nat.le_of_ble_eq_true rfl) (Nat.le_of_ble_eq_true rfl) (Nat.le_of_ble_eq_true rfl) ?_
  rintro _ _ ⟨rfl, rfl⟩
  refine z_aload_n d_Qu_becomeEmpty_15 rfl ?_
  refine z_iconst (v := (-1)) d_Qu_becomeEmpty_16 (by decide) ?_
  refine z_put d_Qu_becomeEmpty_17 zp_Qu_22 (by rw [zset_ne n5, hf a n1 n2]; exact ha) rfl rfl ?_
  refine z_return d_Qu_becomeEmpty_20 rfl ?_ (by decide) (by decide)
  refine ⟨rfl, zset_self _ _ _, hl1.kept ?_ ?_, ?_, fun x h1 h2 h3 h4 => ?_⟩
  · rw [zset_ne (Ne.symm n1), zset_ne (Ne.symm n3)]
  · rw [zset_ne (Ne.symm n2), zset_ne (Ne.symm n4)]
  · rw [zset_ne (Ne.symm n5), zset_self]
  · rw [zset_ne h1, zset_ne h4, hf x h2 h3]
set_option maxHeartbeats 4000000 in
set_option maxRecDepth 100000 in
theorem t_Qu_append (g : ZG) (k : ZK) (R : Room) (post : Option Value → ZM → Prop) (n1 n2 : Nat) (M : ZM) (a la pa : Nat) (kd pe ho : Int32) (us : Int64) (ln tn : Int32) (tv : Int64) (tr : Value) (arr : Nat) (n mc : Int32) (v : Int64) (u : Int32) (ha : M a = some (.inr (1, fQ la pa kd pe ho us ln tn tv tr))) (hl : M la = some (.inr (6, fAL arr n mc))) (hf : 2 ≤ R.frames) (hlo : 60 ≤ R.locals) (h1 : n1 ≤ R.cells) (h2 : n2 ≤ R.slots) (hp1 : ¬ kTrans kd → post (some (.int n)) M) (hp2 : kTrans kd → post (some (.int (ln + 1))) (zset M a (.inr (1, fQ la pa kd pe ho us (ln + 1) tn tv tr)))) : ZW vcl tlx GT "MonitorQueues$Queue" b_Qu_append 5 (Option.some FieldType.int) "append" R g k post [some (.ref a), some (.int kd), some (.long v), none, some (.int u)] 52 [] (M) n1 n2 := by
  refine z_aload_n d_Qu_append_52 rfl ?_
  refine z_callV gt_good d_Qu_append_53 zv_Qu_60 (ha) rfl (fun l => c_Qu_isTransient l g M a la pa kd pe ho us ln tn tv tr ha) rfl rfl ⟨by show 1 + 1 ≤ _; omega, by show 8 + (1 + 11) + 30 ≤ _; omega⟩ (Nat.le_of_ble_eq_true rfl) (by simpa using h1) (by simpa using h2) ?_
  rintro _ _ ⟨rfl, rfl⟩
  refine z_if_ne (tgt := 67) d_Qu_append_56 (by decide) (fun h56 => ?_) (fun h56 => ?_)
  · skip
    refine z_aload_n d_Qu_append_67 rfl ?_
    refine z_dup d_Qu_append_68 rfl ?_
    refine z_get d_Qu_append_69 zf_Qu_64 (ha) rfl ?_
    refine z_iconst (v := 1) d_Qu_append_72 (by decide) ?_
    refine z_iadd d_Qu_append_73 ?_
    refine z_put d_Qu_append_74 zp_Qu_64 (ha) rfl rfl ?_
    refine z_aload_n d_Qu_append_77 rfl ?_
    refine z_get d_Qu_append_78 zf_Qu_64 (zset_self _ _ _) rfl ?_
    refine z_ireturn d_Qu_append_81 rfl ?_ (by simpa using h1) (by simpa using h2)
    exact hp2 (zif1 h56)
  · skip
    refine z_aload_n d_Qu_append_59 rfl ?_
    refine z_get d_Qu_append_60 zf_Qu_12 (ha) rfl ?_
    refine z_callV gt_good d_Qu_append_63 zv_Qu_33 (hl) rfl (fun l => c_AL_size l g M la arr n mc hl) rfl rfl ⟨by show 0 + 1 ≤ _; omega, by show 8 + (1 + 11) + 0 ≤ _; omega⟩ (Nat.le_of_ble_eq_true rfl) (by simpa using h1) (by simpa using h2) ?_
    rintro _ _ ⟨rfl, rfl⟩
    refine z_ireturn d_Qu_append_66 rfl ?_ (by simpa using h1) (by simpa using h2)
    exact hp1 (zif0 h56)
set_option maxHeartbeats 4000000 in
set_option maxRecDepth 100000 in
theorem c_Qu_append (l : Launch) (g : ZG) (M : ZM) (a la pa : Nat) (kd pe ho : Int32) (us : Int64) (ln tn : Int32) (tv : Int64) (tr : Value) (w : Int32) (v : Int64) (u : Int32) (arr : Nat) (es : List Nat) (cap : Nat) (ha : M a = some (.inr (1, fQ la pa kd pe ho us ln tn tv tr))) (hl : ALr M g.2.2.2.1 la arr es cap) (hc : cap ≤ 1000000) (hes : ∀ e ∈ es, ∃ x : Int64, M e = some (.inr (2, [.long x]))) : ZC vcl tlx GT l g y_Qu_append b_Qu_append 5 (Option.some FieldType.int) (ZRm 7 (if es.length < cap then 1 else 2) (if es.length < cap then 1 else 1 + capA es.length cap)) [.ref a, .int w, .long v, .int u] M (fun r M' => ∃ q arr' : Nat, M q = none ∧ (arr' = arr ∨ M arr' = none) ∧ q ≠ arr' ∧ arr' ≠ g.2.2.2.1 ∧ r = some (.int (if kTrans w then ln + 1 else nI (es.length + 1))) ∧ M' a = some (.inr (1, fQ la pa w (if kProt w ∧ ¬ u = 0 then pe + 1 else pe) (if kProt w ∧ ¬ u = 0 then u else ho) us (if kTrans w then ln + 1 else ln) tn tv tr)) ∧ ALr M' g.2.2.2.1 la arr' (es ++ [q]) (capA es.length cap) ∧ M' q = some (.inr (2, [.long v])) ∧ ∀ x, x ≠ a → x ≠ la → x ≠ arr' → x ≠ q → M' x = M x) := by
  refine ZC.of (by decide) (Nat.le_of_ble_eq_true rfl) rfl (fun k hz0 => ?_)
  have hl0 := hl
  obtain ⟨⟨mc, hla⟩, hr, hle, hz⟩ := hl0
  have n1 : a ≠ la := zne ha hla (by intro h; cases h)
  have n2 : a ≠ arr := zne ha hr (by intro h; cases h)
  refine z_aload_n d_Qu_append_0 rfl ?_
  refine z_iload_n d_Qu_append_1 rfl ?_
  refine z_put d_Qu_append_2 zp_Qu_22 (ha) rfl rfl ?_
  refine z_aload_n d_Qu_append_5 rfl ?_
  refine z_get d_Qu_append_6 zf_Qu_12 (zset_self _ _ _) rfl ?_
  refine z_new (ci := 2) (fs := [.long 0]) d_Qu_append_9 ⟨_, T_It, 1, ty_It, rfl, in_It, zl_It, gw_202, gw_203, gw_43, rfl, by decide⟩ (by simp; split <;> simp) (by simp; split <;> simp <;> omega) (fun q hq => ?_)
  have hqM := zset_none hq
  have n7 : a ≠ q := zfresh_ne ha hqM
  have nlq : la ≠ q := zfresh_ne hla hqM
  have nrq : arr ≠ q := zfresh_ne hr hqM
  refine z_dup d_Qu_append_12 rfl ?_
  refine z_lload_n d_Qu_append_13 rfl ?_
  refine z_callI gt_good d_Qu_append_14 zi_Qu_47 (fun l => c_It_init l g _ q (.long 0) v (zset_self _ _ _)) rfl rfl ⟨Nat.le_of_ble_eq_true rfl, Nat.le_of_ble_eq_true rfl⟩ (Nat.le_of_ble_eq_true rfl) (by simp; split <;> simp) (by simp; split <;> simp <;> omega) ?_
  rintro _ _ ⟨rfl, rfl⟩
  rw [zset_zset]
  have h3 : ∀ x, x ≠ a → x ≠ q → zset (zset M a (.inr (1, fQ la pa w pe ho us ln tn tv tr))) q (.inr (2, [.long v])) x = M x := fun x h1 h2 => by rw [zset_ne h2, zset_ne h1]
  refine z_callV gt_good d_Qu_append_17 zv_Qu_50 ((h3 la (Ne.symm n1) nlq).trans hla) rfl (fun l => c_AL_add l g _ la arr q es cap (hl.kept (h3 la (Ne.symm n1) nlq) (h3 arr (Ne.symm n2) nrq)) hc (fun e he => by obtain ⟨x, hx⟩ := hes e he; exact (zObj.it hx).kept (h3 e (Ne.symm (zne ha hx (by intro h; cases h))) (zfresh_ne hx hqM))) (zObj.it (zset_self _ _ _))) rfl rfl ⟨Nat.le_of_ble_eq_true rfl, Nat.le_of_ble_eq_true rfl⟩ (Nat.le_of_ble_eq_true rfl) (by simp; split <;> simp) (by simp; split <;> simp) ?_
  rintro _ M4 ⟨arr', rfl, hq4, hqz, hl4, hk4⟩
  have hqq : arr' = arr ∨ M arr' = none := hq4.imp id (fun h => zset_none (zset_none h))
  have n6 : a ≠ arr' := by
    rcases hqq with e | e
    · rw [e]; exact n2
    · exact zfresh_ne ha e
  have hqr : q ≠ arr' := by
    rcases hq4 with e | e
    · rw [e]; exact Ne.symm nrq
    · exact zfresh_ne (zset_self _ _ _) e
  have h4a : M4 a = some (.inr (1, fQ la pa w pe ho us ln tn tv tr)) := by rw [hk4 a n1 n6, zset_ne n7, zset_self]; rfl
  have h4q : M4 q = some (.inr (2, [.long v])) := by rw [hk4 q (Ne.symm nlq) hqr, zset_self]
  have hf4 : ∀ x, x ≠ a → x ≠ la → x ≠ arr' → x ≠ q → M4 x = M x := fun x h1 h2 h4 h5 => (hk4 x h2 h4).trans (h3 x h1 h5)
  obtain ⟨⟨mc4, hla4⟩, hr4, hle4⟩ := id hl4
  refine z_pop d_Qu_append_20 rfl ?_
  refine z_aload_n d_Qu_append_21 rfl ?_
  refine z_get d_Qu_append_22 zf_Qu_22 (h4a) rfl ?_
  refine z_callS gt_good d_Qu_append_25 zs_Qu_54 (fun l => c_Qu_isProtectedKind l g M4 w) rfl rfl ⟨Nat.le_of_ble_eq_true rfl, Nat.le_of_ble_eq_true rfl⟩ (Nat.le_of_ble_eq_true rfl) (by simp; split <;> simp) (by simp; split <;> simp) ?_
  rintro _ _ ⟨rfl, rfl⟩
  refine z_if_eq (tgt := 52) d_Qu_append_28 (by decide) (fun h28 => ?_) (fun h28 => ?_)
  · skip
    have hpr : ¬ kProt w := zif0 h28
    refine t_Qu_append g k _ _ _ _ (M4) a la pa w (pe) ho us ln tn tv tr arr' (nI (es ++ [q]).length) mc4 v u h4a hla4 (Nat.le_of_ble_eq_true rfl) (Nat.le_of_ble_eq_true rfl) (by simp; split <;> simp) (by simp; split <;> simp <;> omega) (fun ht => ?_) (fun ht => ?_)
    · skip
      refine ⟨q, arr', hqM, hqq, hqr, hqz, by simp [ht], by simp [ht, hpr]; exact h4a, hl4.kept (rfl) (rfl), h4q, fun x hx1 hx2 hx3 hx4 => hf4 x hx1 hx2 hx3 hx4⟩
    · skip
      refine ⟨q, arr', hqM, hqq, hqr, hqz, by simp [ht], by simp [ht, hpr, zset_self], hl4.kept (zset_ne (Ne.symm n1)) (zset_ne (Ne.symm n6)), by rw [zset_ne (Ne.symm n7)]; exact h4q, fun x hx1 hx2 hx3 hx4 => by rw [zset_ne hx1, hf4 x hx1 hx2 hx3 hx4]⟩
    skip
  · skip
    have hpr0 : kProt w := zif1 h28
    refine z_iload d_Qu_append_31 rfl ?_
    refine z_if_eq (tgt := 52) d_Qu_append_33 (by decide) (fun h33 => ?_) (fun h33 => ?_)
    · skip
      have hpr : u = 0 := h33
      refine t_Qu_append g k _ _ _ _ (M4) a la pa w (pe) ho us ln tn tv tr arr' (nI (es ++ [q]).length) mc4 v u h4a hla4 (Nat.le_of_ble_eq_true rfl) (Nat.le_of_ble_eq_true rfl) (by simp; split <;> simp) (by simp; split <;> simp <;> omega) (fun ht => ?_) (fun ht => ?_)
      · skip
        refine ⟨q, arr', hqM, hqq, hqr, hqz, by simp [ht], by simp [ht, hpr]; exact h4a, hl4.kept (rfl) (rfl), h4q, fun x hx1 hx2 hx3 hx4 => hf4 x hx1 hx2 hx3 hx4⟩
      · skip
        refine ⟨q, arr', hqM, hqq, hqr, hqz, by simp [ht], by simp [ht, hpr, zset_self], hl4.kept (zset_ne (Ne.symm n1)) (zset_ne (Ne.symm n6)), by rw [zset_ne (Ne.symm n7)]; exact h4q, fun x hx1 hx2 hx3 hx4 => by rw [zset_ne hx1, hf4 x hx1 hx2 hx3 hx4]⟩
      skip
    · skip
      have hpr : kProt w ∧ ¬ u = 0 := ⟨hpr0, h33⟩
      refine z_aload_n d_Qu_append_36 rfl ?_
      refine z_iload d_Qu_append_37 rfl ?_
      refine z_put d_Qu_append_39 zp_Qu_57 (h4a) rfl rfl ?_
      refine z_aload_n d_Qu_append_42 rfl ?_
      refine z_dup d_Qu_append_43 rfl ?_
      refine z_get d_Qu_append_44 zf_Qu_30 (zset_self _ _ _) rfl ?_
      refine z_iconst (v := 1) d_Qu_append_47 (by decide) ?_
      refine z_iadd d_Qu_append_48 ?_
      refine z_put d_Qu_append_49 zp_Qu_30 (zset_self _ _ _) rfl rfl ?_
      rw [zset_zset]
      refine t_Qu_append g k _ _ _ _ (zset M4 a (.inr (1, fQ la pa w (pe + 1) u us ln tn tv tr))) a la pa w (pe + 1) u us ln tn tv tr arr' (nI (es ++ [q]).length) mc4 v u (zset_self _ _ _) (by rw [zset_ne (Ne.symm n1)]; exact hla4) (Nat.le_of_ble_eq_true rfl) (Nat.le_of_ble_eq_true rfl) (by simp; split <;> simp) (by simp; split <;> simp <;> omega) (fun ht => ?_) (fun ht => ?_)
      · skip
        refine ⟨q, arr', hqM, hqq, hqr, hqz, by simp [ht], by simp [ht, hpr, zset_self], hl4.kept (zset_ne (Ne.symm n1)) (zset_ne (Ne.symm n6)), by rw [zset_ne (Ne.symm n7)]; exact h4q, fun x hx1 hx2 hx3 hx4 => by rw [zset_ne hx1, hf4 x hx1 hx2 hx3 hx4]⟩
      · rw [zset_zset]
        refine ⟨q, arr', hqM, hqq, hqr, hqz, by simp [ht], by simp [ht, hpr, zset_self], hl4.kept (zset_ne (Ne.symm n1)) (zset_ne (Ne.symm n6)), by rw [zset_ne (Ne.symm n7)]; exact h4q, fun x hx1 hx2 hx3 hx4 => by rw [zset_ne hx1, hf4 x hx1 hx2 hx3 hx4]⟩
end
section
set_option maxHeartbeats 4000000 in
set_option maxRecDepth 100000 in
theorem t_Qu_removeFirst (g : ZG) (k : ZK) (R : Room) (post : Option Value → ZM → Prop) (n1 n2 : Nat) (M : ZM) (a la pa : Nat) (kd pe ho : Int32) (us : Int64) (ln tn : Int32) (tv : Int64) (tr : Value) (arr : Nat) (es : List Nat) (cap : Nat) (ws : List Value)  (ha : M a = some (.inr (1, fQ la pa kd pe ho us ln tn tv tr))) (hl : ALr M g.2.2.2.1 la arr es cap) (hp : M pa = some (.inl (1, ws))) (hc : cap ≤ 1000000) (hw : ws.length < 2 ^ 31) (hf : 2 ≤ R.frames) (hlo : 60 ≤ R.locals) (h1 : n1 ≤ R.cells) (h2 : n2 ≤ R.slots) (hp1 : es ≠ [] → post (some (.int tn)) M) (hp2 : ∀ M' : ZM, es = [] → M' a = some (.inr (1, fQ la pa (-1) pe ho us ln tn tv tr)) → ALr M' g.2.2.2.1 la arr [] cap → M' pa = some (.inl (1, List.replicate ws.length (.int 0))) → (∀ x, x ≠ a → x ≠ la → x ≠ arr → x ≠ pa → M' x = M x) → post (some (.int tn)) M') : ZW vcl tlx GT "MonitorQueues$Queue" b_Qu_removeFirst 1 (Option.some FieldType.int) "removeFirst" R g k post [some (.ref a)] 73 [] (M) n1 n2 := by
  obtain ⟨⟨mc, hla⟩, hr, hle, hz⟩ := id hl
  refine z_aload_n d_Qu_removeFirst_73 rfl ?_
  refine z_get d_Qu_removeFirst_74 zf_Qu_12 (ha) rfl ?_
  refine z_callV gt_good d_Qu_removeFirst_77 zv_Qu_67 (hla) rfl (fun l => c_AL_isEmpty l g M la arr (nI es.length) mc hla) rfl rfl ⟨by show 0 + 1 ≤ _; omega, by show 8 + (1 + 11) + 0 ≤ _; omega⟩ (Nat.le_of_ble_eq_true rfl) (by simpa using h1) (by simpa using h2) ?_
  rintro _ _ ⟨rfl, rfl⟩
  refine z_if_eq (tgt := 87) d_Qu_removeFirst_80 (by decide) (fun h80 => ?_) (fun h80 => ?_)
  · skip
    have hem : ¬ es.length = 0 := fun e => zif0 h80 (by rw [e]; rfl)
    refine z_aload_n d_Qu_removeFirst_87 rfl ?_
    refine z_get d_Qu_removeFirst_88 zf_Qu_70 (by first | exact ha | exact e1) rfl ?_
    refine z_ireturn d_Qu_removeFirst_91 rfl ?_ (by simpa using h1) (by simpa using h2)
    first | exact hp1 (fun e => by rw [e] at hem; exact hem rfl) | exact hp2 M1 (List.length_eq_zero_iff.mp hem) e1 e2 e3 e4
  · skip
    have hem : es.length = 0 := (nI_eq (by omega) (by decide)).mp (zif1 h80)
    refine z_aload_n d_Qu_removeFirst_83 rfl ?_
    refine z_callV gt_good d_Qu_removeFirst_84 zv_Qu_92 (ha) rfl (fun l => c_Qu_becomeEmpty l g M a la pa kd pe ho us ln tn tv tr arr es cap ws ha hl hp hc hw) rfl rfl ⟨by show 1 + 1 ≤ _; omega, by show 8 + (1 + 11) + 30 ≤ _; omega⟩ (Nat.le_of_ble_eq_true rfl) (by simpa using h1) (by simpa using h2) ?_
    rintro _ M1 ⟨rfl, e1, e2, e3, e4⟩
    refine z_aload_n d_Qu_removeFirst_87 rfl ?_
    refine z_get d_Qu_removeFirst_88 zf_Qu_70 (by first | exact ha | exact e1) rfl ?_
    refine z_ireturn d_Qu_removeFirst_91 rfl ?_ (by simpa using h1) (by simpa using h2)
    first | exact hp1 (fun e => by rw [e] at hem; exact hem rfl) | exact hp2 M1 (List.length_eq_zero_iff.mp hem) e1 e2 e3 e4
set_option maxHeartbeats 4000000 in
set_option maxRecDepth 100000 in
theorem t_Qu_dropLast (g : ZG) (k : ZK) (R : Room) (post : Option Value → ZM → Prop) (n1 n2 : Nat) (M : ZM) (a la pa : Nat) (kd pe ho : Int32) (us : Int64) (ln tn : Int32) (tv : Int64) (tr : Value) (arr : Nat) (es : List Nat) (cap : Nat) (ws : List Value) (lo1 lo2 : Option Value) (ha : M a = some (.inr (1, fQ la pa kd pe ho us ln tn tv tr))) (hl : ALr M g.2.2.2.1 la arr es cap) (hp : M pa = some (.inl (1, ws))) (hc : cap ≤ 1000000) (hw : ws.length < 2 ^ 31) (hf : 2 ≤ R.frames) (hlo : 60 ≤ R.locals) (h1 : n1 ≤ R.cells) (h2 : n2 ≤ R.slots) (hp1 : es ≠ [] → post none M) (hp2 : ∀ M' : ZM, es = [] → M' a = some (.inr (1, fQ la pa (-1) pe ho us ln tn tv tr)) → ALr M' g.2.2.2.1 la arr [] cap → M' pa = some (.inl (1, List.replicate ws.length (.int 0))) → (∀ x, x ≠ a → x ≠ la → x ≠ arr → x ≠ pa → M' x = M x) → post none M') : ZW vcl tlx GT "MonitorQueues$Queue" b_Qu_dropLast 3 none "dropLast" R g k post [some (.ref a), lo1, lo2] 56 [] (M) n1 n2 := by
  obtain ⟨⟨mc, hla⟩, hr, hle, hz⟩ := id hl
  refine z_aload_n d_Qu_dropLast_56 rfl ?_
  refine z_get d_Qu_dropLast_57 zf_Qu_12 (ha) rfl ?_
  refine z_callV gt_good d_Qu_dropLast_60 zv_Qu_67 (hla) rfl (fun l => c_AL_isEmpty l g M la arr (nI es.length) mc hla) rfl rfl ⟨by show 0 + 1 ≤ _; omega, by show 8 + (1 + 11) + 0 ≤ _; omega⟩ (Nat.le_of_ble_eq_true rfl) (by simpa using h1) (by simpa using h2) ?_
  rintro _ _ ⟨rfl, rfl⟩
  refine z_if_eq (tgt := 70) d_Qu_dropLast_63 (by decide) (fun h63 => ?_) (fun h63 => ?_)
  · skip
    have hem : ¬ es.length = 0 := fun e => zif0 h63 (by rw [e]; rfl)
    refine z_return d_Qu_dropLast_70 rfl ?_ (by simpa using h1) (by simpa using h2)
    first | exact hp1 (fun e => by rw [e] at hem; exact hem rfl) | exact hp2 M1 (List.length_eq_zero_iff.mp hem) e1 e2 e3 e4
  · skip
    have hem : es.length = 0 := (nI_eq (by omega) (by decide)).mp (zif1 h63)
    refine z_aload_n d_Qu_dropLast_66 rfl ?_
    refine z_callV gt_good d_Qu_dropLast_67 zv_Qu_92 (ha) rfl (fun l => c_Qu_becomeEmpty l g M a la pa kd pe ho us ln tn tv tr arr es cap ws ha hl hp hc hw) rfl rfl ⟨by show 1 + 1 ≤ _; omega, by show 8 + (1 + 11) + 30 ≤ _; omega⟩ (Nat.le_of_ble_eq_true rfl) (by simpa using h1) (by simpa using h2) ?_
    rintro _ M1 ⟨rfl, e1, e2, e3, e4⟩
    refine z_return d_Qu_dropLast_70 rfl ?_ (by simpa using h1) (by simpa using h2)
    first | exact hp1 (fun e => by rw [e] at hem; exact hem rfl) | exact hp2 M1 (List.length_eq_zero_iff.mp hem) e1 e2 e3 e4
set_option maxHeartbeats 4000000 in
set_option maxRecDepth 100000 in
theorem c_Qu_removeFirstN (l : Launch) (g : ZG) (M : ZM) (a la pa : Nat) (kd pe ho : Int32) (us : Int64) (ln tn : Int32) (tv : Int64) (arr e0 : Nat) (es : List Nat) (cap : Nat) (ws : List Value) (v0 : Int64) (ha : M a = some (.inr (1, fQ la pa kd pe ho us ln tn tv .null))) (hl : ALr M g.2.2.2.1 la arr (e0 :: es) cap) (hp : M pa = some (.inl (1, ws))) (hc : cap ≤ 1000000) (hw : ws.length < 2 ^ 31) (hes : ∀ e ∈ e0 :: es, ∃ x : Int64, M e = some (.inr (2, [.long x]))) (h0 : M e0 = some (.inr (2, [.long v0]))) : ZC vcl tlx GT l g y_Qu_removeFirst b_Qu_removeFirst 1 (Option.some FieldType.int) (ZRm 3 0 0) [.ref a] M (fun r M' => r = some (.int (ln - nI (e0 :: es).length + 1)) ∧ M' a = some (.inr (1, fQ la pa (if es = [] then -1 else kd) pe ho us ln (ln - nI (e0 :: es).length + 1) v0 .null)) ∧ ALr M' g.2.2.2.1 la arr es cap ∧ M' pa = some (.inl (1, if es = [] then List.replicate ws.length (.int 0) else ws)) ∧ (∀ x, x ≠ a → x ≠ la → x ≠ arr → x ≠ pa → M' x = M x)) := by
  refine ZC.of (by decide) (Nat.le_of_ble_eq_true rfl) rfl (fun k hz0 => ?_)
  have hln : (e0 :: es).length = es.length + 1 := rfl
  obtain ⟨⟨mc, hla⟩, hr, hle, hz⟩ := id hl
  have n1 : a ≠ la := zne ha hla (by intro h; cases h)
  have n2 : a ≠ arr := zne ha hr (by intro h; cases h)
  have n3 : pa ≠ la := zne hp hla (by intro h; cases h)
  have n4 : pa ≠ arr := zne hp hr (by simp)
  have n5 : a ≠ pa := zne ha hp (by intro h; cases h)
  obtain ⟨v0', hv0'⟩ := hes e0 List.mem_cons_self
  have n6 : ∀ e ∈ e0 :: es, a ≠ e := fun e he => by obtain ⟨x, hx⟩ := hes e he; exact zne ha hx (by intro h; cases h)
  refine z_aload_n d_Qu_removeFirst_0 rfl ?_
  refine z_get d_Qu_removeFirst_1 zf_Qu_12 (ha) rfl ?_
  refine z_callV gt_good d_Qu_removeFirst_4 zv_Qu_67 (hla) rfl (fun l => c_AL_isEmpty l g M la arr (nI (e0 :: es).length) mc hla) rfl rfl ⟨Nat.le_of_ble_eq_true rfl, Nat.le_of_ble_eq_true rfl⟩ (Nat.le_of_ble_eq_true rfl) (Nat.le_of_ble_eq_true rfl) (Nat.le_of_ble_eq_true rfl) ?_
  rintro _ _ ⟨rfl, rfl⟩
  refine z_if_eq (tgt := 13) d_Qu_removeFirst_7 (by decide) (fun h7 => ?_) (fun h7 => False.elim (h7 (if_neg (nI_ne0 (by omega) (by omega)))))
  refine z_aload_n d_Qu_removeFirst_13 rfl ?_
  refine z_aload_n d_Qu_removeFirst_14 rfl ?_
  refine z_get d_Qu_removeFirst_15 zf_Qu_64 (ha) rfl ?_
  refine z_aload_n d_Qu_removeFirst_18 rfl ?_
  refine z_get d_Qu_removeFirst_19 zf_Qu_12 (ha) rfl ?_
  refine z_callV gt_good d_Qu_removeFirst_22 zv_Qu_33 (hla) rfl (fun l => c_AL_size l g M la arr (nI (e0 :: es).length) mc hla) rfl rfl ⟨Nat.le_of_ble_eq_true rfl, Nat.le_of_ble_eq_true rfl⟩ (Nat.le_of_ble_eq_true rfl) (Nat.le_of_ble_eq_true rfl) (Nat.le_of_ble_eq_true rfl) ?_
  rintro _ _ ⟨rfl, rfl⟩
  refine z_isub d_Qu_removeFirst_25 ?_
  refine z_iconst (v := 1) d_Qu_removeFirst_26 (by decide) ?_
  refine z_iadd d_Qu_removeFirst_27 ?_
  refine z_put d_Qu_removeFirst_28 zp_Qu_70 (ha) rfl rfl ?_
  refine z_aload_n d_Qu_removeFirst_31 rfl ?_
  refine z_aload_n d_Qu_removeFirst_32 rfl ?_
  refine z_get d_Qu_removeFirst_33 zf_Qu_12 (zset_self _ _ _) rfl ?_
  refine z_iconst (v := 0) d_Qu_removeFirst_36 (by decide) ?_
  refine z_callV gt_good d_Qu_removeFirst_37 zv_Qu_73 (by rw [zset_ne (Ne.symm n1)]; exact hla) rfl (fun l => c_AL_get l g _ la arr (e0 :: es).length mc _ 0 e0 (by rw [zset_ne (Ne.symm n1)]; exact hla) (by rw [zset_ne (Ne.symm n2)]; exact hr) (by omega) (by omega) rfl) rfl rfl ⟨Nat.le_of_ble_eq_true rfl, Nat.le_of_ble_eq_true rfl⟩ (Nat.le_of_ble_eq_true rfl) (Nat.le_of_ble_eq_true rfl) (Nat.le_of_ble_eq_true rfl) ?_
  rintro _ _ ⟨rfl, rfl⟩
  refine z_cast (ci := 2) d_Qu_removeFirst_40 gw_202 (by rw [zset_ne (Ne.symm (n6 e0 List.mem_cons_self))]; exact h0) rfl rfl ?_
  refine z_get d_Qu_removeFirst_43 zf_Qu_77 (by rw [zset_ne (Ne.symm (n6 e0 List.mem_cons_self))]; exact h0) rfl ?_
  refine z_put d_Qu_removeFirst_46 zp_Qu_80 (zset_self _ _ _) rfl rfl ?_
  refine z_aload_n d_Qu_removeFirst_49 rfl ?_
  refine z_get d_Qu_removeFirst_50 zf_Qu_12 (zset_self _ _ _) rfl ?_
  refine z_iconst (v := 0) d_Qu_removeFirst_53 (by decide) ?_
  rw [zset_zset]
  refine z_callV gt_good d_Qu_removeFirst_54 zv_Qu_83 (by rw [zset_ne (Ne.symm n1)]; exact hla) rfl (fun l => c_AL_remove l g (zset M a (.inr (1, fQ la pa kd pe ho us ln (ln - nI (e0 :: es).length + 1) v0 .null))) la arr 0 (e0 :: es) cap (hl.kept (zset_ne (Ne.symm n1)) (zset_ne (Ne.symm n2))) hc (fun e he => by obtain ⟨x, hx⟩ := hes e he; exact (zObj.it hx).kept (zset_ne (Ne.symm (n6 e he)))) (by omega)) rfl rfl ⟨Nat.le_of_ble_eq_true rfl, Nat.le_of_ble_eq_true rfl⟩ (Nat.le_of_ble_eq_true rfl) (Nat.le_of_ble_eq_true rfl) (Nat.le_of_ble_eq_true rfl) ?_
  rintro _ M3 ⟨rfl, hl3, hk3⟩
  have h3a : M3 a = some (.inr (1, fQ la pa kd pe ho us ln (ln - nI (e0 :: es).length + 1) v0 .null)) := by rw [hk3 a n1 n2, zset_self]
  refine z_pop d_Qu_removeFirst_57 rfl ?_
  refine z_aload_n d_Qu_removeFirst_58 rfl ?_
  refine z_get d_Qu_removeFirst_59 zf_Qu_37 (h3a) rfl ?_
  refine z_ifnullN (tgt := 73) d_Qu_removeFirst_62 (by decide) ?_
  refine t_Qu_removeFirst g k _ _ _ _ M3 a la pa kd pe ho us ln (ln - nI (e0 :: es).length + 1) v0 .null arr es cap ws h3a ?_ ?_ hc hw (Nat.le_of_ble_eq_true rfl) (Nat.le_of_ble_eq_true rfl) (by simp) (by simp) (fun he => ?_) (fun M' he e1 e2 e3 e4 => ?_)
  · exact hl3
  · rw [hk3 pa n3 n4, zset_ne (Ne.symm n5)]; exact hp
  · exact ⟨rfl, by rw [if_neg he]; exact h3a, hl3, by rw [if_neg he, hk3 pa n3 n4, zset_ne (Ne.symm n5)]; exact hp, fun x x1 x2 x3 x4 => by rw [hk3 x x2 x3, zset_ne x1]⟩
  · exact ⟨rfl, by rw [if_pos he]; exact e1, by rw [he]; exact e2, by rw [if_pos he]; exact e3, fun x x1 x2 x3 x4 => by rw [e4 x x1 x2 x3 x4, hk3 x x2 x3, zset_ne x1]⟩
set_option maxHeartbeats 4000000 in
set_option maxRecDepth 100000 in
theorem c_Qu_removeFirstR (l : Launch) (g : ZG) (M : ZM) (a la pa : Nat) (kd pe ho : Int32) (us : Int64) (ln tn : Int32) (tv : Int64) (t : Nat) (d0 d1 d2 d3 d4 : Value) (arr e0 : Nat) (es : List Nat) (cap : Nat) (ws : List Value) (v0 : Int64) (ha : M a = some (.inr (1, fQ la pa kd pe ho us ln tn tv (.ref t)))) (hl : ALr M g.2.2.2.1 la arr (e0 :: es) cap) (hp : M pa = some (.inl (1, ws))) (hc : cap ≤ 1000000) (hw : ws.length < 2 ^ 31) (hes : ∀ e ∈ e0 :: es, ∃ x : Int64, M e = some (.inr (2, [.long x]))) (h0 : M e0 = some (.inr (2, [.long v0]))) (ht : M t = some (.inr (4, [d0, d1, d2, d3, d4]))) : ZC vcl tlx GT l g y_Qu_removeFirst b_Qu_removeFirst 1 (Option.some FieldType.int) (ZRm 3 0 0) [.ref a] M (fun r M' => r = some (.int (ln - nI (e0 :: es).length + 1)) ∧ M' a = some (.inr (1, fQ la pa (if es = [] then -1 else kd) pe ho us ln (ln - nI (e0 :: es).length + 1) v0 (.ref t))) ∧ ALr M' g.2.2.2.1 la arr es cap ∧ M' pa = some (.inl (1, if es = [] then List.replicate ws.length (.int 0) else ws)) ∧ M' t = some (.inr (4, [d0, d1, d2, d3, .int 1])) ∧ (∀ x, x ≠ a → x ≠ la → x ≠ arr → x ≠ pa → x ≠ t → M' x = M x)) := by
  refine ZC.of (by decide) (Nat.le_of_ble_eq_true rfl) rfl (fun k hz0 => ?_)
  have hln : (e0 :: es).length = es.length + 1 := rfl
  obtain ⟨⟨mc, hla⟩, hr, hle, hz⟩ := id hl
  have n1 : a ≠ la := zne ha hla (by intro h; cases h)
  have n2 : a ≠ arr := zne ha hr (by intro h; cases h)
  have n3 : pa ≠ la := zne hp hla (by intro h; cases h)
  have n4 : pa ≠ arr := zne hp hr (by simp)
  have n5 : a ≠ pa := zne ha hp (by intro h; cases h)
  obtain ⟨v0', hv0'⟩ := hes e0 List.mem_cons_self
  have n6 : ∀ e ∈ e0 :: es, a ≠ e := fun e he => by obtain ⟨x, hx⟩ := hes e he; exact zne ha hx (by intro h; cases h)
  have m1 : t ≠ a := zne ht ha (by simp)
  have m2 : t ≠ la := zne ht hla (by simp)
  have m3 : t ≠ arr := zne ht hr (by intro h; cases h)
  have m4 : t ≠ pa := zne ht hp (by intro h; cases h)
  refine z_aload_n d_Qu_removeFirst_0 rfl ?_
  refine z_get d_Qu_removeFirst_1 zf_Qu_12 (ha) rfl ?_
  refine z_callV gt_good d_Qu_removeFirst_4 zv_Qu_67 (hla) rfl (fun l => c_AL_isEmpty l g M la arr (nI (e0 :: es).length) mc hla) rfl rfl ⟨Nat.le_of_ble_eq_true rfl, Nat.le_of_ble_eq_true rfl⟩ (Nat.le_of_ble_eq_true rfl) (Nat.le_of_ble_eq_true rfl) (Nat.le_of_ble_eq_true rfl) ?_
  rintro _ _ ⟨rfl, rfl⟩
  refine z_if_eq (tgt := 13) d_Qu_removeFirst_7 (by decide) (fun h7 => ?_) (fun h7 => False.elim (h7 (if_neg (nI_ne0 (by omega) (by omega)))))
  refine z_aload_n d_Qu_removeFirst_13 rfl ?_
  refine z_aload_n d_Qu_removeFirst_14 rfl ?_
  refine z_get d_Qu_removeFirst_15 zf_Qu_64 (ha) rfl ?_
  refine z_aload_n d_Qu_removeFirst_18 rfl ?_
  refine z_get d_Qu_removeFirst_19 zf_Qu_12 (ha) rfl ?_
  refine z_callV gt_good d_Qu_removeFirst_22 zv_Qu_33 (hla) rfl (fun l => c_AL_size l g M la arr (nI (e0 :: es).length) mc hla) rfl rfl ⟨Nat.le_of_ble_eq_true rfl, Nat.le_of_ble_eq_true rfl⟩ (Nat.le_of_ble_eq_true rfl) (Nat.le_of_ble_eq_true rfl) (Nat.le_of_ble_eq_true rfl) ?_
  rintro _ _ ⟨rfl, rfl⟩
  refine z_isub d_Qu_removeFirst_25 ?_
  refine z_iconst (v := 1) d_Qu_removeFirst_26 (by decide) ?_
  refine z_iadd d_Qu_removeFirst_27 ?_
  refine z_put d_Qu_removeFirst_28 zp_Qu_70 (ha) rfl rfl ?_
  refine z_aload_n d_Qu_removeFirst_31 rfl ?_
  refine z_aload_n d_Qu_removeFirst_32 rfl ?_
  refine z_get d_Qu_removeFirst_33 zf_Qu_12 (zset_self _ _ _) rfl ?_
  refine z_iconst (v := 0) d_Qu_removeFirst_36 (by decide) ?_
  refine z_callV gt_good d_Qu_removeFirst_37 zv_Qu_73 (by rw [zset_ne (Ne.symm n1)]; exact hla) rfl (fun l => c_AL_get l g _ la arr (e0 :: es).length mc _ 0 e0 (by rw [zset_ne (Ne.symm n1)]; exact hla) (by rw [zset_ne (Ne.symm n2)]; exact hr) (by omega) (by omega) rfl) rfl rfl ⟨Nat.le_of_ble_eq_true rfl, Nat.le_of_ble_eq_true rfl⟩ (Nat.le_of_ble_eq_true rfl) (Nat.le_of_ble_eq_true rfl) (Nat.le_of_ble_eq_true rfl) ?_
  rintro _ _ ⟨rfl, rfl⟩
  refine z_cast (ci := 2) d_Qu_removeFirst_40 gw_202 (by rw [zset_ne (Ne.symm (n6 e0 List.mem_cons_self))]; exact h0) rfl rfl ?_
  refine z_get d_Qu_removeFirst_43 zf_Qu_77 (by rw [zset_ne (Ne.symm (n6 e0 List.mem_cons_self))]; exact h0) rfl ?_
  refine z_put d_Qu_removeFirst_46 zp_Qu_80 (zset_self _ _ _) rfl rfl ?_
  refine z_aload_n d_Qu_removeFirst_49 rfl ?_
  refine z_get d_Qu_removeFirst_50 zf_Qu_12 (zset_self _ _ _) rfl ?_
  refine z_iconst (v := 0) d_Qu_removeFirst_53 (by decide) ?_
  rw [zset_zset]
  refine z_callV gt_good d_Qu_removeFirst_54 zv_Qu_83 (by rw [zset_ne (Ne.symm n1)]; exact hla) rfl (fun l => c_AL_remove l g (zset M a (.inr (1, fQ la pa kd pe ho us ln (ln - nI (e0 :: es).length + 1) v0 (.ref t)))) la arr 0 (e0 :: es) cap (hl.kept (zset_ne (Ne.symm n1)) (zset_ne (Ne.symm n2))) hc (fun e he => by obtain ⟨x, hx⟩ := hes e he; exact (zObj.it hx).kept (zset_ne (Ne.symm (n6 e he)))) (by omega)) rfl rfl ⟨Nat.le_of_ble_eq_true rfl, Nat.le_of_ble_eq_true rfl⟩ (Nat.le_of_ble_eq_true rfl) (Nat.le_of_ble_eq_true rfl) (Nat.le_of_ble_eq_true rfl) ?_
  rintro _ M3 ⟨rfl, hl3, hk3⟩
  have h3a : M3 a = some (.inr (1, fQ la pa kd pe ho us ln (ln - nI (e0 :: es).length + 1) v0 (.ref t))) := by rw [hk3 a n1 n2, zset_self]
  refine z_pop d_Qu_removeFirst_57 rfl ?_
  refine z_aload_n d_Qu_removeFirst_58 rfl ?_
  refine z_get d_Qu_removeFirst_59 zf_Qu_37 (h3a) rfl ?_
  refine z_ifnull d_Qu_removeFirst_62 ?_
  refine z_aload_n d_Qu_removeFirst_65 rfl ?_
  refine z_get d_Qu_removeFirst_66 zf_Qu_37 (h3a) rfl ?_
  refine z_iconst (v := 1) d_Qu_removeFirst_69 (by decide) ?_
  refine z_put d_Qu_removeFirst_70 zp_Qu_86 (by rw [hk3 t m2 m3, zset_ne m1]; exact ht) rfl rfl ?_
  refine t_Qu_removeFirst g k _ _ _ _ (zset M3 t (.inr (4, [d0, d1, d2, d3, .int 1]))) a la pa kd pe ho us ln (ln - nI (e0 :: es).length + 1) v0 (.ref t) arr es cap ws (by rw [zset_ne (Ne.symm m1)]; exact h3a) ?_ ?_ hc hw (Nat.le_of_ble_eq_true rfl) (Nat.le_of_ble_eq_true rfl) (by simp) (by simp) (fun he => ?_) (fun M' he e1 e2 e3 e4 => ?_)
  · exact hl3.kept (zset_ne (Ne.symm m2)) (zset_ne (Ne.symm m3))
  · rw [zset_ne (Ne.symm m4), hk3 pa n3 n4, zset_ne (Ne.symm n5)]; exact hp
  · exact ⟨rfl, by rw [if_neg he, zset_ne (Ne.symm m1)]; exact h3a, hl3.kept (zset_ne (Ne.symm m2)) (zset_ne (Ne.symm m3)), by rw [if_neg he, zset_ne (Ne.symm m4), hk3 pa n3 n4, zset_ne (Ne.symm n5)]; exact hp, zset_self _ _ _, fun x x1 x2 x3 x4 x5 => by rw [zset_ne x5, hk3 x x2 x3, zset_ne x1]⟩
  · exact ⟨rfl, by rw [if_pos he]; exact e1, by rw [he]; exact e2, by rw [if_pos he]; exact e3, by rw [e4 t m1 m2 m3 m4, zset_self], fun x x1 x2 x3 x4 x5 => by rw [e4 x x1 x2 x3 x4, zset_ne x5, hk3 x x2 x3, zset_ne x1]⟩
end
section
theorem take_erase (es : List Nat) {m : Nat} (h : m < es.length) : (es.take (m + 1)).eraseIdx m = es.take m := by
  rw [List.eraseIdx_eq_take_drop_succ, List.take_take, Nat.min_eq_left (by omega)]
  rw [List.drop_eq_nil_of_le (by rw [List.length_take]; omega), List.append_nil]
set_option maxHeartbeats 4000000 in
set_option maxRecDepth 100000 in
theorem lp_Qu_dropLast (g : ZG) (k : ZK) (R : Room) (post : Option Value → ZM → Prop) (n1 n2 : Nat) (M0 : ZM) (a la pa : Nat) (kd pe ho : Int32) (us : Int64) (ln tn : Int32) (tv : Int64) (tr : Value) (arr : Nat) (es : List Nat) (cap j : Nat) (ws : List Value) (s : Int32) (ha : M0 a = some (.inr (1, fQ la pa kd pe ho us ln tn tv tr))) (q1 : a ≠ la) (q2 : a ≠ arr) (q3 : pa ≠ la) (q4 : pa ≠ arr) (q5 : ∀ e ∈ es, e ≠ la ∧ e ≠ arr) (hp : M0 pa = some (.inl (1, ws))) (hc : cap ≤ 1000000) (hw : ws.length < 2 ^ 31) (hes : ∀ e ∈ es, ∃ x : Int64, M0 e = some (.inr (2, [.long x]))) (hf : 3 ≤ R.frames) (hlo : 90 ≤ R.locals) (h1 : n1 ≤ R.cells) (h2 : n2 ≤ R.slots)
  (hp1 : ∀ M : ZM, es.take j ≠ [] → ALr M g.2.2.2.1 la arr (es.take j) cap → (∀ x, x ≠ la → x ≠ arr → M x = M0 x) → post none M) (hp2 : ∀ M' : ZM, es.take j = [] → M' a = some (.inr (1, fQ la pa (-1) pe ho us ln tn tv tr)) → ALr M' g.2.2.2.1 la arr [] cap → M' pa = some (.inl (1, List.replicate ws.length (.int 0))) → (∀ x, x ≠ a → x ≠ la → x ≠ arr → x ≠ pa → M' x = M0 x) → post none M') : ∀ (d : Nat) (M : ZM), j + d ≤ es.length → ALr M g.2.2.2.1 la arr (es.take (j + d)) cap → (∀ x, x ≠ la → x ≠ arr → M x = M0 x) → ZW vcl tlx GT "MonitorQueues$Queue" b_Qu_dropLast 3 none "dropLast" R g k post [some (.ref a), some (.int s), some (.int (nI d))] 19 [] (M) n1 n2 := by
  intro d
  induction d with
  | zero =>
    intro M hd hl hk
    refine z_iload_n d_Qu_dropLast_19 rfl ?_
    refine z_if_le (tgt := 56) d_Qu_dropLast_20 (by decide) (fun h20 => ?_) (fun h20 => (h20 (by decide)).elim)
    refine t_Qu_dropLast g k R post n1 n2 M a la pa kd pe ho us ln tn tv tr arr (es.take j) cap ws _ _ (by rw [hk a q1 q2]; exact ha) hl (by rw [hk pa q3 q4]; exact hp) hc hw (by omega) (by omega) h1 h2 (fun he => hp1 M he hl hk) (fun M' he e1 e2 e3 e4 => hp2 M' he e1 e2 e3 (fun x x1 x2 x3 x4 => by rw [e4 x x1 x2 x3 x4, hk x x2 x3]))
  | succ d ih =>
    intro M hd hl hk
    obtain ⟨⟨mc, hla⟩, hr, hle, hz⟩ := id hl
    have hM : M a = some (.inr (1, fQ la pa kd pe ho us ln tn tv tr)) := by rw [hk a q1 q2]; exact ha
    have hlen : (es.take (j + (d + 1))).length = j + d + 1 := by rw [List.length_take]; omega
    refine z_iload_n d_Qu_dropLast_19 rfl ?_
    refine z_if_le (tgt := 56) d_Qu_dropLast_20 (by decide) (fun h20 => (nI_nle (Nat.succ_pos d) (by omega) h20).elim) (fun h20 => ?_)
    refine z_aload_n d_Qu_dropLast_23 rfl ?_
    refine z_get d_Qu_dropLast_24 zf_Qu_12 (hM) rfl ?_
    refine z_callV gt_good d_Qu_dropLast_27 zv_Qu_67 (hla) rfl (fun l => c_AL_isEmpty l g M la arr (nI (es.take (j + (d + 1))).length) mc hla) rfl rfl ⟨by show 0 + 1 ≤ _; omega, by show 8 + (1 + 11) + 0 ≤ _; omega⟩ (Nat.le_of_ble_eq_true rfl) (by simpa using h1) (by simpa using h2) ?_
    rintro _ _ ⟨rfl, rfl⟩
    refine z_if_ne (tgt := 56) d_Qu_dropLast_30 (by decide) (fun h30 => (h30 (if_neg (nI_ne0 (by omega) (by omega)))).elim) (fun h30 => ?_)
    refine z_aload_n d_Qu_dropLast_33 rfl ?_
    refine z_get d_Qu_dropLast_34 zf_Qu_12 (hM) rfl ?_
    refine z_aload_n d_Qu_dropLast_37 rfl ?_
    refine z_get d_Qu_dropLast_38 zf_Qu_12 (hM) rfl ?_
    refine z_callV gt_good d_Qu_dropLast_41 zv_Qu_33 (hla) rfl (fun l => c_AL_size l g M la arr (nI (es.take (j + (d + 1))).length) mc hla) rfl rfl ⟨by show 0 + 1 ≤ _; omega, by show 8 + (1 + 11) + 0 ≤ _; omega⟩ (Nat.le_of_ble_eq_true rfl) (by simpa using h1) (by simpa using h2) ?_
    rintro _ _ ⟨rfl, rfl⟩
    refine z_iconst (v := 1) d_Qu_dropLast_44 (by decide) ?_
    refine z_isub d_Qu_dropLast_45 ?_
    rw [hlen, nI_pred]
    refine z_callV gt_good d_Qu_dropLast_46 zv_Qu_83 (hla) rfl (fun l => c_AL_remove l g M la arr (j + d) (es.take (j + (d + 1))) cap hl hc (fun e he => by obtain ⟨x, hx⟩ := hes e (List.mem_of_mem_take he); obtain ⟨y1, y2⟩ := q5 e (List.mem_of_mem_take he); exact (zObj.it hx).kept (hk e y1 y2)) (by omega)) rfl rfl ⟨by show 2 + 1 ≤ _; omega, by show 8 + (4 + 11) + 60 ≤ _; omega⟩ (Nat.le_of_ble_eq_true rfl) (by simpa using h1) (by simpa using h2) ?_
    rintro _ M1 ⟨rfl, hl1, hk1⟩
    refine z_pop d_Qu_dropLast_49 rfl ?_
    refine z_iinc (v := nI d) d_Qu_dropLast_50 rfl (pk_m1 d) (by decide) rfl ?_
    refine z_goto (tgt := 19) d_Qu_dropLast_53 (by decide) ?_
    rw [show j + (d + 1) = j + d + 1 by omega, take_erase es (by omega)] at hl1
    exact ih M1 (by omega) hl1 (fun x x1 x2 => by rw [hk1 x x1 x2, hk x x1 x2])
set_option maxHeartbeats 4000000 in
set_option maxRecDepth 100000 in
theorem c_Qu_dropLast (l : Launch) (g : ZG) (M : ZM) (a la pa : Nat) (kd pe ho : Int32) (us : Int64) (ln tn : Int32) (tv : Int64) (tr : Value) (arr : Nat) (es : List Nat) (cap : Nat) (ws : List Value) (d : Nat) (ha : M a = some (.inr (1, fQ la pa kd pe ho us ln tn tv tr))) (hl : ALr M g.2.2.2.1 la arr es cap) (hp : M pa = some (.inl (1, ws))) (hc : cap ≤ 1000000) (hw : ws.length < 2 ^ 31) (hes : ∀ e ∈ es, ∃ x : Int64, M e = some (.inr (2, [.long x]))) (hd : d ≤ es.length) : ZC vcl tlx GT l g y_Qu_dropLast b_Qu_dropLast 3 none (ZRm 3 0 0) [.ref a, .int (nI d)] M (fun r M' => r = none ∧ M' a = some (.inr (1, fQ la pa (if es.length = d then -1 else kd) pe ho us (if kTrans kd then ln - nI d else ln) tn tv tr)) ∧ ALr M' g.2.2.2.1 la arr (es.take (es.length - d)) cap ∧ M' pa = some (.inl (1, if es.length = d then List.replicate ws.length (.int 0) else ws)) ∧ ∀ x, x ≠ a → x ≠ la → x ≠ arr → x ≠ pa → M' x = M x) := by
  refine ZC.of (by decide) (Nat.le_of_ble_eq_true rfl) rfl (fun k hz0 => ?_)
  obtain ⟨⟨mc, hla⟩, hr, hle, hz⟩ := id hl
  have q1 : a ≠ la := zne ha hla (by intro h; cases h)
  have q2 : a ≠ arr := zne ha hr (by intro h; cases h)
  have q3 : pa ≠ la := zne hp hla (by intro h; cases h)
  have q4 : pa ≠ arr := zne hp hr (by simp)
  have q6 : a ≠ pa := zne ha hp (by intro h; cases h)
  have q5 : ∀ e ∈ es, e ≠ la ∧ e ≠ arr := fun e he => by obtain ⟨x, hx⟩ := hes e he; exact ⟨zne hx hla (by simp), zne hx hr (by intro h; cases h)⟩
  have q7 : ∀ e ∈ es, a ≠ e := fun e he => by obtain ⟨x, hx⟩ := hes e he; exact zne ha hx (by intro h; cases h)
  have hj : es.length - d + d = es.length := by omega
  have htk : es.take (es.length - d + d) = es := by rw [hj]; exact List.take_length
  have hnil : es.take (es.length - d) = [] ↔ es.length = d := by
    rw [List.take_eq_nil_iff]
    constructor
    · rintro (h | h)
      · omega
      · rw [h] at hd ⊢
        simp at hd ⊢
        omega
    · intro h
      left
      omega
  refine z_aload_n d_Qu_dropLast_0 rfl ?_
  refine z_callV gt_good d_Qu_dropLast_1 zv_Qu_60 (ha) rfl (fun l => c_Qu_isTransient l g M a la pa kd pe ho us ln tn tv tr ha) rfl rfl ⟨Nat.le_of_ble_eq_true rfl, Nat.le_of_ble_eq_true rfl⟩ (Nat.le_of_ble_eq_true rfl) (Nat.le_of_ble_eq_true rfl) (Nat.le_of_ble_eq_true rfl) ?_
  rintro _ _ ⟨rfl, rfl⟩
  refine z_if_eq (tgt := 17) d_Qu_dropLast_4 (by decide) (fun h4 => ?_) (fun h4 => ?_)
  · skip
    have hkt := zif0 h4
    refine z_iload_n d_Qu_dropLast_17 rfl ?_
    refine z_istore_n (i := 2) d_Qu_dropLast_18 rfl (by decide) rfl ?_
    refine lp_Qu_dropLast g k _ _ _ _ (M) a la pa kd pe ho us ln tn tv tr arr es cap (es.length - d) ws _ ha q1 q2 q3 q4 q5 (hp) hc hw (hes) (Nat.le_of_ble_eq_true rfl) (Nat.le_of_ble_eq_true rfl) (by simp) (by simp) (fun M1 he hl1 hk1 => ?_) (fun M1 he e1 e2 e3 e4 => ?_) d (M) (by omega) (by rw [htk]; exact hl.kept rfl rfl) (fun _ _ _ => rfl)
    · have hne : ¬ es.length = d := fun e => he (hnil.mpr e)
      refine ⟨rfl, ?_, hl1, ?_, fun x x1 x2 x3 x4 => by rw [hk1 x x2 x3]⟩
      · rw [hk1 a q1 q2, if_neg hne, if_neg hkt]; exact ha
      · rw [hk1 pa q3 q4, if_neg hne]; exact hp
    · have hye : es.length = d := hnil.mp he
      refine ⟨rfl, ?_, by rw [he]; exact e2, by rw [if_pos hye]; exact e3, fun x x1 x2 x3 x4 => by rw [e4 x x1 x2 x3 x4]⟩
      rw [if_pos hye, if_neg hkt]; exact e1
    skip
  · skip
    have hkt := zif1 h4
    refine z_aload_n d_Qu_dropLast_7 rfl ?_
    refine z_dup d_Qu_dropLast_8 rfl ?_
    refine z_get d_Qu_dropLast_9 zf_Qu_64 (ha) rfl ?_
    refine z_iload_n d_Qu_dropLast_12 rfl ?_
    refine z_isub d_Qu_dropLast_13 ?_
    refine z_put d_Qu_dropLast_14 zp_Qu_64 (ha) rfl rfl ?_
    refine z_iload_n d_Qu_dropLast_17 rfl ?_
    refine z_istore_n (i := 2) d_Qu_dropLast_18 rfl (by decide) rfl ?_
    refine lp_Qu_dropLast g k _ _ _ _ (zset M a (.inr (1, fQ la pa kd pe ho us (ln - nI d) tn tv tr))) a la pa kd pe ho us (ln - nI d) tn tv tr arr es cap (es.length - d) ws _ (zset_self _ _ _) q1 q2 q3 q4 q5 (by rw [zset_ne (Ne.symm q6)]; exact hp) hc hw (fun e he => by rw [zset_ne (Ne.symm (q7 e he))]; exact hes e he) (Nat.le_of_ble_eq_true rfl) (Nat.le_of_ble_eq_true rfl) (by simp) (by simp) (fun M1 he hl1 hk1 => ?_) (fun M1 he e1 e2 e3 e4 => ?_) d (zset M a (.inr (1, fQ la pa kd pe ho us (ln - nI d) tn tv tr))) (by omega) (by rw [htk]; exact hl.kept (zset_ne (Ne.symm q1)) (zset_ne (Ne.symm q2))) (fun _ _ _ => rfl)
    · have hne : ¬ es.length = d := fun e => he (hnil.mpr e)
      refine ⟨rfl, ?_, hl1, ?_, fun x x1 x2 x3 x4 => by rw [hk1 x x2 x3, zset_ne x1]⟩
      · rw [hk1 a q1 q2, if_neg hne, if_pos hkt]; exact zset_self _ _ _
      · rw [hk1 pa q3 q4, if_neg hne, zset_ne (Ne.symm q6)]; exact hp
    · have hye : es.length = d := hnil.mp he
      refine ⟨rfl, ?_, by rw [he]; exact e2, by rw [if_pos hye]; exact e3, fun x x1 x2 x3 x4 => by rw [e4 x x1 x2 x3 x4, zset_ne x1]⟩
      rw [if_pos hye, if_pos hkt]; exact e1
set_option maxHeartbeats 4000000 in
set_option maxRecDepth 100000 in
theorem c_Qu_endPending (l : Launch) (g : ZG) (M : ZM) (a la pa : Nat) (kd ho : Int32) (us : Int64) (ln tn : Int32) (tv : Int64) (tr : Value) (arr : Nat) (es : List Nat) (cap : Nat) (ws : List Value) (d : Nat) (c : Int32) (ha : M a = some (.inr (1, fQ la pa kd (nI d) ho us ln tn tv tr))) (hl : ALr M g.2.2.2.1 la arr es cap) (hp : M pa = some (.inl (1, ws))) (hc : cap ≤ 1000000) (hw : ws.length < 2 ^ 31) (hes : ∀ e ∈ es, ∃ x : Int64, M e = some (.inr (2, [.long x]))) (hd : d ≤ es.length) : ZC vcl tlx GT l g y_Qu_endPending b_Qu_endPending 3 (Option.some FieldType.int) (ZRm 4 0 0) [.ref a, .int c] M (fun r M' => r = some (.int (nI d)) ∧ M' a = some (.inr (1, fQ la pa (if c = 0 ∧ es.length = d then -1 else kd) 0 ho us (if c = 0 ∧ kTrans kd then ln - nI d else ln) tn tv tr)) ∧ ALr M' g.2.2.2.1 la arr (if c = 0 then es.take (es.length - d) else es) cap ∧ M' pa = some (.inl (1, if c = 0 ∧ es.length = d then List.replicate ws.length (.int 0) else ws)) ∧ ∀ x, x ≠ a → x ≠ la → x ≠ arr → x ≠ pa → M' x = M x) := by
  refine ZC.of (by decide) (Nat.le_of_ble_eq_true rfl) rfl (fun k hz0 => ?_)
  obtain ⟨⟨mc, hla⟩, hr, hle, hz⟩ := id hl
  have q1 : a ≠ la := zne ha hla (by intro h; cases h)
  have q2 : a ≠ arr := zne ha hr (by intro h; cases h)
  have q6 : a ≠ pa := zne ha hp (by intro h; cases h)
  have q7 : ∀ e ∈ es, a ≠ e := fun e he => by obtain ⟨x, hx⟩ := hes e he; exact zne ha hx (by intro h; cases h)
  refine z_aload_n d_Qu_endPending_0 rfl ?_
  refine z_get d_Qu_endPending_1 zf_Qu_30 (ha) rfl ?_
  refine z_istore_n (i := 2) d_Qu_endPending_4 rfl (by decide) rfl ?_
  refine z_aload_n d_Qu_endPending_5 rfl ?_
  refine z_iconst (v := 0) d_Qu_endPending_6 (by decide) ?_
  refine z_put d_Qu_endPending_7 zp_Qu_30 (ha) rfl rfl ?_
  refine z_iload_n d_Qu_endPending_10 rfl ?_
  refine z_if_ne (tgt := 19) d_Qu_endPending_11 (by decide) (fun h11 => ?_) (fun h11 => ?_)
  · skip
    refine z_iload_n d_Qu_endPending_19 rfl ?_
    refine z_ireturn d_Qu_endPending_20 rfl ?_ (by decide) (by decide)
    first
      | exact ⟨rfl, by simp [h11]; exact e1, by simp [h11]; exact e2, by simp [h11]; exact e3, fun x x1 x2 x3 x4 => by rw [e4 x x1 x2 x3 x4, zset_ne x1]⟩
      | exact ⟨rfl, by simp [h11, zset_self], by simp [h11]; exact hl.kept (zset_ne (Ne.symm q1)) (zset_ne (Ne.symm q2)), by simp [h11]; rw [zset_ne (Ne.symm q6)]; exact hp, fun x x1 x2 x3 x4 => zset_ne x1⟩
  · skip
    refine z_aload_n d_Qu_endPending_14 rfl ?_
    refine z_iload_n d_Qu_endPending_15 rfl ?_
    refine z_callV gt_good d_Qu_endPending_16 zv_Qu_95 (zset_self _ _ _) rfl (fun l => c_Qu_dropLast l g _ a la pa kd 0 ho us ln tn tv tr arr es cap ws d (zset_self _ _ _) (hl.kept (zset_ne (Ne.symm q1)) (zset_ne (Ne.symm q2))) (by rw [zset_ne (Ne.symm q6)]; exact hp) hc hw (fun e he => by rw [zset_ne (Ne.symm (q7 e he))]; exact hes e he) hd) rfl rfl ⟨Nat.le_of_ble_eq_true rfl, Nat.le_of_ble_eq_true rfl⟩ (Nat.le_of_ble_eq_true rfl) (Nat.le_of_ble_eq_true rfl) (Nat.le_of_ble_eq_true rfl) ?_
    rintro _ M1 ⟨rfl, e1, e2, e3, e4⟩
    refine z_iload_n d_Qu_endPending_19 rfl ?_
    refine z_ireturn d_Qu_endPending_20 rfl ?_ (by decide) (by decide)
    first
      | exact ⟨rfl, by simp [h11]; exact e1, by simp [h11]; exact e2, by simp [h11]; exact e3, fun x x1 x2 x3 x4 => by rw [e4 x x1 x2 x3 x4, zset_ne x1]⟩
      | exact ⟨rfl, by simp [h11, zset_self], by simp [h11]; exact hl.kept (zset_ne (Ne.symm q1)) (zset_ne (Ne.symm q2)), by simp [h11]; rw [zset_ne (Ne.symm q6)]; exact hp, fun x x1 x2 x3 x4 => zset_ne x1⟩
end
section
/-! WHAT A STATE OF THE SYSTEM IS. A trigger: needed, code, ready, task, takenSince. A queue: kind, values, pending, holder, lastUse, lastNumber, takenNumber, takenValue, trigger, places. -/
abbrev TS : Type := Int32 × Int32 × Int32 × Int32 × Int32
abbrev QS : Type := Int32 × List Int64 × Nat × Int32 × Int64 × Int32 × Int32 × Int64 × Option TS × List Int32
abbrev DS : Type := Int32 × Int32 × Int64
/-- room, queues, tasks (code, goes), tasksGoing, delays (number, code, until), lastDelay, now -/
abbrev MS : Type := Int32 × (Nat → QS) × List (Int32 × Int32) × Int32 × List DS × Int32 × Int64
abbrev fT (t : TS) : List Value := [.int t.1, .int t.2.1, .int t.2.2.1, .int t.2.2.2.1, .int t.2.2.2.2]
abbrev fQs (la pa : Nat) (s : QS) (tr : Value) : List Value := fQ la pa s.1 (nI s.2.2.1) s.2.2.2.1 s.2.2.2.2.1 s.2.2.2.2.2.1 s.2.2.2.2.2.2.1 s.2.2.2.2.2.2.2.1 tr
abbrev fM (qarr lt lw : Nat) (S : MS) : List Value := [.int S.1, .ref qarr, .ref lt, .ref lw, .int S.2.2.2.1, .int S.2.2.2.2.2.1, .long S.2.2.2.2.2.2]
/-- the owner of an address: a queue by its place, 32 the tasks, 33 the delays, 34 the object itself -/
def ow (M : ZM) (own : Nat → Nat) (k : Nat) : Nat → Nat := fun y => match M y with
  | none => k
  | some _ => own y
theorem ow_old {M : ZM} {own : Nat → Nat} {k y : Nat} (h : M y ≠ none) : ow M own k y = own y := by
  unfold ow
  cases hy : M y with
  | none => exact absurd hy h
  | some e => rfl
theorem ow_new {M : ZM} {own : Nat → Nat} {k y : Nat} (h : M y = none) : ow M own k y = k := by
  unfold ow
  rw [h]
def TrR (M : ZM) (own : Nat → Nat) (i : Nat) (t : Option TS) (tr : Value) : Prop := match t with
  | none => tr = .null
  | some t => ∃ ta : Nat, tr = .ref ta ∧ own ta = i ∧ M ta = some (.inr (4, fT t))
def ItR (M : ZM) (own : Nat → Nat) (i : Nat) (es : List Nat) (vals : List Int64) : Prop := es.length = vals.length ∧ (∀ (j e : Nat), es[j]? = some e → ∃ x : Int64, vals[j]? = some x ∧ M e = some (.inr (2, [.long x])) ∧ own e = i) ∧ es.Nodup
def Qx (M : ZM) (z : Nat) (own : Nat → Nat) (i qa : Nat) (s : QS) (la pa arr : Nat) (es : List Nat) (cap : Nat) (tr : Value) : Prop := M qa = some (.inr (1, fQs la pa s tr)) ∧ ALr M z la arr es cap ∧ cap ≤ 1000 ∧ ItR M own i es s.2.1 ∧ M pa = some (.inl (1, s.2.2.2.2.2.2.2.2.2.map Value.int)) ∧ s.2.2.2.2.2.2.2.2.2.length = 8 ∧ s.2.2.1 ≤ s.2.1.length ∧ TrR M own i s.2.2.2.2.2.2.2.2.1 tr ∧ own qa = i ∧ own la = i ∧ own pa = i ∧ (arr ≠ z → own arr = i)
def QRep (M : ZM) (z : Nat) (own : Nat → Nat) (i qa : Nat) (s : QS) : Prop :=
  ∃ (la pa arr : Nat) (es : List Nat) (cap : Nat) (tr : Value), Qx M z own i qa s la pa arr es cap tr
def TaR (M : ZM) (z : Nat) (own : Nat → Nat) (lt : Nat) (ts : List (Int32 × Int32)) (cap : Nat) : Prop :=
  ∃ (arr : Nat) (es : List Nat), ALr M z lt arr es cap ∧ es.length = ts.length ∧ (∀ (j e : Nat), es[j]? = some e → ∃ x : Int32 × Int32, ts[j]? = some x ∧ M e = some (.inr (3, [.int x.1, .int x.2])) ∧ own e = 32) ∧ es.Nodup ∧ own lt = 32 ∧ (arr ≠ z → own arr = 32)
def DeR (M : ZM) (z : Nat) (own : Nat → Nat) (lw : Nat) (ds : List DS) : Prop :=
  ∃ (arr : Nat) (es : List Nat) (cap : Nat), ALr M z lw arr es cap ∧ cap ≤ 1000 ∧ es.length = ds.length ∧ (∀ (j e : Nat), es[j]? = some e → ∃ x : DS, ds[j]? = some x ∧ M e = some (.inr (5, [.int x.1, .int x.2.1, .long x.2.2])) ∧ own e = 33) ∧ own lw = 33 ∧ (arr ≠ z → own arr = 33)
def MaR (M : ZM) (own : Nat → Nat) (x qarr lt lw : Nat) (qs : List Nat) (S : MS) : Prop := M x = some (.inr (0, fM qarr lt lw S)) ∧ M qarr = some (.inl (4, qs.map Value.ref)) ∧ qs.length = 32 ∧ own x = 34 ∧ own qarr = 34
def MRep (M : ZM) (z : Nat) (own : Nat → Nat) (x qarr lt lw : Nat) (qs : List Nat) (S : MS) (cap : Nat) : Prop :=
  MaR M own x qarr lt lw qs S ∧ (∀ (i qa : Nat), qs[i]? = some qa → QRep M z own i qa (S.2.1 i)) ∧ TaR M z own lt S.2.2.1 cap ∧ DeR M z own lw S.2.2.2.2.1 ∧ own z = 99
/-- a state of the object at x -/
def MR (M : ZM) (z x : Nat) (S : MS) (cap : Nat) : Prop := ∃ (own : Nat → Nat) (qarr lt lw : Nat) (qs : List Nat), MRep M z own x qarr lt lw qs S cap
/-- what belongs to k stays -/
def Kp (M : ZM) (own : Nat → Nat) (k : Nat) (M' : ZM) (own' : Nat → Nat) : Prop := ∀ y : Nat, M y ≠ none → own y = k → M' y = M y ∧ own' y = k
theorem ALr.fr {M M' : ZM} {own own' : Nat → Nat} {z a arr cap k : Nat} {es : List Nat} (h : ALr M z a arr es cap) (hk : Kp M own k M' own') (hz : M' z = M z) (ha : own a = k) (hr : arr ≠ z → own arr = k) : ALr M' z a arr es cap := by
  obtain ⟨⟨mc, h1⟩, h2, h3⟩ := h
  refine ALr.kept ⟨⟨mc, h1⟩, h2, h3⟩ (hk a (by rw [h1]; simp) ha).1 ?_
  by_cases he : arr = z
  · rw [he]; exact hz
  · exact (hk arr (by rw [h2]; simp) (hr he)).1
theorem arr_fr {M M' : ZM} {own own' : Nat → Nat} {z a arr cap k : Nat} {es : List Nat} (h : ALr M z a arr es cap) (hk : Kp M own k M' own') (hr : arr ≠ z → own arr = k) : arr ≠ z → own' arr = k := fun he => (hk arr (by rw [h.2.1]; simp) (hr he)).2
theorem QRep.fr {M M' : ZM} {own own' : Nat → Nat} {z i qa : Nat} {s : QS} (h : QRep M z own i qa s) (hk : Kp M own i M' own') (hz : M' z = M z) : QRep M' z own' i qa s := by
  obtain ⟨la, pa, arr, es, cap, tr, h1, h2, h3, ⟨h4, h5, h6⟩, h7, h8, h9, h10, o1, o2, o3, o4⟩ := h
  obtain ⟨⟨mc, hla⟩, hr, -⟩ := id h2
  refine ⟨la, pa, arr, es, cap, tr, ?_, h2.fr hk hz o2 o4, h3, ⟨h4, fun j e hj => ?_, h6⟩, ?_, h8, h9, ?_, (hk qa (by rw [h1]; simp) o1).2, (hk la (by rw [hla]; simp) o2).2, (hk pa (by rw [h7]; simp) o3).2, arr_fr h2 hk o4⟩
  · rw [(hk qa (by rw [h1]; simp) o1).1]; exact h1
  · obtain ⟨x, e1, e2, e3⟩ := h5 j e hj
    obtain ⟨k1, k2⟩ := hk e (by rw [e2]; simp) e3
    exact ⟨x, e1, by rw [k1]; exact e2, k2⟩
  · rw [(hk pa (by rw [h7]; simp) o3).1]; exact h7
  · unfold TrR at h10 ⊢
    split
    · rename_i ht
      rw [ht] at h10
      exact h10
    · rename_i t ht
      rw [ht] at h10
      obtain ⟨ta, e1, e2, e3⟩ := h10
      obtain ⟨k1, k2⟩ := hk ta (by rw [e3]; simp) e2
      exact ⟨ta, e1, k2, by rw [k1]; exact e3⟩
theorem TaR.fr {M M' : ZM} {own own' : Nat → Nat} {z lt cap : Nat} {ts : List (Int32 × Int32)} (h : TaR M z own lt ts cap) (hk : Kp M own 32 M' own') (hz : M' z = M z) : TaR M' z own' lt ts cap := by
  obtain ⟨arr, es, h2, h4, h5, h6, o2, o4⟩ := h
  obtain ⟨⟨mc, hla⟩, hr, -⟩ := id h2
  refine ⟨arr, es, h2.fr hk hz o2 o4, h4, fun j e hj => ?_, h6, (hk lt (by rw [hla]; simp) o2).2, arr_fr h2 hk o4⟩
  obtain ⟨x, e1, e2, e3⟩ := h5 j e hj
  obtain ⟨k1, k2⟩ := hk e (by rw [e2]; simp) e3
  exact ⟨x, e1, by rw [k1]; exact e2, k2⟩
theorem DeR.fr {M M' : ZM} {own own' : Nat → Nat} {z lw : Nat} {ds : List DS} (h : DeR M z own lw ds) (hk : Kp M own 33 M' own') (hz : M' z = M z) : DeR M' z own' lw ds := by
  obtain ⟨arr, es, cap, h2, h3, h4, h5, o2, o4⟩ := h
  obtain ⟨⟨mc, hla⟩, hr, -⟩ := id h2
  refine ⟨arr, es, cap, h2.fr hk hz o2 o4, h3, h4, fun j e hj => ?_, (hk lw (by rw [hla]; simp) o2).2, arr_fr h2 hk o4⟩
  obtain ⟨x, e1, e2, e3⟩ := h5 j e hj
  obtain ⟨k1, k2⟩ := hk e (by rw [e2]; simp) e3
  exact ⟨x, e1, by rw [k1]; exact e2, k2⟩
theorem MaR.fr {M M' : ZM} {own own' : Nat → Nat} {x qarr lt lw : Nat} {qs : List Nat} {S : MS} (h : MaR M own x qarr lt lw qs S) (hk : Kp M own 34 M' own') : MaR M' own' x qarr lt lw qs S := by
  obtain ⟨h1, h2, h3, h4, h5⟩ := h
  obtain ⟨k1, k2⟩ := hk x (by rw [h1]; simp) h4
  obtain ⟨k3, k4⟩ := hk qarr (by rw [h2]; simp) h5
  exact ⟨by rw [k1]; exact h1, by rw [k3]; exact h2, h3, k2, k4⟩
end
section
def tot (S : MS) : Nat → Nat
  | 0 => 0
  | n + 1 => tot S n + (S.2.1 n).2.1.length
theorem capA_pay {n cap : Nat} (h : n ≤ cap) : (if n < cap then 0 else capA n cap) + 4 * cap ≤ 4 * capA n cap := by
  unfold capA
  split
  · omega
  · split <;> omega
theorem capA_ok {n cap : Nat} (h : n ≤ 600) (hc : cap ≤ 1000) (hn : n ≤ cap) : capA n cap ≤ 1000 := by
  unfold capA
  split
  · omega
  · split <;> omega
theorem ALr.la {M : ZM} {z a arr cap : Nat} {es : List Nat} (h : ALr M z a arr es cap) : M a ≠ none := by
  obtain ⟨⟨mc, h1⟩, -⟩ := h
  rw [h1]
  simp
/-- what a look at a trigger does, with n items that stand and k tasks begun before -/
def lookT (t : TS) (n : Int32) (k : Nat) : TS × Option Int32 :=
  if n < t.1 then ((t.1, t.2.1, 1, t.2.2.2.1, t.2.2.2.2), none)
  else if ¬ t.2.2.1 = 0 ∧ t.2.2.2.1 = 0 then ((t.1, t.2.1, 0, nI (k + 1), 0), some t.2.1) else (t, none)
def setTr (s : QS) (t : Option TS) : QS := (s.1, s.2.1, s.2.2.1, s.2.2.2.1, s.2.2.2.2.1, s.2.2.2.2.2.1, s.2.2.2.2.2.2.1, s.2.2.2.2.2.2.2.1, t, s.2.2.2.2.2.2.2.2.2)
def addT (S : MS) (q : Nat → QS) (c : Option Int32) : MS := (S.1, q, S.2.2.1 ++ c.toList.map (fun c => (c, 1)), (if c = none then S.2.2.2.1 else S.2.2.2.1 + 1), S.2.2.2.2)
def lookI (S : MS) (i : Nat) : MS := match (S.2.1 i).2.2.2.2.2.2.2.2.1 with
  | none => S
  | some t => addT S (va_up S.2.1 i (setTr (S.2.1 i) (some (lookT t (nI ((S.2.1 i).2.1.length - (S.2.1 i).2.2.1)) S.2.2.1.length).1))) (lookT t (nI ((S.2.1 i).2.1.length - (S.2.1 i).2.2.1)) S.2.2.1.length).2
def lookN (S : MS) : Nat → MS
  | 0 => S
  | n + 1 => lookI (lookN S n) n
theorem Kp.ow {M : ZM} {own : Nat → Nat} {k : Nat} {M' : ZM} {j : Nat} (h : ∀ y, M y ≠ none → own y = k → M' y = M y) : Kp M own k M' (ow M own j) := fun y hy hk => ⟨h y hy hk, by rw [ow_old hy]; exact hk⟩
theorem lookI_len (S : MS) (i : Nat) : S.2.2.1.length ≤ (lookI S i).2.2.1.length := by
  unfold lookI
  split
  · exact Nat.le_refl _
  · simp [addT]
theorem lookN_len (S : MS) {i j : Nat} (h : i ≤ j) : (lookN S i).2.2.1.length ≤ (lookN S j).2.2.1.length := by
  induction h with
  | refl => exact Nat.le_refl _
  | step _ ih => exact Nat.le_trans ih (lookI_len _ _)
theorem TaR.len {M : ZM} {z : Nat} {own : Nat → Nat} {lt cap : Nat} {ts : List (Int32 × Int32)} (h : TaR M z own lt ts cap) : ts.length ≤ cap := by
  obtain ⟨arr, es, h2, h4, -⟩ := h
  rw [← h4]
  exact h2.2.2.1
end
section
set_option maxHeartbeats 4000000 in
set_option maxRecDepth 100000 in
theorem c_MQ_isQueue (l : Launch) (g : ZG) (M : ZM) (x qarr lt lw : Nat) (S : MS) (qs : List Nat) (q : Int32) (hx : M x = some (.inr (0, fM qarr lt lw S))) (hq : M qarr = some (.inl (4, qs.map Value.ref))) (hl : qs.length = 32) : ZC vcl tlx GT l g y_MQ_isQueue b_MQ_isQueue 2 (Option.some FieldType.boolean) (ZRm 0 0 0) [.ref x, .int q] M (fun r M' => M = M' ∧ r = some (.int (if q < 0 ∨ 32 ≤ q then 0 else 1))) := by
  refine ZC.of (by decide) (Nat.le_of_ble_eq_true rfl) rfl (fun k hz0 => ?_)
  refine z_iload_n d_MQ_isQueue_0 rfl ?_
  refine z_if_lt (tgt := 17) d_MQ_isQueue_1 (by decide) (fun h1 => ?_) (fun h1 => ?_)
  · skip
    refine z_iconst (v := 0) d_MQ_isQueue_17 (by decide) ?_
    refine z_zreturn d_MQ_isQueue_18 rfl (by decide) ?_ (by decide) (by decide)
    exact ⟨rfl, by first | simp [h1, h10] | simp [h1]⟩
  · skip
    refine z_iload_n d_MQ_isQueue_4 rfl ?_
    refine z_aload_n d_MQ_isQueue_5 rfl ?_
    refine z_get d_MQ_isQueue_6 zf_MQ_24 (hx) rfl ?_
    refine z_alen d_MQ_isQueue_9 (hq) rfl ?_
    rw [show nI (List.map Value.ref qs).length = 32 by rw [List.length_map, hl]; rfl]
    refine z_icmp_ge (tgt := 17) d_MQ_isQueue_10 (by decide) (fun h10 => ?_) (fun h10 => ?_)
    · skip
      refine z_iconst (v := 0) d_MQ_isQueue_17 (by decide) ?_
      refine z_zreturn d_MQ_isQueue_18 rfl (by decide) ?_ (by decide) (by decide)
      exact ⟨rfl, by first | simp [h1, h10] | simp [h1]⟩
    · skip
      refine z_iconst (v := 1) d_MQ_isQueue_13 (by decide) ?_
      refine z_goto (tgt := 18) d_MQ_isQueue_14 (by decide) ?_
      refine z_zreturn d_MQ_isQueue_18 rfl (by decide) ?_ (by decide) (by decide)
      exact ⟨rfl, by first | simp [h1, h10] | simp [h1]⟩
set_option maxHeartbeats 4000000 in
set_option maxRecDepth 100000 in
theorem c_MQ_isTask (l : Launch) (g : ZG) (M : ZM) (x qarr lt lw : Nat) (S : MS) (arr : Nat) (n mc t : Int32) (hx : M x = some (.inr (0, fM qarr lt lw S))) (hl : M lt = some (.inr (6, fAL arr n mc))) : ZC vcl tlx GT l g y_MQ_isTask b_MQ_isTask 2 (Option.some FieldType.boolean) (ZRm 1 0 0) [.ref x, .int t] M (fun r M' => M = M' ∧ r = some (.int (if t < 1 ∨ n < t then 0 else 1))) := by
  refine ZC.of (by decide) (Nat.le_of_ble_eq_true rfl) rfl (fun k hz0 => ?_)
  refine z_iload_n d_MQ_isTask_0 rfl ?_
  refine z_iconst (v := 1) d_MQ_isTask_1 (by decide) ?_
  refine z_icmp_lt (tgt := 20) d_MQ_isTask_2 (by decide) (fun h2 => ?_) (fun h2 => ?_)
  · skip
    refine z_iconst (v := 0) d_MQ_isTask_20 (by decide) ?_
    refine z_zreturn d_MQ_isTask_21 rfl (by decide) ?_ (by decide) (by decide)
    exact ⟨rfl, by first | simp [h2, h13] | simp [h2]⟩
  · skip
    refine z_iload_n d_MQ_isTask_5 rfl ?_
    refine z_aload_n d_MQ_isTask_6 rfl ?_
    refine z_get d_MQ_isTask_7 zf_MQ_32 (hx) rfl ?_
    refine z_callV gt_good d_MQ_isTask_10 zv_MQ_151 (hl) rfl (fun l => c_AL_size l g M lt arr n mc hl) rfl rfl ⟨Nat.le_of_ble_eq_true rfl, Nat.le_of_ble_eq_true rfl⟩ (Nat.le_of_ble_eq_true rfl) (Nat.le_of_ble_eq_true rfl) (Nat.le_of_ble_eq_true rfl) ?_
    rintro _ _ ⟨rfl, rfl⟩
    refine z_icmp_gt (tgt := 20) d_MQ_isTask_13 (by decide) (fun h13 => ?_) (fun h13 => ?_)
    · skip
      refine z_iconst (v := 0) d_MQ_isTask_20 (by decide) ?_
      refine z_zreturn d_MQ_isTask_21 rfl (by decide) ?_ (by decide) (by decide)
      exact ⟨rfl, by first | simp [h2, h13] | simp [h2]⟩
    · skip
      refine z_iconst (v := 1) d_MQ_isTask_16 (by decide) ?_
      refine z_goto (tgt := 21) d_MQ_isTask_17 (by decide) ?_
      refine z_zreturn d_MQ_isTask_21 rfl (by decide) ?_ (by decide) (by decide)
      exact ⟨rfl, by first | simp [h2, h13] | simp [h2]⟩
set_option maxHeartbeats 4000000 in
set_option maxRecDepth 100000 in
theorem lp_MQ_allItems (g : ZG) (k : ZK) (post : Option Value → ZM → Prop) (M : ZM) (own : Nat → Nat) (x qarr lt lw : Nat) (qs : List Nat) (S : MS) (cap : Nat) (hm : MRep M g.2.2.2.1 own x qarr lt lw qs S cap) (hp : post (some (.int (nI (tot S 32)))) M) : ∀ (d i : Nat), i + d = 32 → ZW vcl tlx GT "MonitorQueues" b_MQ_allItems 3 (Option.some FieldType.int) "allItems" (ZRm 1 0 0) g k post [some (.ref x), some (.int (nI (tot S i))), some (.int (nI i))] 4 [] (M) 0 0 := by
  obtain ⟨⟨hx, hq, hl, -, -⟩, hQ, -, -, -⟩ := hm
  intro d
  induction d with
  | zero =>
    intro i hi
    obtain rfl : i = 32 := by omega
    refine z_iload_n d_MQ_allItems_4 rfl ?_
    refine z_aload_n d_MQ_allItems_5 rfl ?_
    refine z_get d_MQ_allItems_6 zf_MQ_24 (hx) rfl ?_
    refine z_alen d_MQ_allItems_9 (hq) rfl ?_
    rw [show nI (List.map Value.ref qs).length = nI 32 by rw [List.length_map, hl]]
    refine z_icmp_ge (tgt := 34) d_MQ_allItems_10 (by decide) (fun h10 => ?_) (fun h10 => False.elim (h10 (nI_le (Nat.le_refl _) (by decide))))
    refine z_iload_n d_MQ_allItems_34 rfl ?_
    refine z_ireturn d_MQ_allItems_35 rfl ?_ (by decide) (by decide)
    exact hp
  | succ d ih =>
    intro i hi
    obtain ⟨qa, hqa⟩ : ∃ qa, qs[i]? = some qa := ⟨qs[i], List.getElem?_eq_getElem (by omega)⟩
    obtain ⟨la, pa, arr, es, cp, tr, h1, ⟨⟨mc, h2⟩, -⟩, -, ⟨h3, -⟩, -⟩ := hQ i qa hqa
    have hv : (qs.map Value.ref)[i]? = some (.ref qa) := by rw [List.getElem?_map, hqa]; rfl
    refine z_iload_n d_MQ_allItems_4 rfl ?_
    refine z_aload_n d_MQ_allItems_5 rfl ?_
    refine z_get d_MQ_allItems_6 zf_MQ_24 (hx) rfl ?_
    refine z_alen d_MQ_allItems_9 (hq) rfl ?_
    rw [show nI (List.map Value.ref qs).length = nI 32 by rw [List.length_map, hl]]
    refine z_icmp_ge (tgt := 34) d_MQ_allItems_10 (by decide) (fun h10 => False.elim (nI_ge (show i < 32 by omega) (by decide) h10)) (fun h10 => ?_)
    refine z_iload_n d_MQ_allItems_13 rfl ?_
    refine z_aload_n d_MQ_allItems_14 rfl ?_
    refine z_get d_MQ_allItems_15 zf_MQ_24 (hx) rfl ?_
    refine z_iload_n d_MQ_allItems_18 rfl ?_
    refine z_aald d_MQ_allItems_19 hq rfl rfl (by omega) hv ?_
    refine z_get d_MQ_allItems_20 zf_MQ_87 (h1) rfl ?_
    refine z_callV gt_good d_MQ_allItems_23 zv_MQ_151 (h2) rfl (fun l => c_AL_size l g M la arr (nI es.length) mc h2) rfl rfl ⟨Nat.le_of_ble_eq_true rfl, Nat.le_of_ble_eq_true rfl⟩ (Nat.le_of_ble_eq_true rfl) (Nat.le_of_ble_eq_true rfl) (Nat.le_of_ble_eq_true rfl) ?_
    rintro _ _ ⟨rfl, rfl⟩
    rw [h3]
    refine z_iadd d_MQ_allItems_26 ?_
    rw [nI_add]
    refine z_istore_n (i := 1) d_MQ_allItems_27 rfl (by decide) rfl ?_
    refine z_iinc (v := nI (i + 1)) d_MQ_allItems_28 rfl (nI_1 i) (by decide) rfl ?_
    refine z_goto (tgt := 4) d_MQ_allItems_31 (by decide) ?_
    exact ih (i + 1) (by omega)
set_option maxHeartbeats 4000000 in
set_option maxRecDepth 100000 in
theorem c_MQ_allItems (l : Launch) (g : ZG) (M : ZM) (own : Nat → Nat) (x qarr lt lw : Nat) (qs : List Nat) (S : MS) (cap : Nat) (hm : MRep M g.2.2.2.1 own x qarr lt lw qs S cap) : ZC vcl tlx GT l g y_MQ_allItems b_MQ_allItems 3 (Option.some FieldType.int) (ZRm 1 0 0) [.ref x] M (fun r M' => M = M' ∧ r = some (.int (nI (tot S 32)))) := by
  refine ZC.of (by decide) (Nat.le_of_ble_eq_true rfl) rfl (fun k hz0 => ?_)
  refine z_iconst (v := 0) d_MQ_allItems_0 (by decide) ?_
  refine z_istore_n (i := 1) d_MQ_allItems_1 rfl (by decide) rfl ?_
  refine z_iconst (v := 0) d_MQ_allItems_2 (by decide) ?_
  refine z_istore_n (i := 2) d_MQ_allItems_3 rfl (by decide) rfl ?_
  exact lp_MQ_allItems g k _ M own x qarr lt lw qs S cap hm ⟨rfl, rfl⟩ 32 0 rfl
set_option maxHeartbeats 4000000 in
set_option maxRecDepth 100000 in
theorem c_MQ_begin (l : Launch) (g : ZG) (M : ZM) (own : Nat → Nat) (x qarr lt lw : Nat) (S : MS) (cap : Nat) (c : Int32) (hx : M x = some (.inr (0, fM qarr lt lw S))) (hX : own x = 34) (ht : TaR M g.2.2.2.1 own lt S.2.2.1 cap) (hc : cap ≤ 1000000) : ZC vcl tlx GT l g y_MQ_begin b_MQ_begin 2 (Option.some FieldType.int) (ZRm 7 (if S.2.2.1.length < cap then 1 else 2) (if S.2.2.1.length < cap then 2 else 2 + capA S.2.2.1.length cap)) [.ref x, .int c] M (fun r M' => r = some (.int (nI (S.2.2.1.length + 1))) ∧ M' x = some (.inr (0, fM qarr lt lw (addT S S.2.1 (some c)))) ∧ TaR M' g.2.2.2.1 (ow M own 32) lt (S.2.2.1 ++ [(c, 1)]) (capA S.2.2.1.length cap) ∧ ∀ y, M y ≠ none → y ≠ x → own y ≠ 32 → M' y = M y) := by
  refine ZC.of (by decide) (Nat.le_of_ble_eq_true rfl) rfl (fun k hz0 => ?_)
  obtain ⟨arr, es, hl, h4, h5, h6, o2, o4⟩ := ht
  obtain ⟨⟨mc, hla⟩, hr, hle, hz⟩ := id hl
  have hlen := h4
  have n1 : x ≠ lt := zne hx hla (by intro h; cases h)
  have n2 : x ≠ arr := zne hx hr (by intro h; cases h)
  refine z_aload_n d_MQ_begin_0 rfl ?_
  refine z_get d_MQ_begin_1 zf_MQ_32 (hx) rfl ?_
  refine z_new (ci := 3) (fs := [.int 0, .int 0]) d_MQ_begin_4 ⟨_, T_Ta, 2, ty_Ta, rfl, in_Ta, zl_Ta, gw_294, gw_295, gw_47, rfl, by decide⟩ (by simp; split <;> simp) (by simp; split <;> simp <;> omega) (fun q hq => ?_)
  have n7 : x ≠ q := zfresh_ne hx hq
  have nlq : lt ≠ q := zfresh_ne hla hq
  have nrq : arr ≠ q := zfresh_ne hr hq
  refine z_dup d_MQ_begin_7 rfl ?_
  refine z_iload_n d_MQ_begin_8 rfl ?_
  refine z_callI gt_good d_MQ_begin_9 zi_MQ_188 (fun l => c_Ta_init l g _ q (.int 0) (.int 0) c (zset_self _ _ _)) rfl rfl ⟨Nat.le_of_ble_eq_true rfl, Nat.le_of_ble_eq_true rfl⟩ (Nat.le_of_ble_eq_true rfl) (by simp; split <;> simp) (by simp; split <;> simp <;> omega) ?_
  rintro _ _ ⟨rfl, rfl⟩
  rw [zset_zset]
  refine z_callV gt_good d_MQ_begin_12 zv_MQ_191 (by rw [zset_ne nlq]; exact hla) rfl (fun l => c_AL_add l g (zset M q (.inr (3, [.int c, .int 1]))) lt arr q es cap (hl.kept (zset_ne nlq) (zset_ne nrq)) hc (fun e he => by obtain ⟨j, hj⟩ := List.getElem?_of_mem he; obtain ⟨y, -, hy, -⟩ := h5 j e hj; exact (zObj.ta hy).kept (zset_ne (zfresh_ne hy hq))) (zObj.ta (zset_self _ _ _))) rfl rfl ⟨Nat.le_of_ble_eq_true rfl, Nat.le_of_ble_eq_true rfl⟩ (Nat.le_of_ble_eq_true rfl) (by simp [hlen]; split <;> simp) (by simp [hlen]; split <;> simp) ?_
  rintro _ M4 ⟨arr', rfl, hq4, hqz, hl4, hk4⟩
  have hqq : arr' = arr ∨ M arr' = none := hq4.imp id zset_none
  have n6 : x ≠ arr' := by
    rcases hqq with e | e
    · rw [e]; exact n2
    · exact zfresh_ne hx e
  have nqr : q ≠ arr' := by
    rcases hq4 with e | e
    · rw [e]; exact Ne.symm nrq
    · exact zfresh_ne (zset_self _ _ _) e
  have h4x : M4 x = some (.inr (0, fM qarr lt lw S)) := by rw [hk4 x n1 n6, zset_ne n7]; exact hx
  obtain ⟨⟨mc4, hla4⟩, hr4, hle4⟩ := id hl4
  refine z_pop d_MQ_begin_15 rfl ?_
  refine z_aload_n d_MQ_begin_16 rfl ?_
  refine z_dup d_MQ_begin_17 rfl ?_
  refine z_get d_MQ_begin_18 zf_MQ_144 (h4x) rfl ?_
  refine z_iconst (v := 1) d_MQ_begin_21 (by decide) ?_
  refine z_iadd d_MQ_begin_22 ?_
  refine z_put d_MQ_begin_23 zp_MQ_144 (h4x) rfl rfl ?_
  refine z_aload_n d_MQ_begin_26 rfl ?_
  refine z_get d_MQ_begin_27 zf_MQ_32 (zset_self _ _ _) rfl ?_
  refine z_callV gt_good d_MQ_begin_30 zv_MQ_151 (by rw [zset_ne (Ne.symm n1)]; exact hla4) rfl (fun l => c_AL_size l g _ lt arr' (nI (es ++ [q]).length) mc4 (by rw [zset_ne (Ne.symm n1)]; exact hla4)) rfl rfl ⟨Nat.le_of_ble_eq_true rfl, Nat.le_of_ble_eq_true rfl⟩ (Nat.le_of_ble_eq_true rfl) (by simp [hlen]; split <;> simp) (by simp [hlen]; split <;> simp) ?_
  rintro _ _ ⟨rfl, rfl⟩
  refine z_ireturn d_MQ_begin_33 rfl ?_ (by simp [hlen]; split <;> simp) (by simp [hlen]; split <;> simp)
  refine ⟨by simp [hlen], zset_self _ _ _, ⟨arr', es ++ [q], ?_, by simp [hlen], ?_, ?_, ?_, ?_⟩, fun y y1 y2 y3 => ?_⟩
  · rw [← hlen]
    exact hl4.kept (zset_ne (Ne.symm n1)) (zset_ne (Ne.symm n6))
  · intro j e hj
    by_cases hjl : j < es.length
    · rw [List.getElem?_append_left hjl] at hj
      obtain ⟨y, e1, e2, e3⟩ := h5 j e hj
      have ne1 : e ≠ lt := zne e2 hla (by simp)
      have ne2 : e ≠ arr' := by
        rcases hqq with w | w
        · rw [w]; exact zne e2 hr (by intro h; cases h)
        · exact zfresh_ne e2 w
      have ne3 : e ≠ x := zne e2 hx (by simp)
      refine ⟨y, by rw [List.getElem?_append_left (by omega)]; exact e1, ?_, by rw [ow_old (by rw [e2]; simp)]; exact e3⟩
      rw [zset_ne ne3, hk4 e ne1 ne2, zset_ne (zfresh_ne e2 hq)]; exact e2
    · have hjn : j = es.length := by have := (List.getElem?_eq_some_iff.mp hj).1; simp at this; omega
      rw [hjn, List.getElem?_append_right (Nat.le_refl _), Nat.sub_self] at hj
      obtain rfl : q = e := by simpa using hj
      refine ⟨(c, 1), by rw [hjn, hlen, List.getElem?_append_right (Nat.le_refl _), Nat.sub_self]; rfl, ?_, ow_new hq⟩
      rw [zset_ne (Ne.symm n7), hk4 q (Ne.symm nlq) nqr, zset_self]
  · rw [List.nodup_append]
    refine ⟨h6, by simp, fun a ha b hb => ?_⟩
    obtain ⟨j, hj⟩ := List.getElem?_of_mem ha
    obtain ⟨y, -, hy, -⟩ := h5 j a hj
    rw [List.mem_singleton.mp hb]
    exact zfresh_ne hy hq
  · rw [ow_old (by rw [hla]; simp)]; exact o2
  · intro hne
    rcases hqq with w | w
    · rw [w] at hne ⊢
      rw [ow_old (by rw [hr]; simp)]; exact o4 hne
    · exact ow_new w
  · have yl : y ≠ lt := fun e => y3 (by rw [e]; exact o2)
    have yr : y ≠ arr' := by
      intro e
      rcases hqq with w | w
      · exact y3 (by rw [e, w]; exact o4 (by rw [← w]; exact hqz))
      · rw [e] at y1; exact y1 w
    rw [zset_ne y2, hk4 y yl yr, zset_ne (fun e => y1 (by rw [e]; exact hq))]
end
section
theorem Qx.trig {M M' : ZM} {own own' : Nat → Nat} {z i qa la pa arr cap ta : Nat} {s : QS} {es : List Nat} {fs : List Value} {t' : TS} (h : Qx M z own i qa s la pa arr es cap (.ref ta)) (ht : M ta = some (.inr (4, fs))) (hk : ∀ y, M y ≠ none → own y = i → y ≠ ta → M' y = M y ∧ own' y = i) (hz : M' z = M z) (ho : own' ta = i) (ht' : M' ta = some (.inr (4, fT t'))) : Qx M' z own' i qa (setTr s (some t')) la pa arr es cap (.ref ta) := by
  obtain ⟨h1, h2, h3, ⟨h4, h5, h6⟩, h7, h8, h9, h10, o1, o2, o3, o4⟩ := h
  obtain ⟨⟨mc, hla⟩, hr, -⟩ := id h2
  have n1 := hk qa (by rw [h1]; simp) o1 (zne h1 ht (by simp))
  have n2 := hk la (by rw [hla]; simp) o2 (zne hla ht (by simp))
  have n3 := hk pa (by rw [h7]; simp) o3 (zne h7 ht (by intro h; cases h))
  have n4 : arr ≠ z → M' arr = M arr ∧ own' arr = i := fun he => hk arr (by rw [hr]; simp) (o4 he) (zne hr ht (by intro h; cases h))
  refine ⟨by rw [n1.1]; exact h1, h2.kept n2.1 ?_, h3, ⟨h4, fun j e hj => ?_, h6⟩, by rw [n3.1]; exact h7, h8, h9, ⟨ta, rfl, ho, ht'⟩, n1.2, n2.2, n3.2, fun he => (n4 he).2⟩
  · by_cases he : arr = z
    · rw [he]; exact hz
    · exact (n4 he).1
  · obtain ⟨x, e1, e2, e3⟩ := h5 j e hj
    obtain ⟨k1, k2⟩ := hk e (by rw [e2]; simp) e3 (zne e2 ht (by simp))
    exact ⟨x, e1, by rw [k1]; exact e2, k2⟩
/-- one queue, the tasks and the object's own numbers change; the rest stays -/
theorem MRep.upd {M M' : ZM} {own own' : Nat → Nat} {z x qarr lt lw i qa cap cap' : Nat} {qs : List Nat} {S S' : MS} {s' : QS} (hm : MRep M z own x qarr lt lw qs S cap) (hq : qs[i]? = some qa) (ho : ∀ y, M y ≠ none → own' y = own y) (hz0 : M z ≠ none) (hx : M' x = some (.inr (0, fM qarr lt lw S'))) (hS : S'.2.1 = va_up S.2.1 i s') (hQ : QRep M' z own' i qa s') (hT : TaR M' z own' lt S'.2.2.1 cap') (hD : S'.2.2.2.2.1 = S.2.2.2.2.1) (fr : ∀ y, M y ≠ none → y ≠ x → own y ≠ i → own y ≠ 32 → M' y = M y) : MRep M' z own' x qarr lt lw qs S' cap' := by
  obtain ⟨⟨m1, m2, m3, m4, m5⟩, hqs, -, hd, hz⟩ := hm
  have hi : i < 32 := by rw [← m3]; exact (List.getElem?_eq_some_iff.mp hq).1
  have hxq : x ≠ qarr := zne m1 m2 (by intro h; cases h)
  have hmz : M' z = M z := fr z hz0 (fun e => by rw [e, m4] at hz; omega) (by omega) (by omega)
  refine ⟨⟨hx, by rw [fr qarr (by rw [m2]; simp) (Ne.symm hxq) (by omega) (by omega)]; exact m2, m3, by rw [ho x (by rw [m1]; simp)]; exact m4, by rw [ho qarr (by rw [m2]; simp)]; exact m5⟩, fun j qb hj => ?_, hT, ?_, by rw [ho z hz0]; exact hz⟩
  · rw [hS]
    by_cases hji : j = i
    · subst hji
      rw [hq] at hj
      cases hj
      rw [va_up_self]
      exact hQ
    · rw [va_up_ne _ _ hji]
      have hj32 : j < 32 := by rw [← m3]; exact (List.getElem?_eq_some_iff.mp hj).1
      exact (hqs j qb hj).fr (fun y hy hyo => ⟨fr y hy (fun e => by rw [e, m4] at hyo; omega) (by omega) (by omega), by rw [ho y hy]; exact hyo⟩) hmz
  · rw [hD]
    exact hd.fr (fun y hy hyo => ⟨fr y hy (fun e => by rw [e, m4] at hyo; omega) (by omega) (by omega), by rw [ho y hy]; exact hyo⟩) hmz
theorem lookT_none {t : TS} {n : Int32} {k : Nat} (h : n < t.1) : lookT t n k = ((t.1, t.2.1, 1, t.2.2.2.1, t.2.2.2.2), none) := by unfold lookT; rw [if_pos h]
theorem lookT_same {t : TS} {n : Int32} {k : Nat} (h : ¬ n < t.1) (h2 : t.2.2.1 = 0 ∨ ¬ t.2.2.2.1 = 0) : lookT t n k = (t, none) := by
  unfold lookT
  rw [if_neg h, if_neg]
  rintro ⟨a, b⟩
  rcases h2 with h2 | h2
  · exact a h2
  · exact h2 b
theorem lookT_some {t : TS} {n : Int32} {k : Nat} (h : ¬ n < t.1) (h1 : ¬ t.2.2.1 = 0) (h2 : t.2.2.2.1 = 0) : lookT t n k = ((t.1, t.2.1, 0, nI (k + 1), 0), some t.2.1) := by
  unfold lookT
  rw [if_neg h, if_pos ⟨h1, h2⟩]
theorem capA_pay2 {n cap : Nat} (h : n ≤ cap) : (if n < cap then 2 else 2 + capA n cap) + 4 * cap ≤ 2 + 4 * capA n cap := by
  have := capA_pay h
  split at this
  · rename_i hl
    rw [if_pos hl]
    omega
  · rename_i hl
    rw [if_neg hl]
    omega
end
section
set_option maxHeartbeats 4000000 in
set_option maxRecDepth 100000 in
theorem c_MQ_beginFor (l : Launch) (g : ZG) (M : ZM) (own : Nat → Nat) (x qarr lt lw : Nat) (S : MS) (cap : Nat) (ta : Nat) (t : TS) (hx : M x = some (.inr (0, fM qarr lt lw S))) (hX : own x = 34) (ht : TaR M g.2.2.2.1 own lt S.2.2.1 cap) (hc : cap ≤ 1000000) (hta : M ta = some (.inr (4, fT t))) (ho : own ta ≠ 32) : ZC vcl tlx GT l g y_MQ_beginFor b_MQ_beginFor 2 (Option.some FieldType.int) (ZRm 8 (if S.2.2.1.length < cap then 1 else 2) (if S.2.2.1.length < cap then 2 else 2 + capA S.2.2.1.length cap)) [.ref x, .ref ta] M (fun r M' => r = some (.int (nI (S.2.2.1.length + 1))) ∧ M' ta = some (.inr (4, fT (t.1, t.2.1, t.2.2.1, nI (S.2.2.1.length + 1), 0))) ∧ M' x = some (.inr (0, fM qarr lt lw (addT S S.2.1 (some t.2.1)))) ∧ TaR M' g.2.2.2.1 (ow M own 32) lt (S.2.2.1 ++ [(t.2.1, 1)]) (capA S.2.2.1.length cap) ∧ ∀ y, M y ≠ none → y ≠ x → y ≠ ta → own y ≠ 32 → M' y = M y) := by
  refine ZC.of (by decide) (Nat.le_of_ble_eq_true rfl) rfl (fun k hz0 => ?_)
  have hxta : ta ≠ x := zne hta hx (by simp)
  refine z_aload_n d_MQ_beginFor_0 rfl ?_
  refine z_aload_n d_MQ_beginFor_1 rfl ?_
  refine z_aload_n d_MQ_beginFor_2 rfl ?_
  refine z_get d_MQ_beginFor_3 zf_MQ_195 (hta) rfl ?_
  refine z_callV gt_good d_MQ_beginFor_6 zv_MQ_196 (hx) rfl (fun l => c_MQ_begin l g M own x qarr lt lw S cap t.2.1 hx hX ht hc) rfl rfl ⟨Nat.le_of_ble_eq_true rfl, Nat.le_of_ble_eq_true rfl⟩ (Nat.le_of_ble_eq_true rfl) (by simp) (by simp) ?_
  rintro _ M1 ⟨rfl, e1, e2, e3⟩
  have h1t : M1 ta = some (.inr (4, fT t)) := by rw [e3 ta (by rw [hta]; simp) hxta ho]; exact hta
  refine z_put d_MQ_beginFor_9 zp_MQ_199 (h1t) rfl rfl ?_
  refine z_aload_n d_MQ_beginFor_12 rfl ?_
  refine z_iconst (v := 0) d_MQ_beginFor_13 (by decide) ?_
  refine z_put d_MQ_beginFor_14 zp_MQ_202 (zset_self _ _ _) rfl rfl ?_
  refine z_aload_n d_MQ_beginFor_17 rfl ?_
  refine z_get d_MQ_beginFor_18 zf_MQ_199 (zset_self _ _ _) rfl ?_
  refine z_ireturn d_MQ_beginFor_21 rfl ?_ (by simp) (by simp)
  rw [zset_zset]
  refine ⟨rfl, zset_self _ _ _, by rw [zset_ne (Ne.symm hxta)]; exact e1, e2.fr (fun y hy hyo => ⟨zset_ne (fun e => ?_), hyo⟩) (zset_ne (fun e => ?_)), fun y y1 y2 y3 y4 => by rw [zset_ne y3, e3 y y1 y2 y4]⟩
  · rw [e, ow_old (by rw [hta]; simp)] at hyo
    exact ho hyo
  · rw [← e, hz0] at hta
    cases hta
set_option maxHeartbeats 4000000 in
set_option maxRecDepth 100000 in
theorem c_MQ_look (l : Launch) (g : ZG) (M : ZM) (own : Nat → Nat) (x qarr lt lw : Nat) (S : MS) (cap : Nat) (ta : Nat) (t : TS) (n : Int32) (hx : M x = some (.inr (0, fM qarr lt lw S))) (hX : own x = 34) (ht : TaR M g.2.2.2.1 own lt S.2.2.1 cap) (hc : cap ≤ 1000000) (hta : M ta = some (.inr (4, fT t))) (ho : own ta ≠ 32) : ZC vcl tlx GT l g y_MQ_look b_MQ_look 3 none (ZRm 9 (if (lookT t n S.2.2.1.length).2 = none then 0 else if S.2.2.1.length < cap then 1 else 2) (if (lookT t n S.2.2.1.length).2 = none then 0 else if S.2.2.1.length < cap then 2 else 2 + capA S.2.2.1.length cap)) [.ref x, .ref ta, .int n] M (fun r M' => r = none ∧ M' ta = some (.inr (4, fT (lookT t n S.2.2.1.length).1)) ∧ M' x = some (.inr (0, fM qarr lt lw (addT S S.2.1 (lookT t n S.2.2.1.length).2))) ∧ TaR M' g.2.2.2.1 (ow M own 32) lt (S.2.2.1 ++ (lookT t n S.2.2.1.length).2.toList.map (fun c => (c, 1))) (if (lookT t n S.2.2.1.length).2 = none then cap else capA S.2.2.1.length cap) ∧ ∀ y, M y ≠ none → y ≠ x → y ≠ ta → own y ≠ 32 → M' y = M y) := by
  refine ZC.of (by decide) (Nat.le_of_ble_eq_true rfl) rfl (fun k hz0 => ?_)
  have hxta : ta ≠ x := zne hta hx (by simp)
  have hzt : g.2.2.2.1 ≠ ta := zne hz0 hta (by intro h; cases h)
  refine z_iload_n d_MQ_look_0 rfl ?_
  refine z_aload_n d_MQ_look_1 rfl ?_
  refine z_get d_MQ_look_2 zf_MQ_209 (hta) rfl ?_
  refine z_icmp_ge (tgt := 16) d_MQ_look_5 (by decide) (fun h5 => ?_) (fun h5 => ?_)
  · skip
    have hnl : ¬ n < t.1 := k2_nlt h5
    refine z_aload_n d_MQ_look_16 rfl ?_
    refine z_get d_MQ_look_17 zf_MQ_212 (hta) rfl ?_
    refine z_if_eq (tgt := 41) d_MQ_look_20 (by decide) (fun h20 => ?_) (fun h20 => ?_)
    · skip
      have hsm : t.2.2.1 = 0 ∨ ¬ t.2.2.2.1 = 0 := Or.inl h20
      refine z_return d_MQ_look_41 rfl ?_ (by first | simp [lookT_none hlt] | simp [lookT_same hnl hsm] | simp [lookT_some hnl h20 h27]) (by first | simp [lookT_none hlt] | simp [lookT_same hnl hsm] | simp [lookT_some hnl h20 h27])
      first
        | (rw [lookT_none hlt]; exact ⟨rfl, zset_self _ _ _, by rw [zset_ne (Ne.symm hxta)]; simpa [addT] using hx, by simpa using ht.fr (fun y hy hyo => ⟨zset_ne (fun e => by rw [e] at hyo; exact ho hyo), by rw [ow_old hy]; exact hyo⟩) (zset_ne hzt), fun y _ _ y3 _ => zset_ne y3⟩)
        | (rw [lookT_same hnl hsm]; exact ⟨rfl, hta, by simpa [addT] using hx, by simpa using ht.fr (fun y hy hyo => ⟨rfl, by rw [ow_old hy]; exact hyo⟩) rfl, fun y _ _ _ _ => rfl⟩)
        | (rw [lookT_some hnl h20 h27]; exact ⟨rfl, zset_self _ _ _, by rw [zset_ne (Ne.symm hxta)]; exact e2, by simpa using e3.fr (fun y hy hyo => ⟨zset_ne (fun e => by rw [e, ow_old (by rw [hta]; simp)] at hyo; exact ho hyo), hyo⟩) (zset_ne hzt), fun y y1 y2 y3 y4 => by rw [zset_ne y3, e4 y y1 y2 y3 y4]⟩)
    · skip
      refine z_aload_n d_MQ_look_23 rfl ?_
      refine z_get d_MQ_look_24 zf_MQ_199 (hta) rfl ?_
      refine z_if_ne (tgt := 41) d_MQ_look_27 (by decide) (fun h27 => ?_) (fun h27 => ?_)
      · skip
        have hsm : t.2.2.1 = 0 ∨ ¬ t.2.2.2.1 = 0 := Or.inr h27
        refine z_return d_MQ_look_41 rfl ?_ (by first | simp [lookT_none hlt] | simp [lookT_same hnl hsm] | simp [lookT_some hnl h20 h27]) (by first | simp [lookT_none hlt] | simp [lookT_same hnl hsm] | simp [lookT_some hnl h20 h27])
        first
          | (rw [lookT_none hlt]; exact ⟨rfl, zset_self _ _ _, by rw [zset_ne (Ne.symm hxta)]; simpa [addT] using hx, by simpa using ht.fr (fun y hy hyo => ⟨zset_ne (fun e => by rw [e] at hyo; exact ho hyo), by rw [ow_old hy]; exact hyo⟩) (zset_ne hzt), fun y _ _ y3 _ => zset_ne y3⟩)
          | (rw [lookT_same hnl hsm]; exact ⟨rfl, hta, by simpa [addT] using hx, by simpa using ht.fr (fun y hy hyo => ⟨rfl, by rw [ow_old hy]; exact hyo⟩) rfl, fun y _ _ _ _ => rfl⟩)
          | (rw [lookT_some hnl h20 h27]; exact ⟨rfl, zset_self _ _ _, by rw [zset_ne (Ne.symm hxta)]; exact e2, by simpa using e3.fr (fun y hy hyo => ⟨zset_ne (fun e => by rw [e, ow_old (by rw [hta]; simp)] at hyo; exact ho hyo), hyo⟩) (zset_ne hzt), fun y y1 y2 y3 y4 => by rw [zset_ne y3, e4 y y1 y2 y3 y4]⟩)
      · skip
        refine z_aload_n d_MQ_look_30 rfl ?_
        refine z_aload_n d_MQ_look_31 rfl ?_
        refine z_callV gt_good d_MQ_look_32 zv_MQ_215 (hx) rfl (fun l => c_MQ_beginFor l g M own x qarr lt lw S cap ta t hx hX ht hc hta ho) rfl rfl ⟨Nat.le_of_ble_eq_true rfl, Nat.le_of_ble_eq_true rfl⟩ (Nat.le_of_ble_eq_true rfl) (by simp [lookT_some hnl h20 h27]) (by simp [lookT_some hnl h20 h27]) ?_
        rintro _ M1 ⟨rfl, e1, e2, e3, e4⟩
        refine z_pop d_MQ_look_35 rfl ?_
        refine z_aload_n d_MQ_look_36 rfl ?_
        refine z_iconst (v := 0) d_MQ_look_37 (by decide) ?_
        refine z_put d_MQ_look_38 zp_MQ_212 (e1) rfl rfl ?_
        refine z_return d_MQ_look_41 rfl ?_ (by first | simp [lookT_none hlt] | simp [lookT_same hnl hsm] | simp [lookT_some hnl h20 h27]) (by first | simp [lookT_none hlt] | simp [lookT_same hnl hsm] | simp [lookT_some hnl h20 h27])
        first
          | (rw [lookT_none hlt]; exact ⟨rfl, zset_self _ _ _, by rw [zset_ne (Ne.symm hxta)]; simpa [addT] using hx, by simpa using ht.fr (fun y hy hyo => ⟨zset_ne (fun e => by rw [e] at hyo; exact ho hyo), by rw [ow_old hy]; exact hyo⟩) (zset_ne hzt), fun y _ _ y3 _ => zset_ne y3⟩)
          | (rw [lookT_same hnl hsm]; exact ⟨rfl, hta, by simpa [addT] using hx, by simpa using ht.fr (fun y hy hyo => ⟨rfl, by rw [ow_old hy]; exact hyo⟩) rfl, fun y _ _ _ _ => rfl⟩)
          | (rw [lookT_some hnl h20 h27]; exact ⟨rfl, zset_self _ _ _, by rw [zset_ne (Ne.symm hxta)]; exact e2, by simpa using e3.fr (fun y hy hyo => ⟨zset_ne (fun e => by rw [e, ow_old (by rw [hta]; simp)] at hyo; exact ho hyo), hyo⟩) (zset_ne hzt), fun y y1 y2 y3 y4 => by rw [zset_ne y3, e4 y y1 y2 y3 y4]⟩)
  · skip
    have hlt : n < t.1 := k2_lt h5
    refine z_aload_n d_MQ_look_8 rfl ?_
    refine z_iconst (v := 1) d_MQ_look_9 (by decide) ?_
    refine z_put d_MQ_look_10 zp_MQ_212 (hta) rfl rfl ?_
    refine z_goto (tgt := 41) d_MQ_look_13 (by decide) ?_
    refine z_return d_MQ_look_41 rfl ?_ (by first | simp [lookT_none hlt] | simp [lookT_same hnl hsm] | simp [lookT_some hnl h20 h27]) (by first | simp [lookT_none hlt] | simp [lookT_same hnl hsm] | simp [lookT_some hnl h20 h27])
    first
      | (rw [lookT_none hlt]; exact ⟨rfl, zset_self _ _ _, by rw [zset_ne (Ne.symm hxta)]; simpa [addT] using hx, by simpa using ht.fr (fun y hy hyo => ⟨zset_ne (fun e => by rw [e] at hyo; exact ho hyo), by rw [ow_old hy]; exact hyo⟩) (zset_ne hzt), fun y _ _ y3 _ => zset_ne y3⟩)
      | (rw [lookT_same hnl hsm]; exact ⟨rfl, hta, by simpa [addT] using hx, by simpa using ht.fr (fun y hy hyo => ⟨rfl, by rw [ow_old hy]; exact hyo⟩) rfl, fun y _ _ _ _ => rfl⟩)
      | (rw [lookT_some hnl h20 h27]; exact ⟨rfl, zset_self _ _ _, by rw [zset_ne (Ne.symm hxta)]; exact e2, by simpa using e3.fr (fun y hy hyo => ⟨zset_ne (fun e => by rw [e, ow_old (by rw [hta]; simp)] at hyo; exact ho hyo), hyo⟩) (zset_ne hzt), fun y y1 y2 y3 y4 => by rw [zset_ne y3, e4 y y1 y2 y3 y4]⟩)
end
section
set_option maxHeartbeats 4000000 in
set_option maxRecDepth 100000 in
theorem lp_MQ_lookAtTriggers (g : ZG) (k : ZK) (R : Room) (post : Option Value → ZM → Prop) (x qarr lt lw : Nat) (qs : List Nat) (S : MS) (hf : 10 ≤ R.frames) (hlo : 300 ≤ R.locals) (h1 : 64 ≤ R.cells) (h2 : 4064 ≤ R.slots) (hb : (lookN S 32).2.2.1.length ≤ 600) (hp : ∀ (M : ZM) (own : Nat → Nat) (cap : Nat), MRep M g.2.2.2.1 own x qarr lt lw qs (lookN S 32) cap → cap ≤ 1000 → post none M) : ∀ (d i : Nat) (M : ZM) (own : Nat → Nat) (cap : Nat) (lo : Option Value), i + d = 32 → MRep M g.2.2.2.1 own x qarr lt lw qs (lookN S i) cap → cap ≤ 1000 → M g.2.2.2.1 = some (.inl (0, [])) → ZW vcl tlx GT "MonitorQueues" b_MQ_lookAtTriggers 3 none "lookAtTriggers" R g k post [some (.ref x), some (.int (nI i)), lo] 2 [] (M) (2 * i) (2 * i + 4 * cap) := by
  intro d
  induction d with
  | zero =>
    intro i M own cap lo hi hm hc hz0
    obtain rfl : i = 32 := by omega
    obtain ⟨⟨hx, hq, hl, -, -⟩, -, -, -, -⟩ := id hm
    refine z_iload_n d_MQ_lookAtTriggers_2 rfl ?_
    refine z_aload_n d_MQ_lookAtTriggers_3 rfl ?_
    refine z_get d_MQ_lookAtTriggers_4 zf_MQ_24 (hx) rfl ?_
    refine z_alen d_MQ_lookAtTriggers_7 (hq) rfl ?_
    rw [show nI (List.map Value.ref qs).length = nI 32 by rw [List.length_map, hl]]
    refine z_icmp_ge (tgt := 45) d_MQ_lookAtTriggers_8 (by decide) (fun h8 => ?_) (fun h8 => (h8 (nI_le (Nat.le_refl _) (by decide))).elim)
    refine z_return d_MQ_lookAtTriggers_45 rfl ?_ (by omega) (by omega)
    exact hp M own cap hm hc
  | succ d ih =>
    intro i M own cap lo hi hm hc hz0
    obtain ⟨⟨hx, hq, hl, hX, hXq⟩, hQ, hT, hD, hzo⟩ := id hm
    obtain ⟨qa, hqa⟩ : ∃ qa, qs[i]? = some qa := ⟨qs[i], List.getElem?_eq_getElem (by omega)⟩
    have hlb := lookN_len S (show i + 1 ≤ 32 by omega)
    have hla := lookN_len S (show i ≤ 32 by omega)
    have hv : (qs.map Value.ref)[i]? = some (.ref qa) := by rw [List.getElem?_map, hqa]; rfl
    obtain ⟨la, pa, arr, es, cp, tr, hqx⟩ := hQ i qa hqa
    obtain ⟨q1, ⟨⟨mc, q2⟩, -⟩, -, ⟨q3, -⟩, -, -, q4, q5, -⟩ := id hqx
    cases htr : ((lookN S i).2.1 i).2.2.2.2.2.2.2.2.1 with
    | none =>
      rw [htr] at q5
      have q5 : tr = .null := q5
      subst q5
      have hsame : lookN S (i + 1) = lookN S i := by show lookI (lookN S i) i = _; unfold lookI; rw [htr]
      refine z_iload_n d_MQ_lookAtTriggers_2 rfl ?_
      refine z_aload_n d_MQ_lookAtTriggers_3 rfl ?_
      refine z_get d_MQ_lookAtTriggers_4 zf_MQ_24 (hx) rfl ?_
      refine z_alen d_MQ_lookAtTriggers_7 (hq) rfl ?_
      rw [show nI (List.map Value.ref qs).length = nI 32 by rw [List.length_map, hl]]
      refine z_icmp_ge (tgt := 45) d_MQ_lookAtTriggers_8 (by decide) (fun h8 => (nI_ge (show i < 32 by omega) (by decide) h8).elim) (fun h8 => ?_)
      refine z_aload_n d_MQ_lookAtTriggers_11 rfl ?_
      refine z_get d_MQ_lookAtTriggers_12 zf_MQ_24 (hx) rfl ?_
      refine z_iload_n d_MQ_lookAtTriggers_15 rfl ?_
      refine z_aald d_MQ_lookAtTriggers_16 hq rfl rfl (by omega) hv ?_
      refine z_get d_MQ_lookAtTriggers_17 zf_MQ_128 (q1) rfl ?_
      refine z_astore_nN (i := 2) d_MQ_lookAtTriggers_20 rfl (by decide) rfl ?_
      refine z_aload_nN d_MQ_lookAtTriggers_21 rfl ?_
      refine z_ifnullN (tgt := 39) d_MQ_lookAtTriggers_22 (by decide) ?_
      refine z_iinc (v := nI (i + 1)) d_MQ_lookAtTriggers_39 rfl (nI_1 i) (by decide) rfl ?_
      refine z_goto (tgt := 2) d_MQ_lookAtTriggers_42 (by decide) ?_
      refine z_widen (k1 := 2 * (i + 1)) (k2 := 2 * (i + 1) + 4 * cap) (by omega) (by omega) ?_
      exact ih (i + 1) M own cap _ (by omega) (by rw [hsame]; exact hm) hc hz0
    | some t =>
      rw [htr] at q5
      obtain ⟨ta, hte, hto, hta⟩ := q5
      subst hte
      have hxta : ta ≠ x := zne hta hx (by simp)
      have hcap := hT.len
      have hpay := capA_pay2 hcap
      have hok := capA_ok (n := (lookN S i).2.2.1.length) (cap := cap) (by omega) hc hcap
      refine z_iload_n d_MQ_lookAtTriggers_2 rfl ?_
      refine z_aload_n d_MQ_lookAtTriggers_3 rfl ?_
      refine z_get d_MQ_lookAtTriggers_4 zf_MQ_24 (hx) rfl ?_
      refine z_alen d_MQ_lookAtTriggers_7 (hq) rfl ?_
      rw [show nI (List.map Value.ref qs).length = nI 32 by rw [List.length_map, hl]]
      refine z_icmp_ge (tgt := 45) d_MQ_lookAtTriggers_8 (by decide) (fun h8 => (nI_ge (show i < 32 by omega) (by decide) h8).elim) (fun h8 => ?_)
      refine z_aload_n d_MQ_lookAtTriggers_11 rfl ?_
      refine z_get d_MQ_lookAtTriggers_12 zf_MQ_24 (hx) rfl ?_
      refine z_iload_n d_MQ_lookAtTriggers_15 rfl ?_
      refine z_aald d_MQ_lookAtTriggers_16 hq rfl rfl (by omega) hv ?_
      refine z_get d_MQ_lookAtTriggers_17 zf_MQ_128 (q1) rfl ?_
      refine z_astore_n (i := 2) d_MQ_lookAtTriggers_20 rfl (by decide) rfl ?_
      refine z_aload_n d_MQ_lookAtTriggers_21 rfl ?_
      refine z_ifnull d_MQ_lookAtTriggers_22 ?_
      refine z_aload_n d_MQ_lookAtTriggers_25 rfl ?_
      refine z_aload_n d_MQ_lookAtTriggers_26 rfl ?_
      refine z_aload_n d_MQ_lookAtTriggers_27 rfl ?_
      refine z_get d_MQ_lookAtTriggers_28 zf_MQ_24 (hx) rfl ?_
      refine z_iload_n d_MQ_lookAtTriggers_31 rfl ?_
      refine z_aald d_MQ_lookAtTriggers_32 hq rfl rfl (by omega) hv ?_
      refine z_callV gt_good d_MQ_lookAtTriggers_33 zv_MQ_117 (q1) rfl (fun l => c_Qu_standing l g M qa la pa _ _ _ _ _ _ _ _ arr (nI es.length) mc q1 q2) rfl rfl ⟨by show 1 + 1 ≤ _; omega, by show 8 + (1 + 11) + 30 ≤ _; omega⟩ (Nat.le_of_ble_eq_true rfl) (by simp; omega) (by simp; omega) ?_
      rintro _ _ ⟨rfl, rfl⟩
      rw [q3, pk_sub q4]
      refine z_callV gt_good d_MQ_lookAtTriggers_36 zv_MQ_205 (hx) rfl (fun l => c_MQ_look l g M own x qarr lt lw (lookN S i) cap ta t (nI (((lookN S i).2.1 i).2.1.length - ((lookN S i).2.1 i).2.2.1)) hx hX hT (by omega) hta (by omega)) rfl rfl ⟨by show 9 + 1 ≤ _; omega, by show 8 + (3 + 11) + 270 ≤ _; omega⟩ (Nat.le_of_ble_eq_true rfl) (by simp; split <;> (try split) <;> omega) (by simp; split <;> omega) ?_
      rintro _ M1 ⟨rfl, e1, e2, e3, e4⟩
      have hz1 : M1 g.2.2.2.1 = M g.2.2.2.1 := e4 _ (by rw [hz0]; simp) (fun e => by rw [e, hX] at hzo; omega) (fun e => by rw [e, hto] at hzo; omega) (by omega)
      refine z_iinc (v := nI (i + 1)) d_MQ_lookAtTriggers_39 rfl (nI_1 i) (by decide) rfl ?_
      refine z_goto (tgt := 2) d_MQ_lookAtTriggers_42 (by decide) ?_
      have hmr : MRep M1 g.2.2.2.1 (ow M own 32) x qarr lt lw qs (lookN S (i + 1)) (if (lookT t (nI (((lookN S i).2.1 i).2.1.length - ((lookN S i).2.1 i).2.2.1)) (lookN S i).2.2.1.length).2 = none then cap else capA (lookN S i).2.2.1.length cap) := by
        have hfr : ∀ y, M y ≠ none → y ≠ x → own y ≠ i → own y ≠ 32 → M1 y = M y := fun y y1 y2 y3 y4 => e4 y y1 y2 (fun e => y3 (by rw [e]; exact hto)) y4
        have hlk : lookN S (i + 1) = addT (lookN S i) (va_up (lookN S i).2.1 i (setTr ((lookN S i).2.1 i) (some (lookT t (nI (((lookN S i).2.1 i).2.1.length - ((lookN S i).2.1 i).2.2.1)) (lookN S i).2.2.1.length).1))) (lookT t (nI (((lookN S i).2.1 i).2.1.length - ((lookN S i).2.1 i).2.2.1)) (lookN S i).2.2.1.length).2 := by show lookI (lookN S i) i = _; unfold lookI; rw [htr]
        rw [hlk]
        refine hm.upd hqa (fun y hy => ow_old hy) (by rw [hz0]; simp) e2 rfl ⟨la, pa, arr, es, cp, .ref ta, hqx.trig hta (fun y y1 y2 y3 => ⟨e4 y y1 (fun e => by rw [e, hX] at y2; omega) y3 (by omega), by rw [ow_old y1]; exact y2⟩) (e4 _ (by rw [hz0]; simp) (fun e => by rw [e, hX] at hzo; omega) (fun e => by rw [e, hto] at hzo; omega) (by omega)) (by rw [ow_old (by rw [hta]; simp)]; exact hto) e1⟩ e3 rfl hfr
      by_cases hn : (lookT t (nI (((lookN S i).2.1 i).2.1.length - ((lookN S i).2.1 i).2.2.1)) (lookN S i).2.2.1.length).2 = none
      · rw [if_pos hn] at hmr
        refine z_widen (k1 := 2 * (i + 1)) (k2 := 2 * (i + 1) + 4 * cap) (by simp [hn]; omega) (by simp [hn]; omega) ?_
        exact ih (i + 1) M1 _ cap _ (by omega) hmr hc (by rw [hz1]; exact hz0)
      · rw [if_neg hn] at hmr
        refine z_widen (k1 := 2 * (i + 1)) (k2 := 2 * (i + 1) + 4 * capA (lookN S i).2.2.1.length cap) (by simp [hn]; split <;> omega) (by simp [hn]; omega) ?_
        exact ih (i + 1) M1 _ _ _ (by omega) hmr hok (by rw [hz1]; exact hz0)
set_option maxHeartbeats 4000000 in
set_option maxRecDepth 100000 in
theorem c_MQ_lookAtTriggers (l : Launch) (g : ZG) (M : ZM) (own : Nat → Nat) (x qarr lt lw : Nat) (qs : List Nat) (S : MS) (cap : Nat) (hm : MRep M g.2.2.2.1 own x qarr lt lw qs S cap) (hc : cap ≤ 1000) (hb : (lookN S 32).2.2.1.length ≤ 600) : ZC vcl tlx GT l g y_MQ_lookAtTriggers b_MQ_lookAtTriggers 3 none (ZRm 10 64 4064) [.ref x] M (fun r M' => r = none ∧ ∃ (own' : Nat → Nat) (cap' : Nat), MRep M' g.2.2.2.1 own' x qarr lt lw qs (lookN S 32) cap' ∧ cap' ≤ 1000) := by
  refine ZC.of (by decide) (Nat.le_of_ble_eq_true rfl) rfl (fun k hz0 => ?_)
  refine z_iconst (v := 0) d_MQ_lookAtTriggers_0 (by decide) ?_
  refine z_istore_n (i := 1) d_MQ_lookAtTriggers_1 rfl (by decide) rfl ?_
  refine z_widen (k1 := 2 * 0) (k2 := 2 * 0 + 4 * cap) (by omega) (by omega) ?_
  exact lp_MQ_lookAtTriggers g k _ _ x qarr lt lw qs S (by simp) (by simp) (by simp) (by simp) hb (fun M1 o1 c1 h1 h2 => ⟨rfl, o1, c1, h1, h2⟩) 32 0 M own cap _ rfl hm hc hz0
end
section
theorem zidx {q : Int32} (h : ¬ (q < 0 ∨ 32 ≤ q)) : ∃ i : Nat, i < 32 ∧ q = nI i := by
  rcases pk_ix q (n := 32) (by decide) with h1 | h1 | h1
  · exact absurd (Or.inl h1) h
  · exact absurd (Or.inr h1) h
  · exact h1
theorem zift {p : Prop} [Decidable p] (h : (if p then (0 : Int32) else 1) = 0) : p := by
  by_cases hp : p
  · exact hp
  · rw [if_neg hp] at h
    exact absurd h (by decide)
theorem zifn {p : Prop} [Decidable p] (h : ¬ (if p then (0 : Int32) else 1) = 0) : ¬ p := by
  intro hp
  rw [if_pos hp] at h
  exact h rfl
/-- only what belongs to queue i changes -/
theorem MRep.updQ {M M' : ZM} {own : Nat → Nat} {z x qarr lt lw i qa cap : Nat} {qs : List Nat} {S : MS} {s' : QS} (hm : MRep M z own x qarr lt lw qs S cap) (hq : qs[i]? = some qa) (hz0 : M z ≠ none) (fr : ∀ y, M y ≠ none → own y ≠ i → M' y = M y) (hQ : QRep M' z (ow M own i) i qa s') : MRep M' z (ow M own i) x qarr lt lw qs (S.1, va_up S.2.1 i s', S.2.2) cap := by
  obtain ⟨⟨m1, m2, m3, m4, m5⟩, hqs, hT, hd, hz⟩ := id hm
  have hi : i < 32 := by rw [← m3]; exact (List.getElem?_eq_some_iff.mp hq).1
  refine hm.upd hq (fun y hy => ow_old hy) hz0 ?_ rfl hQ (hT.fr (Kp.ow (fun y hy hyo => fr y hy (by omega))) (fr z hz0 (by omega))) rfl (fun y y1 _ y3 _ => fr y y1 y3)
  rw [fr x (by rw [m1]; simp) (by omega)]
  exact m1
def putQ (s : QS) (now : Int64) (k : Int32) (v : Int64) (u : Int32) : QS := (k, s.2.1 ++ [v], (if kProt k ∧ ¬ u = 0 then s.2.2.1 + 1 else s.2.2.1), (if kProt k ∧ ¬ u = 0 then u else s.2.2.2.1), now, (if kTrans k then s.2.2.2.2.2.1 + 1 else s.2.2.2.2.2.1), s.2.2.2.2.2.2)
def putA (s : QS) (k : Int32) : Int32 := if kTrans k then s.2.2.2.2.2.1 + 1 else nI (s.2.1.length + 1)
def putS (S : MS) (i : Nat) (k : Int32) (v : Int64) (u : Int32) : MS := (S.1, va_up S.2.1 i (putQ (S.2.1 i) S.2.2.2.2.2.2 k v u), S.2.2)
/-- which put is refused -/
abbrev adm (s : QS) (k : Int32) : Prop := if s.1 = -1 then (s.2.2.2.2.2.2.2.2.1 = none ∨ ¬ k < 2) else s.1 = k
abbrev putB (k u : Int32) : Prop := k < 0 ∨ 4 ≤ k ∨ u < 0 ∨ 9 < u
abbrev putL (s : QS) (u : Int32) : Prop := ¬ s.2.2.1 = 0 ∧ ¬ s.2.2.2.1 = u
def putI (S : MS) (i : Nat) (k : Int32) (v : Int64) (u : Int32) : Int32 × MS :=
  if putB k u then (-2, S) else if ¬ adm (S.2.1 i) k then (-3, S) else if putL (S.2.1 i) u then (-5, S) else if ¬ nI (tot S 32) < S.1 then (-1, S) else (putA (S.2.1 i) k, lookN (putS S i k v u) 32)
theorem putI_2 {S : MS} {i : Nat} {k u : Int32} {v : Int64} (h : putB k u) : putI S i k v u = (-2, S) := by unfold putI; rw [if_pos h]
theorem putI_3 {S : MS} {i : Nat} {k u : Int32} {v : Int64} (h : ¬ putB k u) (h2 : ¬ adm (S.2.1 i) k) : putI S i k v u = (-3, S) := by unfold putI; rw [if_neg h, if_pos h2]
theorem putI_5 {S : MS} {i : Nat} {k u : Int32} {v : Int64} (h : ¬ putB k u) (h2 : adm (S.2.1 i) k) (h3 : putL (S.2.1 i) u) : putI S i k v u = (-5, S) := by unfold putI; rw [if_neg h, if_neg (not_not_intro h2), if_pos h3]
theorem putI_1 {S : MS} {i : Nat} {k u : Int32} {v : Int64} (h : ¬ putB k u) (h2 : adm (S.2.1 i) k) (h3 : ¬ putL (S.2.1 i) u) (h4 : ¬ nI (tot S 32) < S.1) : putI S i k v u = (-1, S) := by unfold putI; rw [if_neg h, if_neg (not_not_intro h2), if_neg h3, if_pos h4]
theorem putI_0 {S : MS} {i : Nat} {k u : Int32} {v : Int64} (h : ¬ putB k u) (h2 : adm (S.2.1 i) k) (h3 : ¬ putL (S.2.1 i) u) (h4 : nI (tot S 32) < S.1) : putI S i k v u = (putA (S.2.1 i) k, lookN (putS S i k v u) 32) := by unfold putI; rw [if_neg h, if_neg (not_not_intro h2), if_neg h3, if_neg (not_not_intro h4)]
theorem nI_le0 {n : Nat} (h : n < 2 ^ 31) : nI n ≤ 0 ↔ n = 0 := by
  constructor
  · intro q
    rcases Nat.eq_zero_or_pos n with e | e
    · exact e
    · exact absurd q (nI_nle e h)
  · intro e
    rw [e]
    decide
theorem c_Qu_admits (l : Launch) (g : ZG) (M : ZM) (a la pa : Nat) (kd pe ho : Int32) (us : Int64) (ln tn : Int32) (tv : Int64) (tr : Value) (w : Int32) (ha : M a = some (.inr (1, fQ la pa kd pe ho us ln tn tv tr))) (ht : tr = .null ∨ ∃ t : Nat, tr = .ref t) : ZC vcl tlx GT l g y_Qu_admits b_Qu_admits 2 (Option.some FieldType.boolean) (ZRm 1 0 0) [.ref a, .int w] M (fun r M' => M = M' ∧ r = some (.int (if (if kd = -1 then (tr = .null ∨ ¬ w < 2) else kd = w) then 1 else 0))) := by
  rcases ht with rfl | ⟨t, rfl⟩
  · have h := c_Qu_admitsN l g M a la pa kd pe ho us ln tn tv w ha
    have e : ∀ (r : Option Value) (M' : ZM), (M = M' ∧ r = some (.int (if kd = -1 then 1 else if kd = w then 1 else 0))) = (M = M' ∧ r = some (.int (if (if kd = -1 then ((Value.null : Value) = .null ∨ ¬ w < 2) else kd = w) then 1 else 0))) := by
      intro r M'
      by_cases h1 : kd = -1 <;> simp [h1]
    simpa only [e] using h
  · have h := c_Qu_admitsR l g M a la pa kd pe ho us ln tn tv w t ha
    have e : ∀ (r : Option Value) (M' : ZM), (M = M' ∧ r = some (.int (if kd = -1 then (if w < 2 then 0 else 1) else if kd = w then 1 else 0))) = (M = M' ∧ r = some (.int (if (if kd = -1 then ((Value.ref t : Value) = .null ∨ ¬ w < 2) else kd = w) then 1 else 0))) := by
      intro r M'
      by_cases h1 : kd = -1
      · by_cases h2 : w < 2 <;> simp [h1, h2]
      · simp [h1]
    simpa only [e] using h
theorem TrR.cases {M : ZM} {own : Nat → Nat} {i : Nat} {t : Option TS} {tr : Value} (h : TrR M own i t tr) : (tr = .null ∨ ∃ t : Nat, tr = .ref t) ∧ (tr = .null ↔ t = none) := by
  cases t with
  | none => exact ⟨Or.inl h, fun _ => rfl, fun _ => h⟩
  | some t =>
    obtain ⟨ta, h1, -⟩ := h
    exact ⟨Or.inr ⟨ta, h1⟩, ⟨fun e => (by rw [h1] at e; cases e), fun e => (by cases e)⟩⟩
theorem Qx.app {M M' : ZM} {own : Nat → Nat} {z i qa la pa arr cap : Nat} {s : QS} {es : List Nat} {tr : Value} {q arr' : Nat} {k u : Int32} {v now : Int64} (h : Qx M z own i qa s la pa arr es cap tr) (hlen : s.2.1.length ≤ 600) (hq : M q = none) (hr : arr' = arr ∨ M arr' = none) (hz : arr' ≠ z)
    (ha : M' qa = some (.inr (1, fQs la pa (putQ s now k v u) tr))) (hl : ALr M' z la arr' (es ++ [q]) (capA es.length cap)) (hi : M' q = some (.inr (2, [.long v]))) (fr : ∀ x, x ≠ qa → x ≠ la → x ≠ arr' → x ≠ q → M' x = M x) : QRep M' z (ow M own i) i qa (putQ s now k v u) := by
  obtain ⟨h1, h2, h3, ⟨h4, h5, h6⟩, h7, h8, h9, h10, o1, o2, o3, o4⟩ := h
  obtain ⟨⟨mc, hla⟩, hr0, hle, hcz⟩ := id h2
  have fr2 : ∀ y, M y ≠ none → y ≠ qa → y ≠ la → y ≠ arr → M' y = M y := fun y y1 y2 y3 y4 => fr y y2 y3 (fun e2 => hr.elim (fun e => y4 (e2.trans e)) (fun e => y1 (by rw [e2]; exact e))) (fun e => y1 (by rw [e]; exact hq))
  refine ⟨la, pa, arr', es ++ [q], capA es.length cap, tr, ha, hl, capA_ok (by omega) h3 hle, ⟨?_, ?_, ?_⟩, ?_, h8, ?_, ?_, ?_, ?_, ?_, ?_⟩
  · show (es ++ [q]).length = (s.2.1 ++ [v]).length
    simp [h4]
  · intro j e hj
    show ∃ x, (s.2.1 ++ [v])[j]? = some x ∧ _
    by_cases hjl : j < es.length
    · rw [List.getElem?_append_left hjl] at hj
      obtain ⟨x, e1, e2, e3⟩ := h5 j e hj
      refine ⟨x, by rw [List.getElem?_append_left (by omega)]; exact e1, ?_, by rw [ow_old (by rw [e2]; simp)]; exact e3⟩
      rw [fr2 e (by rw [e2]; simp) (zne e2 h1 (by simp)) (zne e2 hla (by simp)) (zne e2 hr0 (by intro h; cases h))]
      exact e2
    · have hjn : j = es.length := by have := (List.getElem?_eq_some_iff.mp hj).1; simp at this; omega
      rw [hjn, List.getElem?_append_right (Nat.le_refl _), Nat.sub_self] at hj
      obtain rfl : q = e := by simpa using hj
      exact ⟨v, by rw [hjn, h4, List.getElem?_append_right (Nat.le_refl _), Nat.sub_self]; rfl, hi, ow_new hq⟩
  · rw [List.nodup_append]
    refine ⟨h6, by simp, fun a ha b hb => ?_⟩
    obtain ⟨j, hj⟩ := List.getElem?_of_mem ha
    obtain ⟨y, -, hy, -⟩ := h5 j a hj
    rw [List.mem_singleton.mp hb]
    exact zfresh_ne hy hq
  · show M' pa = some (.inl (1, s.2.2.2.2.2.2.2.2.2.map Value.int))
    rw [fr2 pa (by rw [h7]; simp) (zne h7 h1 (by intro h; cases h)) (zne h7 hla (by intro h; cases h)) (zne h7 hr0 (by simp))]
    exact h7
  · show (if kProt k ∧ ¬ u = 0 then s.2.2.1 + 1 else s.2.2.1) ≤ (s.2.1 ++ [v]).length
    rw [List.length_append]
    split <;> simp <;> omega
  · show TrR M' (ow M own i) i s.2.2.2.2.2.2.2.2.1 tr
    unfold TrR at h10 ⊢
    split
    · rename_i ht
      rw [ht] at h10
      exact h10
    · rename_i t ht
      rw [ht] at h10
      obtain ⟨ta, e1, e2, e3⟩ := h10
      exact ⟨ta, e1, by rw [ow_old (by rw [e3]; simp)]; exact e2, by rw [fr2 ta (by rw [e3]; simp) (zne e3 h1 (by simp)) (zne e3 hla (by simp)) (zne e3 hr0 (by intro h; cases h))]; exact e3⟩
  · rw [ow_old (by rw [h1]; simp)]; exact o1
  · rw [ow_old (by rw [hla]; simp)]; exact o2
  · rw [ow_old (by rw [h7]; simp)]; exact o3
  · intro _
    rcases hr with e | e
    · rw [e, ow_old (by rw [hr0]; simp)]
      exact o4 (by rw [← e]; exact hz)
    · exact ow_new e
/-- a queue's own numbers change, in its own object -/
theorem Qx.own1 {M : ZM} {own : Nat → Nat} {z i qa la pa arr cap : Nat} {s s' : QS} {es : List Nat} {tr : Value} (h : Qx M z own i qa s la pa arr es cap tr) (e1 : s'.2.1 = s.2.1) (e2 : s'.2.2.2.2.2.2.2.2 = s.2.2.2.2.2.2.2.2) (e3 : s'.2.2.1 ≤ s'.2.1.length) (hz : z ≠ qa) : Qx (zset M qa (.inr (1, fQs la pa s' tr))) z own i qa s' la pa arr es cap tr := by
  obtain ⟨h1, h2, h3, ⟨h4, h5, h6⟩, h7, h8, h9, h10, o1, o2, o3, o4⟩ := h
  obtain ⟨⟨mc, hla⟩, hr0, hle, hcz⟩ := id h2
  refine ⟨zset_self _ _ _, h2.kept (zset_ne (zne hla h1 (by simp))) (zset_ne (zne hr0 h1 (by intro h; cases h))), h3, ⟨by rw [e1]; exact h4, fun j e hj => ?_, h6⟩, by rw [zset_ne (zne h7 h1 (by intro h; cases h)), e2]; exact h7, by rw [e2]; exact h8, e3, ?_, o1, o2, o3, o4⟩
  · obtain ⟨x, y1, y2, y3⟩ := h5 j e hj
    exact ⟨x, by rw [e1]; exact y1, by rw [zset_ne (zne y2 h1 (by simp))]; exact y2, y3⟩
  · rw [e2]
    unfold TrR at h10 ⊢
    split
    · rename_i ht
      rw [ht] at h10
      exact h10
    · rename_i t ht
      rw [ht] at h10
      obtain ⟨ta, y1, y2, y3⟩ := h10
      exact ⟨ta, y1, y2, by rw [zset_ne (zne y3 h1 (by simp))]; exact y3⟩
end
section
set_option maxHeartbeats 4000000 in
set_option maxRecDepth 100000 in
theorem t_MQ_put (g : ZG) (k0 : ZK) (M : ZM) (own : Nat → Nat) (x qarr lt lw : Nat) (qs : List Nat) (S : MS) (cap : Nat) (i qa : Nat) (k : Int32) (v : Int64) (u : Int32) (lo : Option Value) (hm : MRep M g.2.2.2.1 own x qarr lt lw qs S cap) (hc : cap ≤ 1000) (hz0 : M g.2.2.2.1 = some (.inl (0, []))) (hi : i < 32) (hqa : qs[i]? = some qa) (hlen : (S.2.1 i).2.1.length ≤ 600) (hbd : (lookN (putS S i k v u) 32).2.2.1.length ≤ 600) (b1 : ¬ putB k u) (b2 : adm (S.2.1 i) k) (b3 : ¬ putL (S.2.1 i) u) : ZW vcl tlx GT "MonitorQueues" b_MQ_put 8 (Option.some FieldType.int) "put" (ZRm 11 70 6000) g k0 (fun r M' => r = some (.int (putI S i k v u).1) ∧ ∃ (own' : Nat → Nat) (cap' : Nat), MRep M' g.2.2.2.1 own' x qarr lt lw qs (putI S i k v u).2 cap' ∧ cap' ≤ 1000) [some (.ref x), some (.int (nI i)), some (.int k), some (.long v), none, some (.int u), some (.ref qa), lo] 73 [] (M) 0 0 := by
  obtain ⟨⟨hx, hqr, hl, hX, hXq⟩, hQ, hT, hD, hzo⟩ := id hm
  obtain ⟨la, pa, arr, es, cp, tr, hqx⟩ := hQ i qa hqa
  obtain ⟨q1, ⟨⟨mc, q2⟩, q2r, q2c, q2z⟩, q2b, ⟨q3, q3e, q3n⟩, q4, q5, q6, q7, q8, q9, q10, q11⟩ := id hqx
  have hgood : ¬ (nI i < 0 ∨ 32 ≤ nI i) := fun h => h.elim (nI_pos (by omega)) (fun h => nI_ge hi (by decide) h)
  have hzq : g.2.2.2.1 ≠ qa := zne hz0 q1 (by intro h; cases h)
  have hcp := capA_ok (n := es.length) (cap := cp) (by omega) (by omega) q2c
  refine z_aload_n d_MQ_put_73 rfl ?_
  refine z_callV gt_good d_MQ_put_74 zv_MQ_53 (hx) rfl (fun l => c_MQ_allItems l g M own x qarr lt lw qs S cap hm) rfl rfl ⟨Nat.le_of_ble_eq_true rfl, Nat.le_of_ble_eq_true rfl⟩ (Nat.le_of_ble_eq_true rfl) (Nat.le_of_ble_eq_true rfl) (Nat.le_of_ble_eq_true rfl) ?_
  rintro _ _ ⟨rfl, rfl⟩
  refine z_aload_n d_MQ_put_77 rfl ?_
  refine z_get d_MQ_put_78 zf_MQ_18 (hx) rfl ?_
  refine z_icmp_lt (tgt := 86) d_MQ_put_81 (by decide) (fun h81 => ?_) (fun h81 => ?_)
  · skip
    refine z_aload d_MQ_put_86 rfl ?_
    refine z_aload_n d_MQ_put_88 rfl ?_
    refine z_get d_MQ_put_89 zf_MQ_57 (hx) rfl ?_
    refine z_callV gt_good d_MQ_put_92 zv_MQ_61 (q1) rfl (fun l => c_Qu_touch l g M qa la pa _ _ _ _ _ _ _ tr S.2.2.2.2.2.2 q1) rfl rfl ⟨Nat.le_of_ble_eq_true rfl, Nat.le_of_ble_eq_true rfl⟩ (Nat.le_of_ble_eq_true rfl) (Nat.le_of_ble_eq_true rfl) (Nat.le_of_ble_eq_true rfl) ?_
    rintro _ _ ⟨rfl, rfl⟩
    have w1 : Qx (zset M qa (.inr (1, fQ la pa (S.2.1 i).1 (nI (S.2.1 i).2.2.1) (S.2.1 i).2.2.2.1 S.2.2.2.2.2.2 (S.2.1 i).2.2.2.2.2.1 (S.2.1 i).2.2.2.2.2.2.1 (S.2.1 i).2.2.2.2.2.2.2.1 tr))) g.2.2.2.1 own i qa ((S.2.1 i).1, (S.2.1 i).2.1, (S.2.1 i).2.2.1, (S.2.1 i).2.2.2.1, S.2.2.2.2.2.2, (S.2.1 i).2.2.2.2.2) la pa arr es cp tr := hqx.own1 (s' := ((S.2.1 i).1, (S.2.1 i).2.1, (S.2.1 i).2.2.1, (S.2.1 i).2.2.2.1, S.2.2.2.2.2.2, (S.2.1 i).2.2.2.2.2)) rfl rfl q6 hzq
    obtain ⟨v1, v2, v2b, ⟨v3, v3e, v3n⟩, -⟩ := id w1
    refine z_aload d_MQ_put_95 rfl ?_
    refine z_iload_n d_MQ_put_97 rfl ?_
    refine z_lload_n d_MQ_put_98 rfl ?_
    refine z_iload d_MQ_put_99 rfl ?_
    refine z_callV gt_good d_MQ_put_101 zv_MQ_65 (v1) rfl (fun l => c_Qu_append l g _ qa la pa _ _ _ _ _ _ _ tr k v u arr es cp v1 v2 (by omega) (fun e he => by obtain ⟨j, hj⟩ := List.getElem?_of_mem he; obtain ⟨y, -, hy, -⟩ := v3e j e hj; exact ⟨y, hy⟩)) rfl rfl ⟨Nat.le_of_ble_eq_true rfl, Nat.le_of_ble_eq_true rfl⟩ (Nat.le_of_ble_eq_true rfl) (by dsimp only [ZRm]; (repeat' split) <;> omega) (by dsimp only [ZRm]; (repeat' split) <;> omega) ?_
    rintro _ M2 ⟨q, arr', a1, a2, a3, a4, rfl, a5, a6, a7, a8⟩
    have hr2 : QRep M2 g.2.2.2.1 (ow (zset M qa (.inr (1, fQ la pa (S.2.1 i).1 (nI (S.2.1 i).2.2.1) (S.2.1 i).2.2.2.1 S.2.2.2.2.2.2 (S.2.1 i).2.2.2.2.2.1 (S.2.1 i).2.2.2.2.2.2.1 (S.2.1 i).2.2.2.2.2.2.2.1 tr))) own i) i qa (putQ (S.2.1 i) S.2.2.2.2.2.2 k v u) := by
      refine Qx.app (s := ((S.2.1 i).1, (S.2.1 i).2.1, (S.2.1 i).2.2.1, (S.2.1 i).2.2.2.1, S.2.2.2.2.2.2, (S.2.1 i).2.2.2.2.2)) w1 hlen a1 a2 a4 ?_ a6 a7 a8
      rw [a5]
      unfold putQ fQs
      by_cases hh : kProt k ∧ ¬ u = 0 <;> simp [hh, nI_succ]
    have how : ow (zset M qa (.inr (1, fQ la pa (S.2.1 i).1 (nI (S.2.1 i).2.2.1) (S.2.1 i).2.2.2.1 S.2.2.2.2.2.2 (S.2.1 i).2.2.2.2.2.1 (S.2.1 i).2.2.2.2.2.2.1 (S.2.1 i).2.2.2.2.2.2.2.1 tr))) own i = ow M own i := by
      funext y
      unfold ow
      by_cases hy : y = qa
      · rw [hy, zset_self, q1]
      · rw [zset_ne hy]
    rw [how] at hr2
    have hm2 := hm.updQ hqa (by rw [hz0]; simp) (fun y y1 y2 => by
      have hyq : y ≠ qa := fun e => y2 (by rw [e]; exact q8)
      have hyl : y ≠ la := fun e => y2 (by rw [e]; exact q9)
      have hyr : y ≠ arr' := fun e => by
        rcases a2 with w | w
        · exact y2 (by rw [e, w]; exact q11 (by rw [← w]; exact a4))
        · rw [e] at y1; exact y1 (zset_none w)
      rw [a8 y hyq hyl hyr (fun e => y1 (by rw [e]; exact zset_none a1)), zset_ne hyq]) hr2
    refine z_istore d_MQ_put_104 (by decide) rfl ?_
    refine z_aload_n d_MQ_put_106 rfl ?_
    refine z_callV gt_good d_MQ_put_107 zv_MQ_69 (hm2.1.1) rfl (fun l => c_MQ_lookAtTriggers l g M2 _ x qarr lt lw qs (putS S i k v u) cap hm2 hc hbd) rfl rfl ⟨Nat.le_of_ble_eq_true rfl, Nat.le_of_ble_eq_true rfl⟩ (Nat.le_of_ble_eq_true rfl) (by dsimp only [ZRm]; (repeat' split) <;> omega) (by dsimp only [ZRm]; (repeat' split) <;> omega) ?_
    rintro _ M3 ⟨rfl, own3, cap3, hm3, hc3⟩
    refine z_iload d_MQ_put_110 rfl ?_
    refine z_ireturn d_MQ_put_112 rfl ?_ (by dsimp only [ZRm]; (repeat' split) <;> omega) (by dsimp only [ZRm]; (repeat' split) <;> omega)
    rw [putI_0 b1 b2 b3 h81, q3]
    exact ⟨rfl, own3, cap3, hm3, hc3⟩
  · skip
    refine z_iconst (v := (-1)) d_MQ_put_84 (by decide) ?_
    refine z_ireturn d_MQ_put_85 rfl ?_ (by dsimp only [ZRm]; (repeat' split) <;> omega) (by dsimp only [ZRm]; (repeat' split) <;> omega)
    rw [putI_1 b1 b2 b3 h81]
    exact ⟨rfl, own, cap, hm, hc⟩
set_option maxHeartbeats 4000000 in
set_option maxRecDepth 100000 in
theorem c_MQ_put (l : Launch) (g : ZG) (M : ZM) (own : Nat → Nat) (x qarr lt lw : Nat) (qs : List Nat) (S : MS) (cap : Nat) (i : Nat) (k : Int32) (v : Int64) (u : Int32) (hm : MRep M g.2.2.2.1 own x qarr lt lw qs S cap) (hc : cap ≤ 1000) (hi : i < 32) (hlen : (S.2.1 i).2.1.length ≤ 600) (hbd : (lookN (putS S i k v u) 32).2.2.1.length ≤ 600) : ZC vcl tlx GT l g y_MQ_put b_MQ_put 8 (Option.some FieldType.int) (ZRm 11 70 6000) [.ref x, .int (nI i), .int k, .long v, .int u] M (fun r M' => r = some (.int (putI S i k v u).1) ∧ ∃ (own' : Nat → Nat) (cap' : Nat), MRep M' g.2.2.2.1 own' x qarr lt lw qs (putI S i k v u).2 cap' ∧ cap' ≤ 1000) := by
  refine ZC.of (by decide) (Nat.le_of_ble_eq_true rfl) rfl (fun k0 hz0 => ?_)
  obtain ⟨⟨hx, hqr, hl, hX, hXq⟩, hQ, hT, hD, hzo⟩ := id hm
  obtain ⟨qa, hqa⟩ : ∃ qa, qs[i]? = some qa := ⟨qs[i], List.getElem?_eq_getElem (by omega)⟩
  have hv : (qs.map Value.ref)[i]? = some (.ref qa) := by rw [List.getElem?_map, hqa]; rfl
  obtain ⟨la, pa, arr, es, cp, tr, hqx⟩ := hQ i qa hqa
  obtain ⟨q1, ⟨⟨mc, q2⟩, q2r, q2c, q2z⟩, q2b, ⟨q3, q3e, q3n⟩, q4, q5, q6, q7, q8, q9, q10, q11⟩ := id hqx
  have hgood : ¬ (nI i < 0 ∨ 32 ≤ nI i) := fun h => h.elim (nI_pos (by omega)) (fun h => nI_ge hi (by decide) h)
  have hzq : g.2.2.2.1 ≠ qa := zne hz0 q1 (by intro h; cases h)
  have ht := TrR.cases q7
  refine z_aload_n d_MQ_put_0 rfl ?_
  refine z_iload_n d_MQ_put_1 rfl ?_
  refine z_callV gt_good d_MQ_put_2 zv_MQ_39 (hx) rfl (fun l => c_MQ_isQueue l g M x qarr lt lw S qs _ hx hqr hl) rfl rfl ⟨Nat.le_of_ble_eq_true rfl, Nat.le_of_ble_eq_true rfl⟩ (Nat.le_of_ble_eq_true rfl) (Nat.le_of_ble_eq_true rfl) (Nat.le_of_ble_eq_true rfl) ?_
  rintro _ _ ⟨rfl, rfl⟩
  rw [if_neg hgood]
  refine z_if_eq (tgt := 29) d_MQ_put_5 (by decide) (fun h5 => False.elim (absurd h5 (by decide))) (fun h5 => ?_)
  refine z_iload_n d_MQ_put_8 rfl ?_
  refine z_if_lt (tgt := 29) d_MQ_put_9 (by decide) (fun h9 => ?_) (fun h9 => ?_)
  · skip
    have hb : putB k u := Or.inl h9
    refine z_bipush (v := (-2)) d_MQ_put_29 (by decide) ?_
    refine z_ireturn d_MQ_put_31 rfl ?_ (by decide) (by decide)
    rw [putI_2 hb]
    exact ⟨rfl, own, cap, hm, hc⟩
  · skip
    refine z_iload_n d_MQ_put_12 rfl ?_
    refine z_iconst (v := 4) d_MQ_put_13 (by decide) ?_
    refine z_icmp_ge (tgt := 29) d_MQ_put_14 (by decide) (fun h14 => ?_) (fun h14 => ?_)
    · skip
      have hb : putB k u := Or.inr (Or.inl h14)
      refine z_bipush (v := (-2)) d_MQ_put_29 (by decide) ?_
      refine z_ireturn d_MQ_put_31 rfl ?_ (by decide) (by decide)
      rw [putI_2 hb]
      exact ⟨rfl, own, cap, hm, hc⟩
    · skip
      refine z_iload d_MQ_put_17 rfl ?_
      refine z_if_lt (tgt := 29) d_MQ_put_19 (by decide) (fun h19 => ?_) (fun h19 => ?_)
      · skip
        have hb : putB k u := Or.inr (Or.inr (Or.inl h19))
        refine z_bipush (v := (-2)) d_MQ_put_29 (by decide) ?_
        refine z_ireturn d_MQ_put_31 rfl ?_ (by decide) (by decide)
        rw [putI_2 hb]
        exact ⟨rfl, own, cap, hm, hc⟩
      · skip
        refine z_iload d_MQ_put_22 rfl ?_
        refine z_bipush (v := 9) d_MQ_put_24 (by decide) ?_
        refine z_icmp_le (tgt := 32) d_MQ_put_26 (by decide) (fun h26 => ?_) (fun h26 => ?_)
        · skip
          have hb : ¬ putB k u := fun h => h.elim h9 (fun h => h.elim h14 (fun h => h.elim h19 (fun h => k2_nlt h26 h)))
          refine z_aload_n d_MQ_put_32 rfl ?_
          refine z_get d_MQ_put_33 zf_MQ_24 (hx) rfl ?_
          refine z_iload_n d_MQ_put_36 rfl ?_
          refine z_aald d_MQ_put_37 hqr rfl rfl (by omega) hv ?_
          refine z_astore d_MQ_put_38 (by decide) rfl ?_
          refine z_aload d_MQ_put_40 rfl ?_
          refine z_iload_n d_MQ_put_42 rfl ?_
          refine z_callV gt_good d_MQ_put_43 zv_MQ_43 (q1) rfl (fun l => c_Qu_admits l g M qa la pa _ _ _ _ _ _ _ tr k q1 ht.1) rfl rfl ⟨Nat.le_of_ble_eq_true rfl, Nat.le_of_ble_eq_true rfl⟩ (Nat.le_of_ble_eq_true rfl) (Nat.le_of_ble_eq_true rfl) (Nat.le_of_ble_eq_true rfl) ?_
          rintro _ _ ⟨rfl, rfl⟩
          refine z_if_ne (tgt := 52) d_MQ_put_46 (by decide) (fun h46 => ?_) (fun h46 => ?_)
          · skip
            have hadm : adm (S.2.1 i) k := by have h := zif1 h46; rw [ht.2] at h; exact h
            refine z_aload d_MQ_put_52 rfl ?_
            refine z_callV gt_good d_MQ_put_54 zv_MQ_46 (q1) rfl (fun l => c_Qu_isLocked l g M qa la pa _ _ _ _ _ _ _ tr q1) rfl rfl ⟨Nat.le_of_ble_eq_true rfl, Nat.le_of_ble_eq_true rfl⟩ (Nat.le_of_ble_eq_true rfl) (Nat.le_of_ble_eq_true rfl) (Nat.le_of_ble_eq_true rfl) ?_
            rintro _ _ ⟨rfl, rfl⟩
            refine z_if_eq (tgt := 73) d_MQ_put_57 (by decide) (fun h57 => ?_) (fun h57 => ?_)
            · skip
              have hlk : ¬ putL (S.2.1 i) u := fun h => h.1 ((nI_le0 (by omega)).mp (zift h57))
              exact t_MQ_put g k0 M own x qarr lt lw qs S cap i qa k v u _ hm hc hz0 hi hqa hlen hbd hb hadm hlk
            · skip
              refine z_aload d_MQ_put_60 rfl ?_
              refine z_get d_MQ_put_62 zf_MQ_50 (q1) rfl ?_
              refine z_iload d_MQ_put_65 rfl ?_
              refine z_icmp_eq (tgt := 73) d_MQ_put_67 (by decide) (fun h67 => ?_) (fun h67 => ?_)
              · skip
                have hlk : ¬ putL (S.2.1 i) u := fun h => h.2 h67
                exact t_MQ_put g k0 M own x qarr lt lw qs S cap i qa k v u _ hm hc hz0 hi hqa hlen hbd hb hadm hlk
              · skip
                have hlk : putL (S.2.1 i) u := ⟨fun e => zifn h57 ((nI_le0 (by omega)).mpr e), h67⟩
                refine z_bipush (v := (-5)) d_MQ_put_70 (by decide) ?_
                refine z_ireturn d_MQ_put_72 rfl ?_ (by decide) (by decide)
                rw [putI_5 hb hadm hlk]
                exact ⟨rfl, own, cap, hm, hc⟩
          · skip
            have hadm : ¬ adm (S.2.1 i) k := by
              have h := zif0 h46
              rw [ht.2] at h
              exact h
            refine z_bipush (v := (-3)) d_MQ_put_49 (by decide) ?_
            refine z_ireturn d_MQ_put_51 rfl ?_ (by decide) (by decide)
            rw [putI_3 hb hadm]
            exact ⟨rfl, own, cap, hm, hc⟩
        · skip
          have hb : putB k u := Or.inr (Or.inr (Or.inr (k2_lt h26)))
          refine z_bipush (v := (-2)) d_MQ_put_29 (by decide) ?_
          refine z_ireturn d_MQ_put_31 rfl ?_ (by decide) (by decide)
          rw [putI_2 hb]
          exact ⟨rfl, own, cap, hm, hc⟩
set_option maxHeartbeats 4000000 in
set_option maxRecDepth 100000 in
theorem c_MQ_putB (l : Launch) (g : ZG) (M : ZM) (own : Nat → Nat) (x qarr lt lw : Nat) (qs : List Nat) (S : MS) (cap : Nat) (q k : Int32) (v : Int64) (u : Int32) (hm : MRep M g.2.2.2.1 own x qarr lt lw qs S cap) (hc : cap ≤ 1000) (hq : q < 0 ∨ 32 ≤ q) : ZC vcl tlx GT l g y_MQ_put b_MQ_put 8 (Option.some FieldType.int) (ZRm 11 70 6000) [.ref x, .int q, .int k, .long v, .int u] M (fun r M' => M = M' ∧ r = some (.int (-2))) := by
  refine ZC.of (by decide) (Nat.le_of_ble_eq_true rfl) rfl (fun k hz0 => ?_)
  obtain ⟨⟨hx, hqr, hl, hX, hXq⟩, hQ, hT, hD, hzo⟩ := id hm
  refine z_aload_n d_MQ_put_0 rfl ?_
  refine z_iload_n d_MQ_put_1 rfl ?_
  refine z_callV gt_good d_MQ_put_2 zv_MQ_39 (hx) rfl (fun l => c_MQ_isQueue l g M x qarr lt lw S qs _ hx hqr hl) rfl rfl ⟨Nat.le_of_ble_eq_true rfl, Nat.le_of_ble_eq_true rfl⟩ (Nat.le_of_ble_eq_true rfl) (Nat.le_of_ble_eq_true rfl) (Nat.le_of_ble_eq_true rfl) ?_
  rintro _ _ ⟨rfl, rfl⟩
  rw [if_pos hq]
  refine z_if_eq (tgt := 29) d_MQ_put_5 (by decide) (fun h5 => ?_) (fun h5 => False.elim (h5 rfl))
  refine z_bipush (v := (-2)) d_MQ_put_29 (by decide) ?_
  refine z_ireturn d_MQ_put_31 rfl ?_ (by decide) (by decide)
  exact ⟨rfl, rfl⟩
end
section
theorem al_get {es : List Nat} {j e k : Nat} (h : es[j]? = some e) : (es.map Value.ref ++ List.replicate k Value.null)[j]? = some (.ref e) := by
  rw [List.getElem?_append_left (by simpa using (List.getElem?_eq_some_iff.mp h).1), List.getElem?_map, h]
  rfl
theorem TrR.keep {M M' : ZM} {own : Nat → Nat} {i : Nat} {t : Option TS} {tr : Value} (h : TrR M own i t tr) (hk : ∀ (ta : Nat) (fs : List Value), M ta = some (.inr (4, fs)) → M' ta = M ta) : TrR M' (ow M own i) i t tr := by
  cases t with
  | none => exact h
  | some t =>
    obtain ⟨ta, h1, h2, h3⟩ := h
    exact ⟨ta, h1, by rw [ow_old (by rw [h3]; simp)]; exact h2, by rw [hk ta _ h3]; exact h3⟩
theorem Qx.gen {M M' : ZM} {own : Nat → Nat} {z i qa la pa arr cap : Nat} {s s' : QS} {es : List Nat} {tr tr' : Value} (h : Qx M z own i qa s la pa arr es cap tr) (a b : Nat) (hqa : M' qa = some (.inr (1, fQs la pa s' tr'))) (hl : ALr M' z la arr ((es.drop a).take b) cap) (hv : s'.2.1 = (s.2.1.drop a).take b) (hpa : M' pa = some (.inl (1, s'.2.2.2.2.2.2.2.2.2.map Value.int))) (hp8 : s'.2.2.2.2.2.2.2.2.2.length = 8) (hpe : s'.2.2.1 ≤ s'.2.1.length) (htr : TrR M' (ow M own i) i s'.2.2.2.2.2.2.2.2.1 tr') (fi : ∀ (e : Nat) (x : Int64), M e = some (.inr (2, [.long x])) → M' e = M e) : QRep M' z (ow M own i) i qa s' := by
  obtain ⟨h1, h2, h3, ⟨h4, h5, h6⟩, h7, h8, h9, h10, o1, o2, o3, o4⟩ := h
  obtain ⟨⟨mc, hla⟩, hr0, hle, hcz⟩ := id h2
  refine ⟨la, pa, arr, (es.drop a).take b, cap, tr', hqa, hl, h3, ⟨?_, ?_, ?_⟩, hpa, hp8, hpe, htr, ?_, ?_, ?_, ?_⟩
  · rw [hv]
    simp [h4]
  · intro j e hj
    have hj' := hj
    rw [List.getElem?_take] at hj'
    split at hj'
    · rename_i hjb
      rw [List.getElem?_drop] at hj'
      obtain ⟨x, e1, e2, e3⟩ := h5 (a + j) e hj'
      refine ⟨x, ?_, by rw [fi e x e2]; exact e2, by rw [ow_old (by rw [e2]; simp)]; exact e3⟩
      rw [hv, List.getElem?_take, if_pos hjb, List.getElem?_drop]
      exact e1
    · cases hj'
  · exact (h6.sublist (List.drop_sublist _ _)).sublist (List.take_sublist _ _)
  · rw [ow_old (by rw [h1]; simp)]; exact o1
  · rw [ow_old (by rw [hla]; simp)]; exact o2
  · rw [ow_old (by rw [h7]; simp)]; exact o3
  · intro he
    rw [ow_old (by rw [hr0]; simp)]; exact o4 he
theorem dt_all {α : Type} (l : List α) : (l.drop 0).take l.length = l := by simp
/-- next -/
def nextQ (s : QS) (now : Int64) (j : Nat) (p : Int32) : QS := (s.1, s.2.1, s.2.2.1, s.2.2.2.1, now, s.2.2.2.2.2.1, s.2.2.2.2.2.2.1, s.2.2.2.2.2.2.2.1, s.2.2.2.2.2.2.2.2.1, s.2.2.2.2.2.2.2.2.2.set j p)
abbrev nxP (s : QS) (j : Nat) : Int32 := s.2.2.2.2.2.2.2.2.2.getD j 0 + 1
abbrev nxN (s : QS) (p : Int32) : Prop := p < 1 ∨ nI s.2.1.length < p
def nextI (S : MS) (i j : Nat) : Int32 × MS :=
  if kTrans (S.2.1 i).1 then (-3, S) else if nxN (S.2.1 i) (nxP (S.2.1 i) j) then (-4, S) else (nxP (S.2.1 i) j, (S.1, va_up S.2.1 i (nextQ (S.2.1 i) S.2.2.2.2.2.2 j (nxP (S.2.1 i) j)), S.2.2))
/-- rewrite: item j (from 0) of queue i -/
def rewQ (s : QS) (now : Int64) (j : Nat) (v : Int64) : QS := (s.1, s.2.1.set j v, s.2.2.1, s.2.2.2.1, now, s.2.2.2.2.2)
def rewI (S : MS) (i : Nat) (n : Int32) (v : Int64) : Int32 × MS :=
  if kTrans (S.2.1 i).1 then (-3, S) else if nxN (S.2.1 i) n then (-4, S) else (1, (S.1, va_up S.2.1 i (rewQ (S.2.1 i) S.2.2.2.2.2.2 (n - 1).toNatClampNeg v), S.2.2))
/-- count -/
def cntF (S : MS) (w : Int32) : Int32 :=
  if ¬ (w < 0 ∨ 32 ≤ w) then nI (S.2.1 w.toNatClampNeg).2.1.length else if ¬ w < 32 ∧ ¬ (w - 32 < 0 ∨ 32 ≤ w - 32) then (S.2.1 (w - 32).toNatClampNeg).1
  else if w = 64 then nI (tot S 32) else if w = 65 then nI S.2.2.1.length else if w = 66 then S.2.2.2.1 else if w = 67 then nI S.2.2.2.2.1.length else -2
/-- started -/
def staF (S : MS) (t : Int32) : Int32 := if t < 1 ∨ nI S.2.2.1.length < t then 0 else ((S.2.2.1[(t - 1).toNatClampNeg]?).getD (0, 0)).1
theorem zpos {t : Int32} {n : Nat} (hn : n < 2 ^ 31) (h : ¬ (t < 1 ∨ nI n < t)) : ∃ j : Nat, j < n ∧ t = nI (j + 1) ∧ t - 1 = nI j ∧ (t - 1).toNatClampNeg = j := by
  have h1 : ¬ t < 1 := fun e => h (Or.inl e)
  have h2 : ¬ nI n < t := fun e => h (Or.inr e)
  have h0 : ¬ t < 0 := fun e => h1 (by
    rw [Int32.lt_iff_toInt_lt] at e ⊢
    have : (0 : Int32).toInt = 0 := rfl
    have : (1 : Int32).toInt = 1 := rfl
    omega)
  obtain ⟨m, hm, rfl⟩ := nI_of h0
  have hm1 : 1 ≤ m := by
    rcases Nat.eq_zero_or_pos m with e | e
    · rw [e] at h1
      exact absurd (by decide) h1
    · exact e
  have hmn : m ≤ n := Nat.not_lt.mp fun q => h2 (nI_lt q hm)
  refine ⟨m - 1, by omega, by rw [show m - 1 + 1 = m by omega], ?_, ?_⟩
  · have := nI_pred (m - 1)
    rw [show m - 1 + 1 = m by omega] at this
    exact this
  · have := nI_pred (m - 1)
    rw [show m - 1 + 1 = m by omega] at this
    rw [this, nI_clamp (by omega)]
end
section
set_option maxHeartbeats 4000000 in
set_option maxRecDepth 100000 in
theorem c_MQ_next (l : Launch) (g : ZG) (M : ZM) (own : Nat → Nat) (x qarr lt lw : Nat) (qs : List Nat) (S : MS) (cap : Nat) (i j : Nat) (hm : MRep M g.2.2.2.1 own x qarr lt lw qs S cap) (hc : cap ≤ 1000) (hi : i < 32) (hj : j < 8) : ZC vcl tlx GT l g y_MQ_next b_MQ_next 5 (Option.some FieldType.int) (ZRm 11 70 6000) [.ref x, .int (nI i), .int (nI j)] M (fun r M' => r = some (.int (nextI S i j).1) ∧ ∃ (own' : Nat → Nat) (cap' : Nat), MRep M' g.2.2.2.1 own' x qarr lt lw qs (nextI S i j).2 cap' ∧ cap' ≤ 1000) := by
  refine ZC.of (by decide) (Nat.le_of_ble_eq_true rfl) rfl (fun k hz0 => ?_)
  obtain ⟨⟨hx, hqr, hl, hX, hXq⟩, hQ, hT, hD, hzo⟩ := id hm
  obtain ⟨qa, hqa⟩ : ∃ qa, qs[i]? = some qa := ⟨qs[i], List.getElem?_eq_getElem (by omega)⟩
  have hv : (qs.map Value.ref)[i]? = some (.ref qa) := by rw [List.getElem?_map, hqa]; rfl
  obtain ⟨la, pa, arr, es, cp, tr, hqx⟩ := hQ i qa hqa
  obtain ⟨q1, ⟨⟨mc, q2⟩, q2r, q2c, q2z⟩, q2b, ⟨q3, q3e, q3n⟩, q4, q5, q6, q7, q8, q9, q10, q11⟩ := id hqx
  have hgood : ¬ (nI i < 0 ∨ 32 ≤ nI i) := fun h => h.elim (nI_pos (by omega)) (fun h => nI_ge hi (by decide) h)
  have hzq : g.2.2.2.1 ≠ qa := zne hz0 q1 (by intro h; cases h)
  have ht := TrR.cases q7
  have n1 : pa ≠ qa := zne q4 q1 (by intro h; cases h)
  have n2 : la ≠ qa := zne q2 q1 (by simp)
  have n3 : arr ≠ qa := zne q2r q1 (by intro h; cases h)
  have n4 : pa ≠ la := zne q4 q2 (by intro h; cases h)
  have n5 : pa ≠ arr := zne q4 q2r (by simp)
  have hv2 : ((S.2.1 i).2.2.2.2.2.2.2.2.2.map Value.int)[j]? = some (.int ((S.2.1 i).2.2.2.2.2.2.2.2.2.getD j 0)) := by rw [List.getElem?_map, List.getD_eq_getElem?_getD, List.getElem?_eq_getElem (by omega)]; rfl
  have hb1 : ¬ nI j < 0 := nI_pos (by omega)
  have hb2 : nI j < 8 := nI_lt hj (by decide)
  refine z_aload_n d_MQ_next_0 rfl ?_
  refine z_iload_n d_MQ_next_1 rfl ?_
  refine z_callV gt_good d_MQ_next_2 zv_MQ_39 (hx) rfl (fun l => c_MQ_isQueue l g M x qarr lt lw S qs _ hx hqr hl) rfl rfl ⟨Nat.le_of_ble_eq_true rfl, Nat.le_of_ble_eq_true rfl⟩ (Nat.le_of_ble_eq_true rfl) (Nat.le_of_ble_eq_true rfl) (Nat.le_of_ble_eq_true rfl) ?_
  rintro _ _ ⟨rfl, rfl⟩
  rw [if_neg hgood]
  refine z_if_eq (tgt := 18) d_MQ_next_5 (by decide) (fun h5 => False.elim (absurd h5 (by decide))) (fun h5 => ?_)
  refine z_iload_n d_MQ_next_8 rfl ?_
  refine z_if_lt (tgt := 18) d_MQ_next_9 (by decide) (fun h9 => False.elim (hb1 h9)) (fun h9 => ?_)
  refine z_iload_n d_MQ_next_12 rfl ?_
  refine z_bipush (v := 8) d_MQ_next_13 (by decide) ?_
  refine z_icmp_lt (tgt := 21) d_MQ_next_15 (by decide) (fun h15 => ?_) (fun h15 => False.elim (h15 hb2))
  refine z_aload_n d_MQ_next_21 rfl ?_
  refine z_get d_MQ_next_22 zf_MQ_24 (hx) rfl ?_
  refine z_iload_n d_MQ_next_25 rfl ?_
  refine z_aald d_MQ_next_26 hqr rfl rfl (by omega) hv ?_
  refine z_astore_n (i := 3) d_MQ_next_27 rfl (by decide) rfl ?_
  refine z_aload_n d_MQ_next_28 rfl ?_
  refine z_callV gt_good d_MQ_next_29 zv_MQ_107 (q1) rfl (fun l => c_Qu_isTransient l g M qa la pa _ _ _ _ _ _ _ tr q1) rfl rfl ⟨Nat.le_of_ble_eq_true rfl, Nat.le_of_ble_eq_true rfl⟩ (Nat.le_of_ble_eq_true rfl) (Nat.le_of_ble_eq_true rfl) (Nat.le_of_ble_eq_true rfl) ?_
  rintro _ _ ⟨rfl, rfl⟩
  refine z_if_eq (tgt := 38) d_MQ_next_32 (by decide) (fun h32 => ?_) (fun h32 => ?_)
  · skip
    have hkt := zif0 h32
    refine z_aload_n d_MQ_next_38 rfl ?_
    refine z_get d_MQ_next_39 zf_MQ_110 (q1) rfl ?_
    refine z_iload_n d_MQ_next_42 rfl ?_
    refine z_iald d_MQ_next_43 q4 rfl (by omega) hv2 ?_
    refine z_iconst (v := 1) d_MQ_next_44 (by decide) ?_
    refine z_iadd d_MQ_next_45 ?_
    refine z_istore d_MQ_next_46 (by decide) rfl ?_
    refine z_aload_n d_MQ_next_48 rfl ?_
    refine z_iload d_MQ_next_49 rfl ?_
    refine z_callV gt_good d_MQ_next_51 zv_MQ_82 (q1) rfl (fun l => c_Qu_holds l g M qa la pa _ _ _ _ _ _ _ tr arr (nI es.length) mc _ q1 q2) rfl rfl ⟨Nat.le_of_ble_eq_true rfl, Nat.le_of_ble_eq_true rfl⟩ (Nat.le_of_ble_eq_true rfl) (Nat.le_of_ble_eq_true rfl) (Nat.le_of_ble_eq_true rfl) ?_
    rintro _ _ ⟨rfl, rfl⟩
    refine z_if_ne (tgt := 60) d_MQ_next_54 (by decide) (fun h54 => ?_) (fun h54 => ?_)
    · skip
      have hnx : ¬ nxN (S.2.1 i) (nxP (S.2.1 i) j) := by have h := zifn h54; rw [q3] at h; exact h
      refine z_aload_n d_MQ_next_60 rfl ?_
      refine z_get d_MQ_next_61 zf_MQ_110 (q1) rfl ?_
      refine z_iload_n d_MQ_next_64 rfl ?_
      refine z_iload d_MQ_next_65 rfl ?_
      refine z_iast d_MQ_next_67 q4 rfl (by omega) (by rw [List.length_map]; omega) ?_
      refine z_aload_n d_MQ_next_68 rfl ?_
      refine z_aload_n d_MQ_next_69 rfl ?_
      refine z_get d_MQ_next_70 zf_MQ_57 (by rw [zset_ne (zne hx q4 (by intro h; cases h))]; exact hx) rfl ?_
      refine z_callV gt_good d_MQ_next_73 zv_MQ_61 (by rw [zset_ne (Ne.symm n1)]; exact q1) rfl (fun l => c_Qu_touch l g _ qa la pa _ _ _ _ _ _ _ tr S.2.2.2.2.2.2 (by rw [zset_ne (Ne.symm n1)]; exact q1)) rfl rfl ⟨Nat.le_of_ble_eq_true rfl, Nat.le_of_ble_eq_true rfl⟩ (Nat.le_of_ble_eq_true rfl) (Nat.le_of_ble_eq_true rfl) (Nat.le_of_ble_eq_true rfl) ?_
      rintro _ _ ⟨rfl, rfl⟩
      refine z_iload d_MQ_next_76 rfl ?_
      refine z_ireturn d_MQ_next_78 rfl ?_ (by decide) (by decide)
      rw [show nextI S i j = _ from by unfold nextI; rw [if_neg hkt, if_neg hnx]]
      have hr2 : QRep (zset (zset M pa (.inl (1, ((S.2.1 i).2.2.2.2.2.2.2.2.2.map Value.int).set j (.int (nxP (S.2.1 i) j))))) qa (.inr (1, fQs la pa (nextQ (S.2.1 i) S.2.2.2.2.2.2 j (nxP (S.2.1 i) j)) tr))) g.2.2.2.1 (ow M own i) i qa (nextQ (S.2.1 i) S.2.2.2.2.2.2 j (nxP (S.2.1 i) j)) := by
        refine hqx.gen 0 es.length (zset_self _ _ _) ?_ ?_ ?_ ?_ q6 (q7.keep (fun ta fs h => ?_)) (fun e y h => ?_)
        · rw [dt_all]
          exact ALr.kept ⟨⟨mc, q2⟩, q2r, q2c, q2z⟩ (by rw [zset_ne n2, zset_ne (Ne.symm n4)]) (by rw [zset_ne n3, zset_ne (Ne.symm n5)])
        · rw [q3, dt_all]; rfl
        · rw [zset_ne n1, zset_self, ← List.map_set]; rfl
        · show ((S.2.1 i).2.2.2.2.2.2.2.2.2.set j _).length = 8
          rw [List.length_set]; exact q5
        · rw [zset_ne (zne h q1 (by simp)), zset_ne (zne h q4 (by intro h; cases h))]
        · rw [zset_ne (zne h q1 (by simp)), zset_ne (zne h q4 (by intro h; cases h))]
      exact ⟨rfl, _, cap, hm.updQ hqa (by rw [hz0]; simp) (fun y y1 y2 => by rw [zset_ne (fun e => y2 (by rw [e]; exact q8)), zset_ne (fun e => y2 (by rw [e]; exact q10))]) hr2, hc⟩
    · skip
      have hnx : nxN (S.2.1 i) (nxP (S.2.1 i) j) := by have h := zift h54; rw [q3] at h; exact h
      refine z_bipush (v := (-4)) d_MQ_next_57 (by decide) ?_
      refine z_ireturn d_MQ_next_59 rfl ?_ (by decide) (by decide)
      rw [show nextI S i j = _ from by unfold nextI; rw [if_neg hkt, if_pos hnx]]
      exact ⟨rfl, own, cap, hm, hc⟩
  · skip
    have hkt := zif1 h32
    refine z_bipush (v := (-3)) d_MQ_next_35 (by decide) ?_
    refine z_ireturn d_MQ_next_37 rfl ?_ (by decide) (by decide)
    rw [show nextI S i j = _ from by unfold nextI; rw [if_pos hkt]]
    exact ⟨rfl, own, cap, hm, hc⟩
set_option maxHeartbeats 4000000 in
set_option maxRecDepth 100000 in
theorem c_MQ_nextB (l : Launch) (g : ZG) (M : ZM) (own : Nat → Nat) (x qarr lt lw : Nat) (qs : List Nat) (S : MS) (cap : Nat) (q r : Int32) (hm : MRep M g.2.2.2.1 own x qarr lt lw qs S cap) (hc : cap ≤ 1000) (hq : (q < 0 ∨ 32 ≤ q) ∨ r < 0 ∨ 8 ≤ r) : ZC vcl tlx GT l g y_MQ_next b_MQ_next 5 (Option.some FieldType.int) (ZRm 11 70 6000) [.ref x, .int q, .int r] M (fun r M' => M = M' ∧ r = some (.int (-2))) := by
  refine ZC.of (by decide) (Nat.le_of_ble_eq_true rfl) rfl (fun k hz0 => ?_)
  obtain ⟨⟨hx, hqr, hl, hX, hXq⟩, hQ, hT, hD, hzo⟩ := id hm
  refine z_aload_n d_MQ_next_0 rfl ?_
  refine z_iload_n d_MQ_next_1 rfl ?_
  refine z_callV gt_good d_MQ_next_2 zv_MQ_39 (hx) rfl (fun l => c_MQ_isQueue l g M x qarr lt lw S qs _ hx hqr hl) rfl rfl ⟨Nat.le_of_ble_eq_true rfl, Nat.le_of_ble_eq_true rfl⟩ (Nat.le_of_ble_eq_true rfl) (Nat.le_of_ble_eq_true rfl) (Nat.le_of_ble_eq_true rfl) ?_
  rintro _ _ ⟨rfl, rfl⟩
  refine z_if_eq (tgt := 18) d_MQ_next_5 (by decide) (fun h5 => ?_) (fun h5 => ?_)
  · skip
    refine z_bipush (v := (-2)) d_MQ_next_18 (by decide) ?_
    refine z_ireturn d_MQ_next_20 rfl ?_ (by decide) (by decide)
    exact ⟨rfl, rfl⟩
  · skip
    have hq := hq.resolve_left (zifn h5)
    refine z_iload_n d_MQ_next_8 rfl ?_
    refine z_if_lt (tgt := 18) d_MQ_next_9 (by decide) (fun h9 => ?_) (fun h9 => ?_)
    · skip
      refine z_bipush (v := (-2)) d_MQ_next_18 (by decide) ?_
      refine z_ireturn d_MQ_next_20 rfl ?_ (by decide) (by decide)
      exact ⟨rfl, rfl⟩
    · skip
      have hq := hq.resolve_left h9
      refine z_iload_n d_MQ_next_12 rfl ?_
      refine z_bipush (v := 8) d_MQ_next_13 (by decide) ?_
      refine z_icmp_lt (tgt := 21) d_MQ_next_15 (by decide) (fun h15 => False.elim (k2_nlt hq h15)) (fun h15 => ?_)
      refine z_bipush (v := (-2)) d_MQ_next_18 (by decide) ?_
      refine z_ireturn d_MQ_next_20 rfl ?_ (by decide) (by decide)
      exact ⟨rfl, rfl⟩
set_option maxHeartbeats 4000000 in
set_option maxRecDepth 100000 in
theorem c_MQ_started (l : Launch) (g : ZG) (M : ZM) (own : Nat → Nat) (x qarr lt lw : Nat) (qs : List Nat) (S : MS) (cap : Nat) (t : Int32) (hm : MRep M g.2.2.2.1 own x qarr lt lw qs S cap) (hc : cap ≤ 1000) : ZC vcl tlx GT l g y_MQ_started b_MQ_started 2 (Option.some FieldType.int) (ZRm 11 70 6000) [.ref x, .int t] M (fun r M' => M = M' ∧ r = some (.int (staF S t))) := by
  refine ZC.of (by decide) (Nat.le_of_ble_eq_true rfl) rfl (fun k hz0 => ?_)
  obtain ⟨⟨hx, hqr, hl, hX, hXq⟩, hQ, hT, hD, hzo⟩ := id hm
  obtain ⟨arr, es, t1, t2, t3, t4, t5, t6⟩ := id hT
  obtain ⟨⟨mc, u2⟩, u2r, u2c, u2z⟩ := id t1
  refine z_aload_n d_MQ_started_0 rfl ?_
  refine z_iload_n d_MQ_started_1 rfl ?_
  refine z_callV gt_good d_MQ_started_2 zv_MQ_132 (hx) rfl (fun l => c_MQ_isTask l g M x qarr lt lw S arr (nI es.length) mc t hx u2) rfl rfl ⟨Nat.le_of_ble_eq_true rfl, Nat.le_of_ble_eq_true rfl⟩ (Nat.le_of_ble_eq_true rfl) (Nat.le_of_ble_eq_true rfl) (Nat.le_of_ble_eq_true rfl) ?_
  rintro _ _ ⟨rfl, rfl⟩
  refine z_if_eq (tgt := 27) d_MQ_started_5 (by decide) (fun h5 => ?_) (fun h5 => ?_)
  · skip
    have hb := zift h5
    rw [t2] at hb
    refine z_iconst (v := 0) d_MQ_started_27 (by decide) ?_
    refine z_ireturn d_MQ_started_28 rfl ?_ (by decide) (by decide)
    first | exact ⟨rfl, by unfold staF; rw [if_pos hb]⟩ | exact ⟨rfl, by unfold staF; rw [if_neg hb, hj4, k1]; rfl⟩
  · skip
    have hb := zifn h5
    rw [t2] at hb
    obtain ⟨j, hj1, hj2, hj3, hj4⟩ := zpos (by omega) hb
    obtain ⟨e, he⟩ : ∃ e, es[j]? = some e := ⟨es[j]'(by omega), List.getElem?_eq_getElem (by omega)⟩
    obtain ⟨y, k1, k2, k3⟩ := t3 j e he
    refine z_aload_n d_MQ_started_8 rfl ?_
    refine z_get d_MQ_started_9 zf_MQ_32 (hx) rfl ?_
    refine z_iload_n d_MQ_started_12 rfl ?_
    refine z_iconst (v := 1) d_MQ_started_13 (by decide) ?_
    refine z_isub d_MQ_started_14 ?_
    rw [hj3]
    refine z_callV gt_good d_MQ_started_15 zv_MQ_90 (u2) rfl (fun l => c_AL_get l g M lt arr es.length mc _ j e u2 u2r (by omega) (by omega) (al_get he)) rfl rfl ⟨Nat.le_of_ble_eq_true rfl, Nat.le_of_ble_eq_true rfl⟩ (Nat.le_of_ble_eq_true rfl) (Nat.le_of_ble_eq_true rfl) (Nat.le_of_ble_eq_true rfl) ?_
    rintro _ _ ⟨rfl, rfl⟩
    refine z_cast (ci := 3) d_MQ_started_18 gw_294 k2 rfl rfl ?_
    refine z_get d_MQ_started_21 zf_MQ_137 (k2) rfl ?_
    refine z_goto (tgt := 28) d_MQ_started_24 (by decide) ?_
    refine z_ireturn d_MQ_started_28 rfl ?_ (by decide) (by decide)
    first | exact ⟨rfl, by unfold staF; rw [if_pos hb]⟩ | exact ⟨rfl, by unfold staF; rw [if_neg hb, hj4, k1]; rfl⟩
end
section
theorem Qx.rew {M : ZM} {own : Nat → Nat} {z i qa la pa arr cap j e : Nat} {s : QS} {es : List Nat} {tr : Value} {v now : Int64} (h : Qx M z own i qa s la pa arr es cap tr) (he : es[j]? = some e) : QRep (zset (zset M e (.inr (2, [.long v]))) qa (.inr (1, fQs la pa (rewQ s now j v) tr))) z (ow M own i) i qa (rewQ s now j v) := by
  obtain ⟨h1, h2, h3, ⟨h4, h5, h6⟩, h7, h8, h9, h10, o1, o2, o3, o4⟩ := h
  obtain ⟨⟨mc, hla⟩, hr0, hle, hcz⟩ := id h2
  obtain ⟨x0, y1, y2, y3⟩ := h5 j e he
  have ne : ∀ (q ci : Nat) (fs : List Value), ci ≠ 1 → ci ≠ 2 → M q = some (.inr (ci, fs)) → zset (zset M e (.inr (2, [.long v]))) qa (.inr (1, fQs la pa (rewQ s now j v) tr)) q = M q := fun q ci fs c1 c2 hq => by
    rw [zset_ne (zne hq h1 (fun w => by cases w; exact c1 rfl)), zset_ne (zne hq y2 (fun w => by cases w; exact c2 rfl))]
  have na : ∀ (q : Nat) (p : Nat × List Value), M q = some (.inl p) → zset (zset M e (.inr (2, [.long v]))) qa (.inr (1, fQs la pa (rewQ s now j v) tr)) q = M q := fun q p hq => by
    rw [zset_ne (zne hq h1 (by intro h; cases h)), zset_ne (zne hq y2 (by intro h; cases h))]
  have hlen : (s.2.1.set j v).length = s.2.1.length := List.length_set
  refine ⟨la, pa, arr, es, cap, tr, zset_self _ _ _, h2.kept (ne la _ _ (by decide) (by decide) hla) (na arr _ hr0), h3, ⟨by show es.length = (s.2.1.set j v).length; rw [hlen]; exact h4, ?_, h6⟩, by rw [na pa _ h7]; exact h7, h8, by show s.2.2.1 ≤ (s.2.1.set j v).length; rw [hlen]; exact h9, ?_, by rw [ow_old (by rw [h1]; simp)]; exact o1, by rw [ow_old (by rw [hla]; simp)]; exact o2, by rw [ow_old (by rw [h7]; simp)]; exact o3, fun hh => by rw [ow_old (by rw [hr0]; simp)]; exact o4 hh⟩
  · intro j' e' hj'
    show ∃ x, (s.2.1.set j v)[j']? = some x ∧ _
    obtain ⟨x, e1, e2, e3⟩ := h5 j' e' hj'
    have hne : e' ≠ qa := zne e2 h1 (by simp)
    by_cases hjj : j' = j
    · subst hjj
      rw [he] at hj'
      cases hj'
      refine ⟨v, by rw [List.getElem?_set_self (List.getElem?_eq_some_iff.mp e1).1], by rw [zset_ne hne, zset_self], by rw [ow_old (by rw [e2]; simp)]; exact e3⟩
    · have hee : e' ≠ e := by
        intro hee
        rw [hee] at hj'
        exact hjj ((List.getElem?_inj (List.getElem?_eq_some_iff.mp hj').1 h6).mp (hj'.trans he.symm))
      exact ⟨x, by rw [List.getElem?_set_ne (Ne.symm hjj)]; exact e1, by rw [zset_ne hne, zset_ne hee]; exact e2, by rw [ow_old (by rw [e2]; simp)]; exact e3⟩
  · exact h10.keep (fun ta fs hta => ne ta 4 fs (by decide) (by decide) hta)
/-- trigger -/
def triT (n c : Int32) : Option TS := if n = 0 then none else some (n, c, 1, 0, 0)
def triS (S : MS) (i : Nat) (n c : Int32) : MS := (S.1, va_up S.2.1 i (setTr (S.2.1 i) (triT n c)), S.2.2)
def triI (S : MS) (i : Nat) (n c : Int32) : Int32 × MS :=
  if n < 0 ∨ 4096 < n then (-2, S) else if kTemp (S.2.1 i).1 then (-3, S) else (1, lookN (triS S i n c) 32)
/-- take -/
def takQ (s : QS) : QS := ((if s.2.1.tail = [] then -1 else s.1), s.2.1.tail, s.2.2.1, s.2.2.2.1, s.2.2.2.2.1, s.2.2.2.2.2.1, s.2.2.2.2.2.1 - nI s.2.1.length + 1, s.2.1.headD 0, s.2.2.2.2.2.2.2.2.1.map (fun t => (t.1, t.2.1, t.2.2.1, t.2.2.2.1, 1)), (if s.2.1.tail = [] then List.replicate 8 0 else s.2.2.2.2.2.2.2.2.2))
def takS (S : MS) (i : Nat) : MS := (S.1, va_up S.2.1 i (takQ (S.2.1 i)), S.2.2)
def takI (S : MS) (i : Nat) : Int32 × MS :=
  if kTemp (S.2.1 i).1 then (-3, S) else if (S.2.1 i).2.1 = [] then (-4, S) else if (S.2.1 i).2.1.length = (S.2.1 i).2.2.1 then (-5, S) else ((S.2.1 i).2.2.2.2.2.1 - nI (S.2.1 i).2.1.length + 1, lookN (takS S i) 32)
end
section
set_option maxHeartbeats 4000000 in
set_option maxRecDepth 100000 in
theorem c_MQ_rewrite (l : Launch) (g : ZG) (M : ZM) (own : Nat → Nat) (x qarr lt lw : Nat) (qs : List Nat) (S : MS) (cap : Nat) (i : Nat) (n : Int32) (v : Int64) (hm : MRep M g.2.2.2.1 own x qarr lt lw qs S cap) (hc : cap ≤ 1000) (hi : i < 32) (hlen : (S.2.1 i).2.1.length ≤ 600) : ZC vcl tlx GT l g y_MQ_rewrite b_MQ_rewrite 6 (Option.some FieldType.int) (ZRm 11 70 6000) [.ref x, .int (nI i), .int n, .long v] M (fun r M' => r = some (.int (rewI S i n v).1) ∧ ∃ (own' : Nat → Nat) (cap' : Nat), MRep M' g.2.2.2.1 own' x qarr lt lw qs (rewI S i n v).2 cap' ∧ cap' ≤ 1000) := by
  refine ZC.of (by decide) (Nat.le_of_ble_eq_true rfl) rfl (fun k hz0 => ?_)
  obtain ⟨⟨hx, hqr, hl, hX, hXq⟩, hQ, hT, hD, hzo⟩ := id hm
  obtain ⟨qa, hqa⟩ : ∃ qa, qs[i]? = some qa := ⟨qs[i], List.getElem?_eq_getElem (by omega)⟩
  have hv : (qs.map Value.ref)[i]? = some (.ref qa) := by rw [List.getElem?_map, hqa]; rfl
  obtain ⟨la, pa, arr, es, cp, tr, hqx⟩ := hQ i qa hqa
  obtain ⟨q1, ⟨⟨mc, q2⟩, q2r, q2c, q2z⟩, q2b, ⟨q3, q3e, q3n⟩, q4, q5, q6, q7, q8, q9, q10, q11⟩ := id hqx
  have hgood : ¬ (nI i < 0 ∨ 32 ≤ nI i) := fun h => h.elim (nI_pos (by omega)) (fun h => nI_ge hi (by decide) h)
  have hzq : g.2.2.2.1 ≠ qa := zne hz0 q1 (by intro h; cases h)
  have ht := TrR.cases q7
  have n1 : pa ≠ qa := zne q4 q1 (by intro h; cases h)
  have n2 : la ≠ qa := zne q2 q1 (by simp)
  have n3 : arr ≠ qa := zne q2r q1 (by intro h; cases h)
  have n4 : pa ≠ la := zne q4 q2 (by intro h; cases h)
  have n5 : pa ≠ arr := zne q4 q2r (by simp)
  refine z_aload_n d_MQ_rewrite_0 rfl ?_
  refine z_iload_n d_MQ_rewrite_1 rfl ?_
  refine z_callV gt_good d_MQ_rewrite_2 zv_MQ_39 (hx) rfl (fun l => c_MQ_isQueue l g M x qarr lt lw S qs _ hx hqr hl) rfl rfl ⟨Nat.le_of_ble_eq_true rfl, Nat.le_of_ble_eq_true rfl⟩ (Nat.le_of_ble_eq_true rfl) (Nat.le_of_ble_eq_true rfl) (Nat.le_of_ble_eq_true rfl) ?_
  rintro _ _ ⟨rfl, rfl⟩
  rw [if_neg hgood]
  refine z_if_ne (tgt := 11) d_MQ_rewrite_5 (by decide) (fun h5 => ?_) (fun h5 => False.elim (absurd h5 (by decide)))
  refine z_aload_n d_MQ_rewrite_11 rfl ?_
  refine z_get d_MQ_rewrite_12 zf_MQ_24 (hx) rfl ?_
  refine z_iload_n d_MQ_rewrite_15 rfl ?_
  refine z_aald d_MQ_rewrite_16 hqr rfl rfl (by omega) hv ?_
  refine z_astore d_MQ_rewrite_17 (by decide) rfl ?_
  refine z_aload d_MQ_rewrite_19 rfl ?_
  refine z_callV gt_good d_MQ_rewrite_21 zv_MQ_107 (q1) rfl (fun l => c_Qu_isTransient l g M qa la pa _ _ _ _ _ _ _ tr q1) rfl rfl ⟨Nat.le_of_ble_eq_true rfl, Nat.le_of_ble_eq_true rfl⟩ (Nat.le_of_ble_eq_true rfl) (Nat.le_of_ble_eq_true rfl) (Nat.le_of_ble_eq_true rfl) ?_
  rintro _ _ ⟨rfl, rfl⟩
  refine z_if_eq (tgt := 30) d_MQ_rewrite_24 (by decide) (fun h24 => ?_) (fun h24 => ?_)
  · skip
    have hkt := zif0 h24
    refine z_aload d_MQ_rewrite_30 rfl ?_
    refine z_iload_n d_MQ_rewrite_32 rfl ?_
    refine z_callV gt_good d_MQ_rewrite_33 zv_MQ_82 (q1) rfl (fun l => c_Qu_holds l g M qa la pa _ _ _ _ _ _ _ tr arr (nI es.length) mc _ q1 q2) rfl rfl ⟨Nat.le_of_ble_eq_true rfl, Nat.le_of_ble_eq_true rfl⟩ (Nat.le_of_ble_eq_true rfl) (Nat.le_of_ble_eq_true rfl) (Nat.le_of_ble_eq_true rfl) ?_
    rintro _ _ ⟨rfl, rfl⟩
    refine z_if_ne (tgt := 42) d_MQ_rewrite_36 (by decide) (fun h36 => ?_) (fun h36 => ?_)
    · skip
      have hnx : ¬ nxN (S.2.1 i) n := by have h := zifn h36; rw [q3] at h; exact h
      obtain ⟨j, hj1, hj2, hj3, hj4⟩ := zpos (by omega) hnx
      obtain ⟨e, he⟩ : ∃ e, es[j]? = some e := ⟨es[j]'(by omega), List.getElem?_eq_getElem (by omega)⟩
      obtain ⟨y, k1, k2, k3⟩ := q3e j e he
      refine z_aload d_MQ_rewrite_42 rfl ?_
      refine z_get d_MQ_rewrite_44 zf_MQ_87 (q1) rfl ?_
      refine z_iload_n d_MQ_rewrite_47 rfl ?_
      refine z_iconst (v := 1) d_MQ_rewrite_48 (by decide) ?_
      refine z_isub d_MQ_rewrite_49 ?_
      rw [hj3]
      refine z_callV gt_good d_MQ_rewrite_50 zv_MQ_90 (q2) rfl (fun l => c_AL_get l g M la arr es.length mc _ j e q2 q2r (by omega) (by omega) (al_get he)) rfl rfl ⟨Nat.le_of_ble_eq_true rfl, Nat.le_of_ble_eq_true rfl⟩ (Nat.le_of_ble_eq_true rfl) (Nat.le_of_ble_eq_true rfl) (Nat.le_of_ble_eq_true rfl) ?_
      rintro _ _ ⟨rfl, rfl⟩
      refine z_cast (ci := 2) d_MQ_rewrite_53 gw_421 k2 rfl rfl ?_
      refine z_lload_n d_MQ_rewrite_56 rfl ?_
      refine z_put d_MQ_rewrite_57 zp_MQ_96 (k2) rfl rfl ?_
      refine z_aload d_MQ_rewrite_60 rfl ?_
      refine z_aload_n d_MQ_rewrite_62 rfl ?_
      refine z_get d_MQ_rewrite_63 zf_MQ_57 (by rw [zset_ne (zne hx k2 (by simp))]; exact hx) rfl ?_
      refine z_callV gt_good d_MQ_rewrite_66 zv_MQ_61 (by rw [zset_ne (zne q1 k2 (by simp))]; exact q1) rfl (fun l => c_Qu_touch l g _ qa la pa _ _ _ _ _ _ _ tr S.2.2.2.2.2.2 (by rw [zset_ne (zne q1 k2 (by simp))]; exact q1)) rfl rfl ⟨Nat.le_of_ble_eq_true rfl, Nat.le_of_ble_eq_true rfl⟩ (Nat.le_of_ble_eq_true rfl) (Nat.le_of_ble_eq_true rfl) (Nat.le_of_ble_eq_true rfl) ?_
      rintro _ _ ⟨rfl, rfl⟩
      refine z_iconst (v := 1) d_MQ_rewrite_69 (by decide) ?_
      refine z_ireturn d_MQ_rewrite_70 rfl ?_ (by decide) (by decide)
      rw [show rewI S i n v = _ from by unfold rewI; rw [if_neg hkt, if_neg hnx, hj4]]
      have hr2 : QRep (zset (zset M e (.inr (2, [.long v]))) qa (.inr (1, fQs la pa (rewQ (S.2.1 i) S.2.2.2.2.2.2 j v) tr))) g.2.2.2.1 (ow M own i) i qa (rewQ (S.2.1 i) S.2.2.2.2.2.2 j v) := hqx.rew he
      have hm2 := hm.updQ hqa (by rw [hz0]; simp) (fun y y1 y2 => by rw [zset_ne (fun w => y2 (by rw [w]; exact q8)), zset_ne (fun w => y2 (by rw [w]; exact k3))]) hr2
      exact ⟨rfl, _, cap, hm2, hc⟩
    · skip
      have hnx : nxN (S.2.1 i) n := by have h := zift h36; rw [q3] at h; exact h
      refine z_bipush (v := (-4)) d_MQ_rewrite_39 (by decide) ?_
      refine z_ireturn d_MQ_rewrite_41 rfl ?_ (by decide) (by decide)
      rw [show rewI S i n v = _ from by unfold rewI; rw [if_neg hkt, if_pos hnx]]
      exact ⟨rfl, own, cap, hm, hc⟩
  · skip
    have hkt := zif1 h24
    refine z_bipush (v := (-3)) d_MQ_rewrite_27 (by decide) ?_
    refine z_ireturn d_MQ_rewrite_29 rfl ?_ (by decide) (by decide)
    rw [show rewI S i n v = _ from by unfold rewI; rw [if_pos hkt]]
    exact ⟨rfl, own, cap, hm, hc⟩
set_option maxHeartbeats 4000000 in
set_option maxRecDepth 100000 in
theorem c_MQ_rewriteB (l : Launch) (g : ZG) (M : ZM) (own : Nat → Nat) (x qarr lt lw : Nat) (qs : List Nat) (S : MS) (cap : Nat) (q n : Int32) (v : Int64) (hm : MRep M g.2.2.2.1 own x qarr lt lw qs S cap) (hc : cap ≤ 1000) (hq : q < 0 ∨ 32 ≤ q) : ZC vcl tlx GT l g y_MQ_rewrite b_MQ_rewrite 6 (Option.some FieldType.int) (ZRm 11 70 6000) [.ref x, .int q, .int n, .long v] M (fun r M' => M = M' ∧ r = some (.int (-2))) := by
  refine ZC.of (by decide) (Nat.le_of_ble_eq_true rfl) rfl (fun k hz0 => ?_)
  obtain ⟨⟨hx, hqr, hl, hX, hXq⟩, hQ, hT, hD, hzo⟩ := id hm
  refine z_aload_n d_MQ_rewrite_0 rfl ?_
  refine z_iload_n d_MQ_rewrite_1 rfl ?_
  refine z_callV gt_good d_MQ_rewrite_2 zv_MQ_39 (hx) rfl (fun l => c_MQ_isQueue l g M x qarr lt lw S qs _ hx hqr hl) rfl rfl ⟨Nat.le_of_ble_eq_true rfl, Nat.le_of_ble_eq_true rfl⟩ (Nat.le_of_ble_eq_true rfl) (Nat.le_of_ble_eq_true rfl) (Nat.le_of_ble_eq_true rfl) ?_
  rintro _ _ ⟨rfl, rfl⟩
  rw [if_pos hq]
  refine z_if_ne (tgt := 11) d_MQ_rewrite_5 (by decide) (fun h5 => False.elim (h5 rfl)) (fun h5 => ?_)
  refine z_bipush (v := (-2)) d_MQ_rewrite_8 (by decide) ?_
  refine z_ireturn d_MQ_rewrite_10 rfl ?_ (by decide) (by decide)
  exact ⟨rfl, rfl⟩
set_option maxHeartbeats 4000000 in
set_option maxRecDepth 100000 in
theorem c_MQ_trigger (l : Launch) (g : ZG) (M : ZM) (own : Nat → Nat) (x qarr lt lw : Nat) (qs : List Nat) (S : MS) (cap : Nat) (i : Nat) (n c : Int32) (hm : MRep M g.2.2.2.1 own x qarr lt lw qs S cap) (hc : cap ≤ 1000) (hi : i < 32) (hbd : (lookN (triS S i n c) 32).2.2.1.length ≤ 600) : ZC vcl tlx GT l g y_MQ_trigger b_MQ_trigger 5 (Option.some FieldType.int) (ZRm 11 70 6000) [.ref x, .int (nI i), .int n, .int c] M (fun r M' => r = some (.int (triI S i n c).1) ∧ ∃ (own' : Nat → Nat) (cap' : Nat), MRep M' g.2.2.2.1 own' x qarr lt lw qs (triI S i n c).2 cap' ∧ cap' ≤ 1000) := by
  refine ZC.of (by decide) (Nat.le_of_ble_eq_true rfl) rfl (fun k hz0 => ?_)
  obtain ⟨⟨hx, hqr, hl, hX, hXq⟩, hQ, hT, hD, hzo⟩ := id hm
  obtain ⟨qa, hqa⟩ : ∃ qa, qs[i]? = some qa := ⟨qs[i], List.getElem?_eq_getElem (by omega)⟩
  have hv : (qs.map Value.ref)[i]? = some (.ref qa) := by rw [List.getElem?_map, hqa]; rfl
  obtain ⟨la, pa, arr, es, cp, tr, hqx⟩ := hQ i qa hqa
  obtain ⟨q1, ⟨⟨mc, q2⟩, q2r, q2c, q2z⟩, q2b, ⟨q3, q3e, q3n⟩, q4, q5, q6, q7, q8, q9, q10, q11⟩ := id hqx
  have hgood : ¬ (nI i < 0 ∨ 32 ≤ nI i) := fun h => h.elim (nI_pos (by omega)) (fun h => nI_ge hi (by decide) h)
  have hzq : g.2.2.2.1 ≠ qa := zne hz0 q1 (by intro h; cases h)
  have ht := TrR.cases q7
  have n1 : pa ≠ qa := zne q4 q1 (by intro h; cases h)
  have n2 : la ≠ qa := zne q2 q1 (by simp)
  have n3 : arr ≠ qa := zne q2r q1 (by intro h; cases h)
  have n4 : pa ≠ la := zne q4 q2 (by intro h; cases h)
  have n5 : pa ≠ arr := zne q4 q2r (by simp)
  refine z_aload_n d_MQ_trigger_0 rfl ?_
  refine z_iload_n d_MQ_trigger_1 rfl ?_
  refine z_callV gt_good d_MQ_trigger_2 zv_MQ_39 (hx) rfl (fun l => c_MQ_isQueue l g M x qarr lt lw S qs _ hx hqr hl) rfl rfl ⟨Nat.le_of_ble_eq_true rfl, Nat.le_of_ble_eq_true rfl⟩ (Nat.le_of_ble_eq_true rfl) (Nat.le_of_ble_eq_true rfl) (Nat.le_of_ble_eq_true rfl) ?_
  rintro _ _ ⟨rfl, rfl⟩
  rw [if_neg hgood]
  refine z_if_eq (tgt := 19) d_MQ_trigger_5 (by decide) (fun h5 => False.elim (absurd h5 (by decide))) (fun h5 => ?_)
  refine z_iload_n d_MQ_trigger_8 rfl ?_
  refine z_if_lt (tgt := 19) d_MQ_trigger_9 (by decide) (fun h9 => ?_) (fun h9 => ?_)
  · skip
    have hb : n < 0 ∨ 4096 < n := Or.inl h9
    refine z_bipush (v := (-2)) d_MQ_trigger_19 (by decide) ?_
    refine z_ireturn d_MQ_trigger_21 rfl ?_ (by decide) (by decide)
    rw [show triI S i n c = _ from by unfold triI; rw [if_pos hb]]
    exact ⟨rfl, own, cap, hm, hc⟩
  · skip
    refine z_iload_n d_MQ_trigger_12 rfl ?_
    refine z_sipush (v := 4096) d_MQ_trigger_13 (by decide) ?_
    refine z_icmp_le (tgt := 22) d_MQ_trigger_16 (by decide) (fun h16 => ?_) (fun h16 => ?_)
    · skip
      have hb : ¬ (n < 0 ∨ 4096 < n) := fun h => h.elim h9 (fun h => k2_nlt h16 h)
      refine z_aload_n d_MQ_trigger_22 rfl ?_
      refine z_get d_MQ_trigger_23 zf_MQ_24 (hx) rfl ?_
      refine z_iload_n d_MQ_trigger_26 rfl ?_
      refine z_aald d_MQ_trigger_27 hqr rfl rfl (by omega) hv ?_
      refine z_astore d_MQ_trigger_28 (by decide) rfl ?_
      refine z_aload d_MQ_trigger_30 rfl ?_
      refine z_callV gt_good d_MQ_trigger_32 zv_MQ_79 (q1) rfl (fun l => c_Qu_isTemporary l g M qa la pa _ _ _ _ _ _ _ tr q1) rfl rfl ⟨Nat.le_of_ble_eq_true rfl, Nat.le_of_ble_eq_true rfl⟩ (Nat.le_of_ble_eq_true rfl) (Nat.le_of_ble_eq_true rfl) (Nat.le_of_ble_eq_true rfl) ?_
      rintro _ _ ⟨rfl, rfl⟩
      refine z_if_eq (tgt := 41) d_MQ_trigger_35 (by decide) (fun h35 => ?_) (fun h35 => ?_)
      · skip
        have hkt := zif0 h35
        refine z_aload d_MQ_trigger_41 rfl ?_
        refine z_iload_n d_MQ_trigger_43 rfl ?_
        refine z_if_ne (tgt := 51) d_MQ_trigger_44 (by decide) (fun h44 => ?_) (fun h44 => ?_)
        · skip
          refine z_new (ci := 4) (fs := [.int 0, .int 0, .int 0, .int 0, .int 0]) d_MQ_trigger_51 ⟨_, T_Tr, 5, ty_Tr, rfl, in_Tr, zl_Tr, gw_374, gw_375, gw_54, rfl, by decide⟩ (by simp) (by simp) (fun ta hta => ?_)
          have hqt : qa ≠ ta := zfresh_ne q1 hta
          refine z_dup d_MQ_trigger_54 rfl ?_
          refine z_iload_n d_MQ_trigger_55 rfl ?_
          refine z_iload_n d_MQ_trigger_56 rfl ?_
          refine z_callI gt_good d_MQ_trigger_57 zi_MQ_125 (fun l => c_Tr_init l g _ ta _ _ _ _ _ n c (zset_self _ _ _)) rfl rfl ⟨Nat.le_of_ble_eq_true rfl, Nat.le_of_ble_eq_true rfl⟩ (Nat.le_of_ble_eq_true rfl) (by first | (dsimp only [ZRm]; omega) | (dsimp only [ZRm, List.length]; omega) | (simp [ZRm]; done)) (by first | (dsimp only [ZRm]; omega) | (dsimp only [ZRm, List.length]; omega) | (simp [ZRm]; done)) ?_
          rintro _ _ ⟨rfl, rfl⟩
          rw [zset_zset]
          first
            | (refine z_put d_MQ_trigger_60 zp_MQ_128 (by rw [zset_ne hqt]; exact q1) rfl rfl ?_
               have hr2 : QRep (zset (zset M ta (.inr (4, [.int n, .int c, .int 1, .int 0, .int 0]))) qa (.inr (1, fQs la pa (setTr (S.2.1 i) (triT n c)) (.ref ta)))) g.2.2.2.1 (ow M own i) i qa (setTr (S.2.1 i) (triT n c)) := by
                 refine hqx.gen 0 es.length (tr' := .ref ta) (zset_self _ _ _) ?_ ?_ ?_ q5 q6 ?_ (fun e y h => ?_)
                 · rw [dt_all]
                   exact ALr.kept ⟨⟨mc, q2⟩, q2r, q2c, q2z⟩ (by rw [zset_ne n2, zset_ne (zfresh_ne q2 hta)]) (by rw [zset_ne n3, zset_ne (zfresh_ne q2r hta)])
                 · rw [q3, dt_all]; rfl
                 · rw [zset_ne n1, zset_ne (zfresh_ne q4 hta)]; exact q4
                 · show TrR _ _ i (triT n c) _
                   unfold triT
                   rw [if_neg h44]
                   exact ⟨ta, rfl, ow_new hta, by rw [zset_ne (Ne.symm hqt), zset_self]⟩
                 · rw [zset_ne (zne h q1 (by simp)), zset_ne (zfresh_ne h hta)]
               have hm2 := hm.updQ hqa (by rw [hz0]; simp) (fun y y1 y2 => by rw [zset_ne (fun w => y2 (by rw [w]; exact q8)), zset_ne (fun w => y1 (by rw [w]; exact hta))]) hr2
               refine z_aload_n d_MQ_trigger_63 rfl ?_
               refine z_callV gt_good d_MQ_trigger_64 zv_MQ_69 (hm2.1.1) rfl (fun l => c_MQ_lookAtTriggers l g _ _ x qarr lt lw qs (triS S i n c) cap hm2 hc hbd) rfl rfl ⟨Nat.le_of_ble_eq_true rfl, Nat.le_of_ble_eq_true rfl⟩ (Nat.le_of_ble_eq_true rfl) (by first | (dsimp only [ZRm]; omega) | (dsimp only [ZRm, List.length]; omega) | (simp [ZRm]; done)) (by first | (dsimp only [ZRm]; omega) | (dsimp only [ZRm, List.length]; omega) | (simp [ZRm]; done)) ?_
               rintro _ M3 ⟨rfl, own3, cap3, hm3, hc3⟩
               refine z_iconst (v := 1) d_MQ_trigger_67 (by decide) ?_
               refine z_ireturn d_MQ_trigger_68 rfl ?_ (by first | (dsimp only [ZRm]; omega) | (dsimp only [ZRm, List.length]; omega) | (simp [ZRm]; done)) (by first | (dsimp only [ZRm]; omega) | (dsimp only [ZRm, List.length]; omega) | (simp [ZRm]; done))
               rw [show triI S i n c = _ from by unfold triI; rw [if_neg hb, if_neg hkt]]
               exact ⟨rfl, own3, cap3, hm3, hc3⟩)
            | (refine z_put d_MQ_trigger_60 zp_MQ_128 q1 rfl rfl ?_
               have hr2 : QRep (zset M qa (.inr (1, fQs la pa (setTr (S.2.1 i) (triT n c)) .null))) g.2.2.2.1 (ow M own i) i qa (setTr (S.2.1 i) (triT n c)) := by
                 refine hqx.gen 0 es.length (tr' := .null) (zset_self _ _ _) ?_ ?_ ?_ q5 q6 ?_ (fun e y h => ?_)
                 · rw [dt_all]
                   exact ALr.kept ⟨⟨mc, q2⟩, q2r, q2c, q2z⟩ (by rw [zset_ne n2]) (by rw [zset_ne n3])
                 · rw [q3, dt_all]; rfl
                 · rw [zset_ne n1]; exact q4
                 · show TrR _ _ i (triT n c) _
                   unfold triT
                   rw [if_pos h44]
                   rfl
                 · rw [zset_ne (zne h q1 (by simp))]
               have hm2 := hm.updQ hqa (by rw [hz0]; simp) (fun y y1 y2 => by rw [zset_ne (fun w => y2 (by rw [w]; exact q8))]) hr2
               refine z_aload_n d_MQ_trigger_63 rfl ?_
               refine z_callV gt_good d_MQ_trigger_64 zv_MQ_69 (hm2.1.1) rfl (fun l => c_MQ_lookAtTriggers l g _ _ x qarr lt lw qs (triS S i n c) cap hm2 hc hbd) rfl rfl ⟨Nat.le_of_ble_eq_true rfl, Nat.le_of_ble_eq_true rfl⟩ (Nat.le_of_ble_eq_true rfl) (by first | (dsimp only [ZRm]; omega) | (dsimp only [ZRm, List.length]; omega) | (simp [ZRm]; done)) (by first | (dsimp only [ZRm]; omega) | (dsimp only [ZRm, List.length]; omega) | (simp [ZRm]; done)) ?_
               rintro _ M3 ⟨rfl, own3, cap3, hm3, hc3⟩
               refine z_iconst (v := 1) d_MQ_trigger_67 (by decide) ?_
               refine z_ireturn d_MQ_trigger_68 rfl ?_ (by first | (dsimp only [ZRm]; omega) | (dsimp only [ZRm, List.length]; omega) | (simp [ZRm]; done)) (by first | (dsimp only [ZRm]; omega) | (dsimp only [ZRm, List.length]; omega) | (simp [ZRm]; done))
               rw [show triI S i n c = _ from by unfold triI; rw [if_neg hb, if_neg hkt]]
               exact ⟨rfl, own3, cap3, hm3, hc3⟩)
        · skip
          refine z_null d_MQ_trigger_47 ?_
          refine z_goto (tgt := 60) d_MQ_trigger_48 (by decide) ?_
          first
            | (refine z_put d_MQ_trigger_60 zp_MQ_128 (by rw [zset_ne hqt]; exact q1) rfl rfl ?_
               have hr2 : QRep (zset (zset M ta (.inr (4, [.int n, .int c, .int 1, .int 0, .int 0]))) qa (.inr (1, fQs la pa (setTr (S.2.1 i) (triT n c)) (.ref ta)))) g.2.2.2.1 (ow M own i) i qa (setTr (S.2.1 i) (triT n c)) := by
                 refine hqx.gen 0 es.length (tr' := .ref ta) (zset_self _ _ _) ?_ ?_ ?_ q5 q6 ?_ (fun e y h => ?_)
                 · rw [dt_all]
                   exact ALr.kept ⟨⟨mc, q2⟩, q2r, q2c, q2z⟩ (by rw [zset_ne n2, zset_ne (zfresh_ne q2 hta)]) (by rw [zset_ne n3, zset_ne (zfresh_ne q2r hta)])
                 · rw [q3, dt_all]; rfl
                 · rw [zset_ne n1, zset_ne (zfresh_ne q4 hta)]; exact q4
                 · show TrR _ _ i (triT n c) _
                   unfold triT
                   rw [if_neg h44]
                   exact ⟨ta, rfl, ow_new hta, by rw [zset_ne (Ne.symm hqt), zset_self]⟩
                 · rw [zset_ne (zne h q1 (by simp)), zset_ne (zfresh_ne h hta)]
               have hm2 := hm.updQ hqa (by rw [hz0]; simp) (fun y y1 y2 => by rw [zset_ne (fun w => y2 (by rw [w]; exact q8)), zset_ne (fun w => y1 (by rw [w]; exact hta))]) hr2
               refine z_aload_n d_MQ_trigger_63 rfl ?_
               refine z_callV gt_good d_MQ_trigger_64 zv_MQ_69 (hm2.1.1) rfl (fun l => c_MQ_lookAtTriggers l g _ _ x qarr lt lw qs (triS S i n c) cap hm2 hc hbd) rfl rfl ⟨Nat.le_of_ble_eq_true rfl, Nat.le_of_ble_eq_true rfl⟩ (Nat.le_of_ble_eq_true rfl) (by first | (dsimp only [ZRm]; omega) | (dsimp only [ZRm, List.length]; omega) | (simp [ZRm]; done)) (by first | (dsimp only [ZRm]; omega) | (dsimp only [ZRm, List.length]; omega) | (simp [ZRm]; done)) ?_
               rintro _ M3 ⟨rfl, own3, cap3, hm3, hc3⟩
               refine z_iconst (v := 1) d_MQ_trigger_67 (by decide) ?_
               refine z_ireturn d_MQ_trigger_68 rfl ?_ (by first | (dsimp only [ZRm]; omega) | (dsimp only [ZRm, List.length]; omega) | (simp [ZRm]; done)) (by first | (dsimp only [ZRm]; omega) | (dsimp only [ZRm, List.length]; omega) | (simp [ZRm]; done))
               rw [show triI S i n c = _ from by unfold triI; rw [if_neg hb, if_neg hkt]]
               exact ⟨rfl, own3, cap3, hm3, hc3⟩)
            | (refine z_put d_MQ_trigger_60 zp_MQ_128 q1 rfl rfl ?_
               have hr2 : QRep (zset M qa (.inr (1, fQs la pa (setTr (S.2.1 i) (triT n c)) .null))) g.2.2.2.1 (ow M own i) i qa (setTr (S.2.1 i) (triT n c)) := by
                 refine hqx.gen 0 es.length (tr' := .null) (zset_self _ _ _) ?_ ?_ ?_ q5 q6 ?_ (fun e y h => ?_)
                 · rw [dt_all]
                   exact ALr.kept ⟨⟨mc, q2⟩, q2r, q2c, q2z⟩ (by rw [zset_ne n2]) (by rw [zset_ne n3])
                 · rw [q3, dt_all]; rfl
                 · rw [zset_ne n1]; exact q4
                 · show TrR _ _ i (triT n c) _
                   unfold triT
                   rw [if_pos h44]
                   rfl
                 · rw [zset_ne (zne h q1 (by simp))]
               have hm2 := hm.updQ hqa (by rw [hz0]; simp) (fun y y1 y2 => by rw [zset_ne (fun w => y2 (by rw [w]; exact q8))]) hr2
               refine z_aload_n d_MQ_trigger_63 rfl ?_
               refine z_callV gt_good d_MQ_trigger_64 zv_MQ_69 (hm2.1.1) rfl (fun l => c_MQ_lookAtTriggers l g _ _ x qarr lt lw qs (triS S i n c) cap hm2 hc hbd) rfl rfl ⟨Nat.le_of_ble_eq_true rfl, Nat.le_of_ble_eq_true rfl⟩ (Nat.le_of_ble_eq_true rfl) (by first | (dsimp only [ZRm]; omega) | (dsimp only [ZRm, List.length]; omega) | (simp [ZRm]; done)) (by first | (dsimp only [ZRm]; omega) | (dsimp only [ZRm, List.length]; omega) | (simp [ZRm]; done)) ?_
               rintro _ M3 ⟨rfl, own3, cap3, hm3, hc3⟩
               refine z_iconst (v := 1) d_MQ_trigger_67 (by decide) ?_
               refine z_ireturn d_MQ_trigger_68 rfl ?_ (by first | (dsimp only [ZRm]; omega) | (dsimp only [ZRm, List.length]; omega) | (simp [ZRm]; done)) (by first | (dsimp only [ZRm]; omega) | (dsimp only [ZRm, List.length]; omega) | (simp [ZRm]; done))
               rw [show triI S i n c = _ from by unfold triI; rw [if_neg hb, if_neg hkt]]
               exact ⟨rfl, own3, cap3, hm3, hc3⟩)
      · skip
        have hkt := zif1 h35
        refine z_bipush (v := (-3)) d_MQ_trigger_38 (by decide) ?_
        refine z_ireturn d_MQ_trigger_40 rfl ?_ (by decide) (by decide)
        rw [show triI S i n c = _ from by unfold triI; rw [if_neg hb, if_pos hkt]]
        exact ⟨rfl, own, cap, hm, hc⟩
    · skip
      have hb : n < 0 ∨ 4096 < n := Or.inr (k2_lt h16)
      refine z_bipush (v := (-2)) d_MQ_trigger_19 (by decide) ?_
      refine z_ireturn d_MQ_trigger_21 rfl ?_ (by decide) (by decide)
      rw [show triI S i n c = _ from by unfold triI; rw [if_pos hb]]
      exact ⟨rfl, own, cap, hm, hc⟩
set_option maxHeartbeats 4000000 in
set_option maxRecDepth 100000 in
theorem c_MQ_triggerB (l : Launch) (g : ZG) (M : ZM) (own : Nat → Nat) (x qarr lt lw : Nat) (qs : List Nat) (S : MS) (cap : Nat) (q n c : Int32) (hm : MRep M g.2.2.2.1 own x qarr lt lw qs S cap) (hc : cap ≤ 1000) (hq : q < 0 ∨ 32 ≤ q) : ZC vcl tlx GT l g y_MQ_trigger b_MQ_trigger 5 (Option.some FieldType.int) (ZRm 11 70 6000) [.ref x, .int q, .int n, .int c] M (fun r M' => M = M' ∧ r = some (.int (-2))) := by
  refine ZC.of (by decide) (Nat.le_of_ble_eq_true rfl) rfl (fun k hz0 => ?_)
  obtain ⟨⟨hx, hqr, hl, hX, hXq⟩, hQ, hT, hD, hzo⟩ := id hm
  refine z_aload_n d_MQ_trigger_0 rfl ?_
  refine z_iload_n d_MQ_trigger_1 rfl ?_
  refine z_callV gt_good d_MQ_trigger_2 zv_MQ_39 (hx) rfl (fun l => c_MQ_isQueue l g M x qarr lt lw S qs _ hx hqr hl) rfl rfl ⟨Nat.le_of_ble_eq_true rfl, Nat.le_of_ble_eq_true rfl⟩ (Nat.le_of_ble_eq_true rfl) (Nat.le_of_ble_eq_true rfl) (Nat.le_of_ble_eq_true rfl) ?_
  rintro _ _ ⟨rfl, rfl⟩
  rw [if_pos hq]
  refine z_if_eq (tgt := 19) d_MQ_trigger_5 (by decide) (fun h5 => ?_) (fun h5 => False.elim (h5 rfl))
  refine z_bipush (v := (-2)) d_MQ_trigger_19 (by decide) ?_
  refine z_ireturn d_MQ_trigger_21 rfl ?_ (by decide) (by decide)
  exact ⟨rfl, rfl⟩
end
section
set_option maxHeartbeats 4000000 in
set_option maxRecDepth 100000 in
theorem c_MQ_take (l : Launch) (g : ZG) (M : ZM) (own : Nat → Nat) (x qarr lt lw : Nat) (qs : List Nat) (S : MS) (cap : Nat) (i : Nat) (hm : MRep M g.2.2.2.1 own x qarr lt lw qs S cap) (hc : cap ≤ 1000) (hi : i < 32) (hlen : (S.2.1 i).2.1.length ≤ 600) (hbd : (lookN (takS S i) 32).2.2.1.length ≤ 600) : ZC vcl tlx GT l g y_MQ_take b_MQ_take 4 (Option.some FieldType.int) (ZRm 11 70 6000) [.ref x, .int (nI i)] M (fun r M' => r = some (.int (takI S i).1) ∧ ∃ (own' : Nat → Nat) (cap' : Nat), MRep M' g.2.2.2.1 own' x qarr lt lw qs (takI S i).2 cap' ∧ cap' ≤ 1000) := by
  refine ZC.of (by decide) (Nat.le_of_ble_eq_true rfl) rfl (fun k hz0 => ?_)
  obtain ⟨⟨hx, hqr, hl, hX, hXq⟩, hQ, hT, hD, hzo⟩ := id hm
  obtain ⟨qa, hqa⟩ : ∃ qa, qs[i]? = some qa := ⟨qs[i], List.getElem?_eq_getElem (by omega)⟩
  have hv : (qs.map Value.ref)[i]? = some (.ref qa) := by rw [List.getElem?_map, hqa]; rfl
  obtain ⟨la, pa, arr, es, cp, tr, hqx⟩ := hQ i qa hqa
  obtain ⟨q1, ⟨⟨mc, q2⟩, q2r, q2c, q2z⟩, q2b, ⟨q3, q3e, q3n⟩, q4, q5, q6, q7, q8, q9, q10, q11⟩ := id hqx
  have hgood : ¬ (nI i < 0 ∨ 32 ≤ nI i) := fun h => h.elim (nI_pos (by omega)) (fun h => nI_ge hi (by decide) h)
  have hzq : g.2.2.2.1 ≠ qa := zne hz0 q1 (by intro h; cases h)
  have ht := TrR.cases q7
  have n1 : pa ≠ qa := zne q4 q1 (by intro h; cases h)
  have n2 : la ≠ qa := zne q2 q1 (by simp)
  have n3 : arr ≠ qa := zne q2r q1 (by intro h; cases h)
  have n4 : pa ≠ la := zne q4 q2 (by intro h; cases h)
  have n5 : pa ≠ arr := zne q4 q2r (by simp)
  refine z_aload_n d_MQ_take_0 rfl ?_
  refine z_iload_n d_MQ_take_1 rfl ?_
  refine z_callV gt_good d_MQ_take_2 zv_MQ_39 (hx) rfl (fun l => c_MQ_isQueue l g M x qarr lt lw S qs _ hx hqr hl) rfl rfl ⟨Nat.le_of_ble_eq_true rfl, Nat.le_of_ble_eq_true rfl⟩ (Nat.le_of_ble_eq_true rfl) (Nat.le_of_ble_eq_true rfl) (Nat.le_of_ble_eq_true rfl) ?_
  rintro _ _ ⟨rfl, rfl⟩
  rw [if_neg hgood]
  refine z_if_ne (tgt := 11) d_MQ_take_5 (by decide) (fun h5 => ?_) (fun h5 => False.elim (absurd h5 (by decide)))
  refine z_aload_n d_MQ_take_11 rfl ?_
  refine z_get d_MQ_take_12 zf_MQ_24 (hx) rfl ?_
  refine z_iload_n d_MQ_take_15 rfl ?_
  refine z_aald d_MQ_take_16 hqr rfl rfl (by omega) hv ?_
  refine z_astore_n (i := 2) d_MQ_take_17 rfl (by decide) rfl ?_
  refine z_aload_n d_MQ_take_18 rfl ?_
  refine z_callV gt_good d_MQ_take_19 zv_MQ_79 (q1) rfl (fun l => c_Qu_isTemporary l g M qa la pa _ _ _ _ _ _ _ tr q1) rfl rfl ⟨Nat.le_of_ble_eq_true rfl, Nat.le_of_ble_eq_true rfl⟩ (Nat.le_of_ble_eq_true rfl) (Nat.le_of_ble_eq_true rfl) (Nat.le_of_ble_eq_true rfl) ?_
  rintro _ _ ⟨rfl, rfl⟩
  refine z_if_eq (tgt := 28) d_MQ_take_22 (by decide) (fun h22 => ?_) (fun h22 => ?_)
  · skip
    have hkt := zif0 h22
    refine z_aload_n d_MQ_take_28 rfl ?_
    refine z_get d_MQ_take_29 zf_MQ_87 (q1) rfl ?_
    refine z_callV gt_good d_MQ_take_32 zv_MQ_114 (q2) rfl (fun l => c_AL_isEmpty l g M la arr (nI es.length) mc q2) rfl rfl ⟨Nat.le_of_ble_eq_true rfl, Nat.le_of_ble_eq_true rfl⟩ (Nat.le_of_ble_eq_true rfl) (Nat.le_of_ble_eq_true rfl) (Nat.le_of_ble_eq_true rfl) ?_
    rintro _ _ ⟨rfl, rfl⟩
    refine z_if_eq (tgt := 41) d_MQ_take_35 (by decide) (fun h35 => ?_) (fun h35 => ?_)
    · skip
      have hne : ¬ (S.2.1 i).2.1 = [] := fun e => zif0 h35 (by rw [q3, e]; rfl)
      refine z_aload_n d_MQ_take_41 rfl ?_
      refine z_callV gt_good d_MQ_take_42 zv_MQ_117 (q1) rfl (fun l => c_Qu_standing l g M qa la pa _ _ _ _ _ _ _ tr arr (nI es.length) mc q1 q2) rfl rfl ⟨Nat.le_of_ble_eq_true rfl, Nat.le_of_ble_eq_true rfl⟩ (Nat.le_of_ble_eq_true rfl) (Nat.le_of_ble_eq_true rfl) (Nat.le_of_ble_eq_true rfl) ?_
      rintro _ _ ⟨rfl, rfl⟩
      rw [q3, pk_sub q6]
      refine z_if_ne (tgt := 51) d_MQ_take_45 (by decide) (fun h45 => ?_) (fun h45 => ?_)
      · skip
        have hst : ¬ (S.2.1 i).2.1.length = (S.2.1 i).2.2.1 := fun e => h45 (by rw [e, Nat.sub_self]; rfl)
        refine z_aload_n d_MQ_take_51 rfl ?_
        obtain ⟨e0, es1, rfl⟩ : ∃ e0 es1, es = e0 :: es1 := by
          cases es with
          | nil => exact absurd (List.length_eq_zero_iff.mp q3.symm) hne
          | cons a b => exact ⟨a, b, rfl⟩
        obtain ⟨v0, k1, k2, k3⟩ := q3e 0 e0 rfl
        obtain ⟨v1, vt, hvs⟩ : ∃ v1 vt, (S.2.1 i).2.1 = v1 :: vt := by
          cases hh : (S.2.1 i).2.1 with
          | nil => exact absurd hh hne
          | cons a b => exact ⟨a, b, rfl⟩
        have hv01 : v0 = v1 := by rw [hvs] at k1; exact (Option.some.inj k1).symm
        subst hv01
        have q3' := q3.symm
        have hvl : es1.length = vt.length := by rw [hvs] at q3; simpa using q3
        have hpt : (S.2.1 i).2.2.1 ≤ (S.2.1 i).2.1.tail.length := by
          rw [List.length_tail]
          have := q6
          omega
        have hes : ∀ e ∈ e0 :: es1, ∃ x : Int64, M e = some (.inr (2, [.long x])) := fun e he => by
          obtain ⟨j, hj⟩ := List.getElem?_of_mem he
          obtain ⟨y, -, hy, -⟩ := q3e j e hj
          exact ⟨y, hy⟩
        have harz : arr ≠ g.2.2.2.1 := zne q2r hz0 (by simp)
        cases htr : (S.2.1 i).2.2.2.2.2.2.2.2.1 with
        | none =>
          have q7 : tr = .null := by rw [htr] at q7; exact q7
          subst q7
          refine z_callV gt_good d_MQ_take_52 zv_MQ_120 (q1) rfl (fun l => c_Qu_removeFirstN l g M qa la pa _ _ _ _ _ _ _ arr e0 es1 cp _ v0 q1 ⟨⟨mc, q2⟩, q2r, q2c, q2z⟩ q4 (by omega) (by rw [List.length_map, q5]; decide) hes k2) rfl rfl ⟨Nat.le_of_ble_eq_true rfl, Nat.le_of_ble_eq_true rfl⟩ (Nat.le_of_ble_eq_true rfl) (Nat.le_of_ble_eq_true rfl) (Nat.le_of_ble_eq_true rfl) ?_
          rintro _ M1 ⟨rfl, e1, e2, e3, e5⟩
          have hem : (es1 = []) = ((S.2.1 i).2.1.tail = []) := by
            rw [hvs]
            show (es1 = []) = (vt = [])
            rw [← List.length_eq_zero_iff, ← List.length_eq_zero_iff, hvl]
          have hr2 : QRep M1 g.2.2.2.1 (ow M own i) i qa (takQ (S.2.1 i)) := by
            refine hqx.gen 1 es1.length (tr' := .null) ?_ ?_ ?_ ?_ ?_ ?_ ?_ (fun e y h => ?_)
            · rw [e1]
              unfold takQ fQs
              simp only [hem]
              rw [q3', hvs]
              rfl
            · rw [show ((e0 :: es1).drop 1).take es1.length = es1 by simp]; exact e2
            · unfold takQ
              simp [hvs, hvl]
            · rw [e3]
              unfold takQ
              simp only [hem, q5, List.length_map]
              split <;> rfl
            · unfold takQ
              dsimp only
              split
              · rfl
              · exact q5
            · unfold takQ
              exact hpt
            · unfold takQ
              rw [htr]
              rfl
            · exact e5 e (zne h q1 (by simp)) (zne h q2 (by simp)) (zne h q2r (by intro h; cases h)) (zne h q4 (by intro h; cases h))
          have hm2 := hm.updQ hqa (by rw [hz0]; simp) (fun y y1 y2 => e5 y (fun w => y2 (by rw [w]; exact q8)) (fun w => y2 (by rw [w]; exact q9)) (fun w => y2 (by rw [w]; exact q11 harz)) (fun w => y2 (by rw [w]; exact q10))) hr2
          refine z_istore_n (i := 3) d_MQ_take_55 rfl (by decide) rfl ?_
          refine z_aload_n d_MQ_take_56 rfl ?_
          refine z_callV gt_good d_MQ_take_57 zv_MQ_69 (hm2.1.1) rfl (fun l => c_MQ_lookAtTriggers l g M1 _ x qarr lt lw qs (takS S i) cap hm2 hc hbd) rfl rfl ⟨Nat.le_of_ble_eq_true rfl, Nat.le_of_ble_eq_true rfl⟩ (Nat.le_of_ble_eq_true rfl) (by first | (dsimp only [ZRm]; omega) | (dsimp only [ZRm, List.length]; omega) | (simp [ZRm]; done)) (by first | (dsimp only [ZRm]; omega) | (dsimp only [ZRm, List.length]; omega) | (simp [ZRm]; done)) ?_
          rintro _ M3 ⟨rfl, own3, cap3, hm3, hc3⟩
          refine z_iload_n d_MQ_take_60 rfl ?_
          refine z_ireturn d_MQ_take_61 rfl ?_ (by first | (dsimp only [ZRm]; omega) | (dsimp only [ZRm, List.length]; omega) | (simp [ZRm]; done)) (by first | (dsimp only [ZRm]; omega) | (dsimp only [ZRm, List.length]; omega) | (simp [ZRm]; done))
          rw [show takI S i = _ from by unfold takI; rw [if_neg hkt, if_neg hne, if_neg hst], show (S.2.1 i).2.1.length = (e0 :: es1).length from q3']
          exact ⟨rfl, own3, cap3, hm3, hc3⟩
        | some t =>
          rw [htr] at q7
          obtain ⟨ta, hte, hto, hta⟩ := q7
          subst hte
          refine z_callV gt_good d_MQ_take_52 zv_MQ_120 (q1) rfl (fun l => c_Qu_removeFirstR l g M qa la pa _ _ _ _ _ _ _ ta _ _ _ _ _ arr e0 es1 cp _ v0 q1 ⟨⟨mc, q2⟩, q2r, q2c, q2z⟩ q4 (by omega) (by rw [List.length_map, q5]; decide) hes k2 hta) rfl rfl ⟨Nat.le_of_ble_eq_true rfl, Nat.le_of_ble_eq_true rfl⟩ (Nat.le_of_ble_eq_true rfl) (Nat.le_of_ble_eq_true rfl) (Nat.le_of_ble_eq_true rfl) ?_
          rintro _ M1 ⟨rfl, e1, e2, e3, e4, e5⟩
          have hem : (es1 = []) = ((S.2.1 i).2.1.tail = []) := by
            rw [hvs]
            show (es1 = []) = (vt = [])
            rw [← List.length_eq_zero_iff, ← List.length_eq_zero_iff, hvl]
          have hr2 : QRep M1 g.2.2.2.1 (ow M own i) i qa (takQ (S.2.1 i)) := by
            refine hqx.gen 1 es1.length (tr' := .ref ta) ?_ ?_ ?_ ?_ ?_ ?_ ?_ (fun e y h => ?_)
            · rw [e1]
              unfold takQ fQs
              simp only [hem]
              rw [q3', hvs]
              rfl
            · rw [show ((e0 :: es1).drop 1).take es1.length = es1 by simp]; exact e2
            · unfold takQ
              simp [hvs, hvl]
            · rw [e3]
              unfold takQ
              simp only [hem, q5, List.length_map]
              split <;> rfl
            · unfold takQ
              dsimp only
              split
              · rfl
              · exact q5
            · unfold takQ
              exact hpt
            · unfold takQ
              rw [htr]
              exact ⟨ta, rfl, by rw [ow_old (by rw [hta]; simp)]; exact hto, e4⟩
            · exact e5 e (zne h q1 (by simp)) (zne h q2 (by simp)) (zne h q2r (by intro h; cases h)) (zne h q4 (by intro h; cases h)) (zne h hta (by simp))
          have hm2 := hm.updQ hqa (by rw [hz0]; simp) (fun y y1 y2 => e5 y (fun w => y2 (by rw [w]; exact q8)) (fun w => y2 (by rw [w]; exact q9)) (fun w => y2 (by rw [w]; exact q11 harz)) (fun w => y2 (by rw [w]; exact q10)) (fun w => y2 (by rw [w]; exact hto))) hr2
          refine z_istore_n (i := 3) d_MQ_take_55 rfl (by decide) rfl ?_
          refine z_aload_n d_MQ_take_56 rfl ?_
          refine z_callV gt_good d_MQ_take_57 zv_MQ_69 (hm2.1.1) rfl (fun l => c_MQ_lookAtTriggers l g M1 _ x qarr lt lw qs (takS S i) cap hm2 hc hbd) rfl rfl ⟨Nat.le_of_ble_eq_true rfl, Nat.le_of_ble_eq_true rfl⟩ (Nat.le_of_ble_eq_true rfl) (by first | (dsimp only [ZRm]; omega) | (dsimp only [ZRm, List.length]; omega) | (simp [ZRm]; done)) (by first | (dsimp only [ZRm]; omega) | (dsimp only [ZRm, List.length]; omega) | (simp [ZRm]; done)) ?_
          rintro _ M3 ⟨rfl, own3, cap3, hm3, hc3⟩
          refine z_iload_n d_MQ_take_60 rfl ?_
          refine z_ireturn d_MQ_take_61 rfl ?_ (by first | (dsimp only [ZRm]; omega) | (dsimp only [ZRm, List.length]; omega) | (simp [ZRm]; done)) (by first | (dsimp only [ZRm]; omega) | (dsimp only [ZRm, List.length]; omega) | (simp [ZRm]; done))
          rw [show takI S i = _ from by unfold takI; rw [if_neg hkt, if_neg hne, if_neg hst], show (S.2.1 i).2.1.length = (e0 :: es1).length from q3']
          exact ⟨rfl, own3, cap3, hm3, hc3⟩
      · skip
        have hst : (S.2.1 i).2.1.length = (S.2.1 i).2.2.1 := by
          have h := (nI_eq (a := (S.2.1 i).2.1.length - (S.2.1 i).2.2.1) (b := 0) (by omega) (by decide)).mp h45
          omega
        refine z_bipush (v := (-5)) d_MQ_take_48 (by decide) ?_
        refine z_ireturn d_MQ_take_50 rfl ?_ (by decide) (by decide)
        rw [show takI S i = _ from by unfold takI; rw [if_neg hkt, if_neg hne, if_pos hst]]
        exact ⟨rfl, own, cap, hm, hc⟩
    · skip
      have hne : (S.2.1 i).2.1 = [] := List.length_eq_zero_iff.mp ((nI_eq (by omega) (by decide)).mp (by have h := zif1 h35; rw [q3] at h; exact h))
      refine z_bipush (v := (-4)) d_MQ_take_38 (by decide) ?_
      refine z_ireturn d_MQ_take_40 rfl ?_ (by decide) (by decide)
      rw [show takI S i = _ from by unfold takI; rw [if_neg hkt, if_pos hne]]
      exact ⟨rfl, own, cap, hm, hc⟩
  · skip
    have hkt := zif1 h22
    refine z_bipush (v := (-3)) d_MQ_take_25 (by decide) ?_
    refine z_ireturn d_MQ_take_27 rfl ?_ (by decide) (by decide)
    rw [show takI S i = _ from by unfold takI; rw [if_pos hkt]]
    exact ⟨rfl, own, cap, hm, hc⟩
set_option maxHeartbeats 4000000 in
set_option maxRecDepth 100000 in
theorem c_MQ_takeB (l : Launch) (g : ZG) (M : ZM) (own : Nat → Nat) (x qarr lt lw : Nat) (qs : List Nat) (S : MS) (cap : Nat) (q : Int32) (hm : MRep M g.2.2.2.1 own x qarr lt lw qs S cap) (hc : cap ≤ 1000) (hq : q < 0 ∨ 32 ≤ q) : ZC vcl tlx GT l g y_MQ_take b_MQ_take 4 (Option.some FieldType.int) (ZRm 11 70 6000) [.ref x, .int q] M (fun r M' => M = M' ∧ r = some (.int (-2))) := by
  refine ZC.of (by decide) (Nat.le_of_ble_eq_true rfl) rfl (fun k hz0 => ?_)
  obtain ⟨⟨hx, hqr, hl, hX, hXq⟩, hQ, hT, hD, hzo⟩ := id hm
  refine z_aload_n d_MQ_take_0 rfl ?_
  refine z_iload_n d_MQ_take_1 rfl ?_
  refine z_callV gt_good d_MQ_take_2 zv_MQ_39 (hx) rfl (fun l => c_MQ_isQueue l g M x qarr lt lw S qs _ hx hqr hl) rfl rfl ⟨Nat.le_of_ble_eq_true rfl, Nat.le_of_ble_eq_true rfl⟩ (Nat.le_of_ble_eq_true rfl) (Nat.le_of_ble_eq_true rfl) (Nat.le_of_ble_eq_true rfl) ?_
  rintro _ _ ⟨rfl, rfl⟩
  rw [if_pos hq]
  refine z_if_ne (tgt := 11) d_MQ_take_5 (by decide) (fun h5 => False.elim (h5 rfl)) (fun h5 => ?_)
  refine z_bipush (v := (-2)) d_MQ_take_8 (by decide) ?_
  refine z_ireturn d_MQ_take_10 rfl ?_ (by decide) (by decide)
  exact ⟨rfl, rfl⟩
end
section
set_option maxHeartbeats 4000000 in
set_option maxRecDepth 100000 in
theorem t_MQ_count (g : ZG) (k : ZK) (M : ZM) (own : Nat → Nat) (x qarr lt lw : Nat) (qs : List Nat) (S : MS) (cap : Nat) (w : Int32) (hm : MRep M g.2.2.2.1 own x qarr lt lw qs S cap) (hc : cap ≤ 1000) (hb : ¬ ¬ (w < 0 ∨ 32 ≤ w)) (hb2 : ¬ (¬ w < 32 ∧ ¬ (w - 32 < 0 ∨ 32 ≤ w - 32))) : ZW vcl tlx GT "MonitorQueues" b_MQ_count 2 (Option.some FieldType.int) "count" (ZRm 11 70 6000) g k (fun r M' => M = M' ∧ r = some (.int (cntF S w))) [some (.ref x), some (.int w)] 51 [] (M) 0 0 := by
  obtain ⟨⟨hx, hqr, hl, hX, hXq⟩, hQ, hT, hD, hzo⟩ := id hm
  obtain ⟨ar1, es1, ⟨⟨mc1, t1⟩, t1r, t1c, t1z⟩, t2, t3, -⟩ := id hT
  obtain ⟨ar2, es2, cp2, ⟨⟨mc2, u1⟩, u1r, u1c, u1z⟩, u2, u3, u4, -⟩ := id hD
  refine z_iload_n d_MQ_count_51 rfl ?_
  by_cases h64 : w = 64
  · rw [h64]
    refine z_tableIn (tgt := 84) d_MQ_count_52 (by decide) (by decide) (show _ = some (32 : Int) from rfl) (by decide) ?_
    refine z_aload_n d_MQ_count_84 rfl ?_
    refine z_callV gt_good d_MQ_count_85 zv_MQ_53 (hx) rfl (fun l => c_MQ_allItems l g M own x qarr lt lw qs S cap hm) rfl rfl ⟨Nat.le_of_ble_eq_true rfl, Nat.le_of_ble_eq_true rfl⟩ (Nat.le_of_ble_eq_true rfl) (Nat.le_of_ble_eq_true rfl) (Nat.le_of_ble_eq_true rfl) ?_
    rintro _ _ ⟨rfl, rfl⟩
    refine z_ireturn d_MQ_count_88 rfl ?_ (by decide) (by decide)
    refine ⟨rfl, ?_⟩
    unfold cntF
    rw [h64] at hb hb2
    rw [if_neg hb, if_neg hb2, if_pos rfl]
  by_cases h65 : w = 65
  · rw [h65]
    refine z_tableIn (tgt := 89) d_MQ_count_52 (by decide) (by decide) (show _ = some (37 : Int) from rfl) (by decide) ?_
    refine z_aload_n d_MQ_count_89 rfl ?_
    refine z_get d_MQ_count_90 zf_MQ_32 (hx) rfl ?_
    refine z_callV gt_good d_MQ_count_93 zv_MQ_151 (t1) rfl (fun l => c_AL_size l g M lt ar1 (nI es1.length) mc1 t1) rfl rfl ⟨Nat.le_of_ble_eq_true rfl, Nat.le_of_ble_eq_true rfl⟩ (Nat.le_of_ble_eq_true rfl) (Nat.le_of_ble_eq_true rfl) (Nat.le_of_ble_eq_true rfl) ?_
    rintro _ _ ⟨rfl, rfl⟩
    refine z_ireturn d_MQ_count_96 rfl ?_ (by decide) (by decide)
    refine ⟨rfl, ?_⟩
    unfold cntF
    rw [h65] at hb hb2
    rw [if_neg hb, if_neg hb2, if_neg (by decide), if_pos rfl, t2]
  by_cases h66 : w = 66
  · rw [h66]
    refine z_tableIn (tgt := 97) d_MQ_count_52 (by decide) (by decide) (show _ = some (45 : Int) from rfl) (by decide) ?_
    refine z_aload_n d_MQ_count_97 rfl ?_
    refine z_get d_MQ_count_98 zf_MQ_144 (hx) rfl ?_
    refine z_ireturn d_MQ_count_101 rfl ?_ (by decide) (by decide)
    refine ⟨rfl, ?_⟩
    unfold cntF
    rw [h66] at hb hb2
    rw [if_neg hb, if_neg hb2, if_neg (by decide), if_neg (by decide), if_pos rfl]
  by_cases h67 : w = 67
  · rw [h67]
    refine z_tableIn (tgt := 102) d_MQ_count_52 (by decide) (by decide) (show _ = some (50 : Int) from rfl) (by decide) ?_
    refine z_aload_n d_MQ_count_102 rfl ?_
    refine z_get d_MQ_count_103 zf_MQ_36 (hx) rfl ?_
    refine z_callV gt_good d_MQ_count_106 zv_MQ_151 (u1) rfl (fun l => c_AL_size l g M lw ar2 (nI es2.length) mc2 u1) rfl rfl ⟨Nat.le_of_ble_eq_true rfl, Nat.le_of_ble_eq_true rfl⟩ (Nat.le_of_ble_eq_true rfl) (Nat.le_of_ble_eq_true rfl) (Nat.le_of_ble_eq_true rfl) ?_
    rintro _ _ ⟨rfl, rfl⟩
    refine z_ireturn d_MQ_count_109 rfl ?_ (by decide) (by decide)
    refine ⟨rfl, ?_⟩
    unfold cntF
    rw [h67] at hb hb2
    rw [if_neg hb, if_neg hb2, if_neg (by decide), if_neg (by decide), if_neg (by decide), if_pos rfl, u3]
  refine z_tableOut (tgt := 110) d_MQ_count_52 ?_ (by decide) ?_
  · rcases Int.lt_or_le w.toInt 64 with q | q
    · exact Or.inl q
    · rcases Int.lt_or_le 67 w.toInt with q2 | q2
      · exact Or.inr q2
      · exfalso
        have e4 : ∀ v : Int32, ¬ w = v → w.toInt ≠ v.toInt := fun v h e => h (Int32.toInt_inj.mp e)
        have g4 := e4 64 h64
        have g5 := e4 65 h65
        have g6 := e4 66 h66
        have g7 := e4 67 h67
        have : (64 : Int32).toInt = 64 := rfl
        have : (65 : Int32).toInt = 65 := rfl
        have : (66 : Int32).toInt = 66 := rfl
        have : (67 : Int32).toInt = 67 := rfl
        omega
  · skip
    refine z_bipush (v := (-2)) d_MQ_count_110 (by decide) ?_
    refine z_ireturn d_MQ_count_112 rfl ?_ (by decide) (by decide)
    refine ⟨rfl, ?_⟩
    unfold cntF
    rw [if_neg hb, if_neg hb2, if_neg h64, if_neg h65, if_neg h66, if_neg h67]
set_option maxHeartbeats 4000000 in
set_option maxRecDepth 100000 in
theorem c_MQ_count (l : Launch) (g : ZG) (M : ZM) (own : Nat → Nat) (x qarr lt lw : Nat) (qs : List Nat) (S : MS) (cap : Nat) (w : Int32) (hm : MRep M g.2.2.2.1 own x qarr lt lw qs S cap) (hc : cap ≤ 1000) : ZC vcl tlx GT l g y_MQ_count b_MQ_count 2 (Option.some FieldType.int) (ZRm 11 70 6000) [.ref x, .int w] M (fun r M' => M = M' ∧ r = some (.int (cntF S w))) := by
  refine ZC.of (by decide) (Nat.le_of_ble_eq_true rfl) rfl (fun k hz0 => ?_)
  obtain ⟨⟨hx, hqr, hl, hX, hXq⟩, hQ, hT, hD, hzo⟩ := id hm
  refine z_aload_n d_MQ_count_0 rfl ?_
  refine z_iload_n d_MQ_count_1 rfl ?_
  refine z_callV gt_good d_MQ_count_2 zv_MQ_39 (hx) rfl (fun l => c_MQ_isQueue l g M x qarr lt lw S qs _ hx hqr hl) rfl rfl ⟨Nat.le_of_ble_eq_true rfl, Nat.le_of_ble_eq_true rfl⟩ (Nat.le_of_ble_eq_true rfl) (Nat.le_of_ble_eq_true rfl) (Nat.le_of_ble_eq_true rfl) ?_
  rintro _ _ ⟨rfl, rfl⟩
  refine z_if_eq (tgt := 21) d_MQ_count_5 (by decide) (fun h5 => ?_) (fun h5 => ?_)
  · skip
    have hb := not_not_intro (zift h5)
    refine z_iload_n d_MQ_count_21 rfl ?_
    refine z_bipush (v := 32) d_MQ_count_22 (by decide) ?_
    refine z_icmp_lt (tgt := 51) d_MQ_count_24 (by decide) (fun h24 => ?_) (fun h24 => ?_)
    · skip
      have hb2 : ¬ (¬ w < 32 ∧ ¬ (w - 32 < 0 ∨ 32 ≤ w - 32)) := fun h => h.1 h24
      exact t_MQ_count g k M own x qarr lt lw qs S cap w hm hc hb hb2
    · skip
      refine z_aload_n d_MQ_count_27 rfl ?_
      refine z_iload_n d_MQ_count_28 rfl ?_
      refine z_bipush (v := 32) d_MQ_count_29 (by decide) ?_
      refine z_isub d_MQ_count_31 ?_
      refine z_callV gt_good d_MQ_count_32 zv_MQ_39 (hx) rfl (fun l => c_MQ_isQueue l g M x qarr lt lw S qs _ hx hqr hl) rfl rfl ⟨Nat.le_of_ble_eq_true rfl, Nat.le_of_ble_eq_true rfl⟩ (Nat.le_of_ble_eq_true rfl) (Nat.le_of_ble_eq_true rfl) (Nat.le_of_ble_eq_true rfl) ?_
      rintro _ _ ⟨rfl, rfl⟩
      refine z_if_eq (tgt := 51) d_MQ_count_35 (by decide) (fun h35 => ?_) (fun h35 => ?_)
      · skip
        have hb2 : ¬ (¬ w < 32 ∧ ¬ (w - 32 < 0 ∨ 32 ≤ w - 32)) := fun h => h.2 (zift h35)
        exact t_MQ_count g k M own x qarr lt lw qs S cap w hm hc hb hb2
      · skip
        have hb2 : ¬ w < 32 ∧ ¬ (w - 32 < 0 ∨ 32 ≤ w - 32) := ⟨h24, zifn h35⟩
        obtain ⟨i, hi, hiw⟩ := zidx hb2.2
        obtain ⟨qa, hqa⟩ : ∃ qa, qs[i]? = some qa := ⟨qs[i], List.getElem?_eq_getElem (by omega)⟩
        have hv : (qs.map Value.ref)[i]? = some (.ref qa) := by rw [List.getElem?_map, hqa]; rfl
        obtain ⟨la, pa, arr, es, cp, tr, hqx⟩ := hQ i qa hqa
        obtain ⟨q1, ⟨⟨mc, q2⟩, q2r, q2c, q2z⟩, q2b, ⟨q3, q3e, q3n⟩, q4, q5, q6, q7, q8, q9, q10, q11⟩ := id hqx
        refine z_aload_n d_MQ_count_38 rfl ?_
        refine z_get d_MQ_count_39 zf_MQ_24 (hx) rfl ?_
        refine z_iload_n d_MQ_count_42 rfl ?_
        refine z_bipush (v := 32) d_MQ_count_43 (by decide) ?_
        refine z_isub d_MQ_count_45 ?_
        rw [hiw]
        refine z_aald d_MQ_count_46 hqr rfl rfl (by omega) hv ?_
        refine z_get d_MQ_count_47 zf_MQ_185 (q1) rfl ?_
        refine z_ireturn d_MQ_count_50 rfl ?_ (by decide) (by decide)
        refine ⟨rfl, ?_⟩
        unfold cntF
        rw [if_neg hb, if_pos hb2, hiw, nI_clamp (by omega)]
  · skip
    have hb := zifn h5
    obtain ⟨i, hi, hiw⟩ := zidx hb
    subst hiw
    obtain ⟨qa, hqa⟩ : ∃ qa, qs[i]? = some qa := ⟨qs[i], List.getElem?_eq_getElem (by omega)⟩
    have hv : (qs.map Value.ref)[i]? = some (.ref qa) := by rw [List.getElem?_map, hqa]; rfl
    obtain ⟨la, pa, arr, es, cp, tr, hqx⟩ := hQ i qa hqa
    obtain ⟨q1, ⟨⟨mc, q2⟩, q2r, q2c, q2z⟩, q2b, ⟨q3, q3e, q3n⟩, q4, q5, q6, q7, q8, q9, q10, q11⟩ := id hqx
    refine z_aload_n d_MQ_count_8 rfl ?_
    refine z_get d_MQ_count_9 zf_MQ_24 (hx) rfl ?_
    refine z_iload_n d_MQ_count_12 rfl ?_
    refine z_aald d_MQ_count_13 hqr rfl rfl (by omega) hv ?_
    refine z_get d_MQ_count_14 zf_MQ_87 (q1) rfl ?_
    refine z_callV gt_good d_MQ_count_17 zv_MQ_151 (q2) rfl (fun l => c_AL_size l g M la arr (nI es.length) mc q2) rfl rfl ⟨Nat.le_of_ble_eq_true rfl, Nat.le_of_ble_eq_true rfl⟩ (Nat.le_of_ble_eq_true rfl) (Nat.le_of_ble_eq_true rfl) (Nat.le_of_ble_eq_true rfl) ?_
    rintro _ _ ⟨rfl, rfl⟩
    refine z_ireturn d_MQ_count_20 rfl ?_ (by decide) (by decide)
    refine ⟨rfl, ?_⟩
    unfold cntF
    rw [if_pos hb, nI_clamp (by omega), q3]
end
section
theorem zset_dom {M : ZM} {a y : Nat} {e : ZE} (h : M y ≠ none) : zset M a e y ≠ none := fun q => h (zset_none q)
/-- tasks, delays and the object's own numbers change; the queues stay -/
theorem MRep.updTD {M M' : ZM} {own own' : Nat → Nat} {z x qarr lt lw cap cap' : Nat} {qs : List Nat} {S S' : MS} (hm : MRep M z own x qarr lt lw qs S cap) (ho : ∀ y, M y ≠ none → own' y = own y) (hz0 : M z ≠ none) (hx : M' x = some (.inr (0, fM qarr lt lw S'))) (hS : S'.2.1 = S.2.1) (hT : TaR M' z own' lt S'.2.2.1 cap') (hD : DeR M' z own' lw S'.2.2.2.2.1) (fr : ∀ y, M y ≠ none → y ≠ x → own y ≠ 32 → own y ≠ 33 → M' y = M y) : MRep M' z own' x qarr lt lw qs S' cap' := by
  obtain ⟨⟨m1, m2, m3, m4, m5⟩, hqs, -, -, hz⟩ := hm
  have hxq : x ≠ qarr := zne m1 m2 (by intro h; cases h)
  have hmz : M' z = M z := fr z hz0 (fun e => by rw [e, m4] at hz; omega) (by omega) (by omega)
  refine ⟨⟨hx, by rw [fr qarr (by rw [m2]; simp) (Ne.symm hxq) (by omega) (by omega)]; exact m2, m3, by rw [ho x (by rw [m1]; simp)]; exact m4, by rw [ho qarr (by rw [m2]; simp)]; exact m5⟩, fun j qb hj => ?_, hT, hD, by rw [ho z hz0]; exact hz⟩
  rw [hS]
  have hj32 : j < 32 := by rw [← m3]; exact (List.getElem?_eq_some_iff.mp hj).1
  exact (hqs j qb hj).fr (fun y hy hyo => ⟨fr y hy (fun e => by rw [e, m4] at hyo; omega) (by omega) (by omega), by rw [ho y hy]; exact hyo⟩) hmz
/-- a task's cell changes -/
theorem TaR.set {M : ZM} {own : Nat → Nat} {z lt cap j e : Nat} {ts : List (Int32 × Int32)} {es : List Nat} {arr : Nat} {w : Int32 × Int32} (hl : ALr M z lt arr es cap) (h4 : es.length = ts.length) (h5 : ∀ (j e : Nat), es[j]? = some e → ∃ x : Int32 × Int32, ts[j]? = some x ∧ M e = some (.inr (3, [.int x.1, .int x.2])) ∧ own e = 32) (h6 : es.Nodup) (o1 : own lt = 32) (o2 : arr ≠ z → own arr = 32) (he : es[j]? = some e) : TaR (zset M e (.inr (3, [.int w.1, .int w.2]))) z own lt (ts.set j w) cap := by
  obtain ⟨⟨mc, hla⟩, hr, -⟩ := id hl
  obtain ⟨x0, y1, y2, y3⟩ := h5 j e he
  refine ⟨arr, es, hl.kept (zset_ne (zne hla y2 (by simp))) (zset_ne (zne hr y2 (by intro h; cases h))), by rw [List.length_set]; exact h4, ?_, h6, o1, o2⟩
  intro j' e' hj'
  obtain ⟨x, e1, e2, e3⟩ := h5 j' e' hj'
  by_cases hjj : j' = j
  · subst hjj
    rw [he] at hj'
    cases hj'
    exact ⟨w, by rw [List.getElem?_set_self (List.getElem?_eq_some_iff.mp e1).1], by rw [zset_self], e3⟩
  · have hee : e' ≠ e := by
      intro hee
      rw [hee] at hj'
      exact hjj ((List.getElem?_inj (List.getElem?_eq_some_iff.mp hj').1 h6).mp (hj'.trans he.symm))
    exact ⟨x, by rw [List.getElem?_set_ne (Ne.symm hjj)]; exact e1, by rw [zset_ne hee]; exact e2, e3⟩
/-- end: the first trigger whose task ended -/
abbrev agC (S : MS) (i : Nat) (t : TS) : Prop := t.2.2.2.2 = 0 ∧ 0 < (S.2.1 i).2.1.length - (S.2.1 i).2.2.1
def agT (S : MS) (i : Nat) (t : TS) : Int32 × MS :=
  if agC S i t then (nI (S.2.2.1.length + 1), addT S (va_up S.2.1 i (setTr (S.2.1 i) (some (t.1, t.2.1, t.2.2.1, nI (S.2.2.1.length + 1), 0)))) (some t.2.1))
  else (0, (S.1, va_up S.2.1 i (setTr (S.2.1 i) (some (t.1, t.2.1, t.2.2.1, 0, t.2.2.2.2))), S.2.2))
def agN (S : MS) (e : Int32) : Nat → Int32 × MS
  | 0 => (0, S)
  | d + 1 => match (S.2.1 (31 - d)).2.2.2.2.2.2.2.2.1 with
    | none => agN S e d
    | some t => if t.2.2.2.1 = e then agT S (31 - d) t else agN S e d
def endS (S : MS) (j : Nat) : MS := (S.1, S.2.1, S.2.2.1.set j (((S.2.2.1[j]?).getD (0, 0)).1, 0), S.2.2.2.1 - 1, S.2.2.2.2)
def endI (S : MS) (t : Int32) : Int32 × MS :=
  if t < 1 ∨ nI S.2.2.1.length < t then (-4, S) else if ((S.2.2.1[(t - 1).toNatClampNeg]?).getD (0, 0)).2 = 0 then (-4, S)
  else ((agN (endS S (t - 1).toNatClampNeg) t 32).1, lookN (agN (endS S (t - 1).toNatClampNeg) t 32).2 32)
end
section
set_option maxHeartbeats 4000000 in
set_option maxRecDepth 100000 in
theorem lp_MQ_beginAgain (g : ZG) (k : ZK) (post : Option Value → ZM → Prop) (M : ZM) (own : Nat → Nat) (x qarr lt lw : Nat) (qs : List Nat) (S : MS) (cap : Nat) (e : Int32) (hm : MRep M g.2.2.2.1 own x qarr lt lw qs S cap) (hc : cap ≤ 1000) (hz0 : M g.2.2.2.1 = some (.inl (0, []))) (hb : S.2.2.1.length ≤ 600) (hp : ∀ (M1 : ZM) (own1 : Nat → Nat) (cap1 : Nat), MRep M1 g.2.2.2.1 own1 x qarr lt lw qs (agN S e 32).2 cap1 → cap1 ≤ 1000 → post (some (.int (agN S e 32).1)) M1) : ∀ (d i : Nat) (lo lo2 : Option Value), i + d = 32 → agN S e 32 = agN S e d → ZW vcl tlx GT "MonitorQueues" b_MQ_beginAgain 5 (Option.some FieldType.int) "beginAgain" (ZRm 9 2 1002) g k post [some (.ref x), some (.int e), some (.int (nI i)), lo, lo2] 2 [] (M) 0 0 := by
  obtain ⟨⟨hx, hqr, hl, hX, hXq⟩, hQ, hT, hD, hzo⟩ := id hm
  intro d
  induction d with
  | zero =>
    intro i lo lo2 hi ha
    obtain rfl : i = 32 := by omega
    refine z_iload_n d_MQ_beginAgain_2 rfl ?_
    refine z_aload_n d_MQ_beginAgain_3 rfl ?_
    refine z_get d_MQ_beginAgain_4 zf_MQ_24 (hx) rfl ?_
    refine z_alen d_MQ_beginAgain_7 (hqr) rfl ?_
    rw [show nI (List.map Value.ref qs).length = nI 32 by rw [List.length_map, hl]]
    refine z_icmp_ge (tgt := 85) d_MQ_beginAgain_8 (by decide) (fun h8 => ?_) (fun h8 => False.elim (h8 (nI_le (Nat.le_refl _) (by decide))))
    refine z_iconst (v := 0) d_MQ_beginAgain_85 (by decide) ?_
    refine z_ireturn d_MQ_beginAgain_86 rfl ?_ (by decide) (by decide)
    have hp0 := hp M own cap (by rw [ha]; exact hm) hc
    rw [ha] at hp0
    exact hp0
  | succ d ih =>
    intro i lo lo2 hi ha
    have hid : 31 - d = i := by omega
    obtain ⟨qa, hqa⟩ : ∃ qa, qs[i]? = some qa := ⟨qs[i], List.getElem?_eq_getElem (by omega)⟩
    have hv : (qs.map Value.ref)[i]? = some (.ref qa) := by rw [List.getElem?_map, hqa]; rfl
    obtain ⟨la, pa, arr, es, cp, tr, hqx⟩ := hQ i qa hqa
    obtain ⟨q1, ⟨⟨mc, q2⟩, q2r, q2c, q2z⟩, q2b, ⟨q3, q3e, q3n⟩, q4, q5, q6, q7, q8, q9, q10, q11⟩ := id hqx
    cases htr : (S.2.1 i).2.2.2.2.2.2.2.2.1 with
    | none =>
      rw [htr] at q7
      have q7 : tr = .null := q7
      subst q7
      have hsm : agN S e (d + 1) = agN S e d := by
        show (match (S.2.1 (31 - d)).2.2.2.2.2.2.2.2.1 with | none => _ | some t => _) = _
        rw [hid, htr]
      refine z_iload_n d_MQ_beginAgain_2 rfl ?_
      refine z_aload_n d_MQ_beginAgain_3 rfl ?_
      refine z_get d_MQ_beginAgain_4 zf_MQ_24 (hx) rfl ?_
      refine z_alen d_MQ_beginAgain_7 (hqr) rfl ?_
      rw [show nI (List.map Value.ref qs).length = nI 32 by rw [List.length_map, hl]]
      refine z_icmp_ge (tgt := 85) d_MQ_beginAgain_8 (by decide) (fun h8 => False.elim (nI_ge (show i < 32 by omega) (by decide) h8)) (fun h8 => ?_)
      refine z_aload_n d_MQ_beginAgain_11 rfl ?_
      refine z_get d_MQ_beginAgain_12 zf_MQ_24 (hx) rfl ?_
      refine z_iload_n d_MQ_beginAgain_15 rfl ?_
      refine z_aald d_MQ_beginAgain_16 hqr rfl rfl (by omega) hv ?_
      refine z_get d_MQ_beginAgain_17 zf_MQ_128 (q1) rfl ?_
      refine z_astore_nN (i := 3) d_MQ_beginAgain_20 rfl (by decide) rfl ?_
      refine z_aload_nN d_MQ_beginAgain_21 rfl ?_
      refine z_ifnullN (tgt := 79) d_MQ_beginAgain_22 (by decide) ?_
      refine z_iinc (v := nI (i + 1)) d_MQ_beginAgain_79 rfl (nI_1 i) (by decide) rfl ?_
      refine z_goto (tgt := 2) d_MQ_beginAgain_82 (by decide) ?_
      exact ih (i + 1) _ _ (by omega) (ha.trans hsm)
    | some t =>
      rw [htr] at q7
      obtain ⟨ta, hte, hto, hta⟩ := q7
      subst hte
      have hxta : ta ≠ x := zne hta hx (by simp)
      have hcap := hT.len
      have hok := capA_ok (n := S.2.2.1.length) (cap := cap) (by omega) hc hcap
      refine z_iload_n d_MQ_beginAgain_2 rfl ?_
      refine z_aload_n d_MQ_beginAgain_3 rfl ?_
      refine z_get d_MQ_beginAgain_4 zf_MQ_24 (hx) rfl ?_
      refine z_alen d_MQ_beginAgain_7 (hqr) rfl ?_
      rw [show nI (List.map Value.ref qs).length = nI 32 by rw [List.length_map, hl]]
      refine z_icmp_ge (tgt := 85) d_MQ_beginAgain_8 (by decide) (fun h8 => False.elim (nI_ge (show i < 32 by omega) (by decide) h8)) (fun h8 => ?_)
      refine z_aload_n d_MQ_beginAgain_11 rfl ?_
      refine z_get d_MQ_beginAgain_12 zf_MQ_24 (hx) rfl ?_
      refine z_iload_n d_MQ_beginAgain_15 rfl ?_
      refine z_aald d_MQ_beginAgain_16 hqr rfl rfl (by omega) hv ?_
      refine z_get d_MQ_beginAgain_17 zf_MQ_128 (q1) rfl ?_
      refine z_astore_n (i := 3) d_MQ_beginAgain_20 rfl (by decide) rfl ?_
      refine z_aload_n d_MQ_beginAgain_21 rfl ?_
      refine z_ifnull d_MQ_beginAgain_22 ?_
      refine z_aload_n d_MQ_beginAgain_25 rfl ?_
      refine z_get d_MQ_beginAgain_26 zf_MQ_199 (hta) rfl ?_
      refine z_iload_n d_MQ_beginAgain_29 rfl ?_
      refine z_icmp_ne (tgt := 79) d_MQ_beginAgain_30 (by decide) (fun h30 => ?_) (fun h30 => ?_)
      · skip
        have hsm : agN S e (d + 1) = agN S e d := by
          show (match (S.2.1 (31 - d)).2.2.2.2.2.2.2.2.1 with | none => _ | some t => _) = _
          rw [hid, htr]
          exact if_neg h30
        refine z_iinc (v := nI (i + 1)) d_MQ_beginAgain_79 rfl (nI_1 i) (by decide) rfl ?_
        refine z_goto (tgt := 2) d_MQ_beginAgain_82 (by decide) ?_
        exact ih (i + 1) _ _ (by omega) (ha.trans hsm)
      · skip
        have h30 : t.2.2.2.1 = e := h30
        have hag : agN S e 32 = agT S i t := by
          rw [ha]
          show (match (S.2.1 (31 - d)).2.2.2.2.2.2.2.2.1 with | none => _ | some t => _) = _
          rw [hid, htr]
          exact if_pos h30
        have hx1 : (zset M ta (.inr (4, fT (t.1, t.2.1, t.2.2.1, 0, t.2.2.2.2)))) x = some (.inr (0, fM qarr lt lw S)) := by rw [zset_ne (Ne.symm hxta)]; exact hx
        refine z_aload_n d_MQ_beginAgain_33 rfl ?_
        refine z_iconst (v := 0) d_MQ_beginAgain_34 (by decide) ?_
        refine z_put d_MQ_beginAgain_35 zp_MQ_199 (hta) rfl rfl ?_
        refine z_aload_n d_MQ_beginAgain_38 rfl ?_
        refine z_get d_MQ_beginAgain_39 zf_MQ_202 (zset_self _ _ _) rfl ?_
        refine z_if_ne (tgt := 61) d_MQ_beginAgain_42 (by decide) (fun h42 => ?_) (fun h42 => ?_)
        · skip
          have hagc : ¬ agC S i t := fun h => h42 h.1
          refine z_iconst (v := 0) d_MQ_beginAgain_61 (by decide) ?_
          refine z_istore d_MQ_beginAgain_62 (by decide) rfl ?_
          refine z_iload d_MQ_beginAgain_64 rfl ?_
          refine z_if_eq (tgt := 77) d_MQ_beginAgain_66 (by decide) (fun h66 => ?_) (fun h66 => False.elim (h66 rfl))
          refine z_iconst (v := 0) d_MQ_beginAgain_77 (by decide) ?_
          refine z_ireturn d_MQ_beginAgain_78 rfl ?_ (by decide) (by decide)
          have hr2 : QRep (zset M ta (.inr (4, fT (t.1, t.2.1, t.2.2.1, 0, t.2.2.2.2)))) g.2.2.2.1 (ow M own i) i qa (setTr (S.2.1 i) (some (t.1, t.2.1, t.2.2.1, 0, t.2.2.2.2))) := ⟨la, pa, arr, es, cp, .ref ta, hqx.trig hta (fun y y1 y2 y3 => ⟨zset_ne y3, by rw [ow_old y1]; exact y2⟩) (zset_ne (zne hz0 hta (by intro h; cases h))) (by rw [ow_old (by rw [hta]; simp)]; exact hto) (zset_self _ _ _)⟩
          have hm2 := hm.updQ hqa (by rw [hz0]; simp) (fun y y1 y2 => zset_ne (fun w => y2 (by rw [w]; exact hto))) hr2
          have hp0 := hp _ _ cap (by rw [hag]; unfold agT; rw [if_neg hagc]; exact hm2) hc
          rw [hag] at hp0
          unfold agT at hp0
          rw [if_neg hagc] at hp0
          exact hp0
        · skip
          refine z_aload_n d_MQ_beginAgain_45 rfl ?_
          refine z_get d_MQ_beginAgain_46 zf_MQ_24 (hx1) rfl ?_
          refine z_iload_n d_MQ_beginAgain_49 rfl ?_
          refine z_aald d_MQ_beginAgain_50 (by rw [zset_ne (zne hqr hta (by intro h; cases h))]; exact hqr) rfl rfl (by omega) hv ?_
          refine z_callV gt_good d_MQ_beginAgain_51 zv_MQ_117 (by rw [zset_ne (zne q1 hta (by simp))]; exact q1) rfl (fun l => c_Qu_standing l g _ qa la pa _ _ _ _ _ _ _ _ arr (nI es.length) mc (by rw [zset_ne (zne q1 hta (by simp))]; exact q1) (by rw [zset_ne (zne q2 hta (by simp))]; exact q2)) rfl rfl ⟨Nat.le_of_ble_eq_true rfl, Nat.le_of_ble_eq_true rfl⟩ (Nat.le_of_ble_eq_true rfl) (Nat.le_of_ble_eq_true rfl) (Nat.le_of_ble_eq_true rfl) ?_
          rintro _ _ ⟨rfl, rfl⟩
          rw [q3, pk_sub q6]
          refine z_if_le (tgt := 61) d_MQ_beginAgain_54 (by decide) (fun h54 => ?_) (fun h54 => ?_)
          · skip
            have hagc : ¬ agC S i t := fun h => nI_nle h.2 (by omega) h54
            refine z_iconst (v := 0) d_MQ_beginAgain_61 (by decide) ?_
            refine z_istore d_MQ_beginAgain_62 (by decide) rfl ?_
            refine z_iload d_MQ_beginAgain_64 rfl ?_
            refine z_if_eq (tgt := 77) d_MQ_beginAgain_66 (by decide) (fun h66 => ?_) (fun h66 => False.elim (h66 rfl))
            refine z_iconst (v := 0) d_MQ_beginAgain_77 (by decide) ?_
            refine z_ireturn d_MQ_beginAgain_78 rfl ?_ (by decide) (by decide)
            have hr2 : QRep (zset M ta (.inr (4, fT (t.1, t.2.1, t.2.2.1, 0, t.2.2.2.2)))) g.2.2.2.1 (ow M own i) i qa (setTr (S.2.1 i) (some (t.1, t.2.1, t.2.2.1, 0, t.2.2.2.2))) := ⟨la, pa, arr, es, cp, .ref ta, hqx.trig hta (fun y y1 y2 y3 => ⟨zset_ne y3, by rw [ow_old y1]; exact y2⟩) (zset_ne (zne hz0 hta (by intro h; cases h))) (by rw [ow_old (by rw [hta]; simp)]; exact hto) (zset_self _ _ _)⟩
            have hm2 := hm.updQ hqa (by rw [hz0]; simp) (fun y y1 y2 => zset_ne (fun w => y2 (by rw [w]; exact hto))) hr2
            have hp0 := hp _ _ cap (by rw [hag]; unfold agT; rw [if_neg hagc]; exact hm2) hc
            rw [hag] at hp0
            unfold agT at hp0
            rw [if_neg hagc] at hp0
            exact hp0
          · skip
            have hagc : agC S i t := ⟨h42, by
              rcases Nat.eq_zero_or_pos ((S.2.1 i).2.1.length - (S.2.1 i).2.2.1) with q | q
              · exact absurd (by rw [q]; exact (by decide : nI 0 ≤ 0)) h54
              · exact q⟩
            refine z_iconst (v := 1) d_MQ_beginAgain_57 (by decide) ?_
            refine z_goto (tgt := 62) d_MQ_beginAgain_58 (by decide) ?_
            refine z_istore d_MQ_beginAgain_62 (by decide) rfl ?_
            refine z_iload d_MQ_beginAgain_64 rfl ?_
            refine z_if_eq (tgt := 77) d_MQ_beginAgain_66 (by decide) (fun h66 => False.elim (absurd h66 (by decide))) (fun h66 => ?_)
            refine z_aload_n d_MQ_beginAgain_69 rfl ?_
            refine z_aload_n d_MQ_beginAgain_70 rfl ?_
            refine z_callV gt_good d_MQ_beginAgain_71 zv_MQ_215 (hx1) rfl (fun l => c_MQ_beginFor l g _ own x qarr lt lw S cap ta (t.1, t.2.1, t.2.2.1, 0, t.2.2.2.2) hx1 hX (hT.fr (fun y y1 y2 => ⟨zset_ne (fun w => by rw [w, hto] at y2; omega), y2⟩) (zset_ne (zne hz0 hta (by intro h; cases h)))) (by omega) (zset_self _ _ _) (by omega)) rfl rfl ⟨Nat.le_of_ble_eq_true rfl, Nat.le_of_ble_eq_true rfl⟩ (Nat.le_of_ble_eq_true rfl) (by dsimp only [ZRm]; (repeat' split) <;> omega) (by dsimp only [ZRm]; (repeat' split) <;> omega) ?_
            rintro _ M2 ⟨rfl, e1, e2, e3, e4⟩
            refine z_goto (tgt := 78) d_MQ_beginAgain_74 (by decide) ?_
            refine z_ireturn d_MQ_beginAgain_78 rfl ?_ (by dsimp only [ZRm]; (repeat' split) <;> omega) (by dsimp only [ZRm]; (repeat' split) <;> omega)
            have hp0 := hp _ (ow (zset M ta (.inr (4, fT (t.1, t.2.1, t.2.2.1, 0, t.2.2.2.2)))) own 32) (capA S.2.2.1.length cap) (by
                rw [hag]
                unfold agT
                rw [if_pos hagc]
                refine hm.upd hqa (fun y hy => ow_old (zset_dom hy)) (by rw [hz0]; simp) e2 rfl ⟨la, pa, arr, es, cp, .ref ta, hqx.trig hta (fun y y1 y2 y3 => ⟨by rw [e4 y (zset_dom y1) (fun w => by rw [w, hX] at y2; omega) y3 (by omega), zset_ne y3], by rw [ow_old (zset_dom y1)]; exact y2⟩) (by rw [e4 _ (zset_dom (by rw [hz0]; simp)) (fun w => by rw [w, hX] at hzo; omega) (fun w => by rw [w, hto] at hzo; omega) (by omega), zset_ne (zne hz0 hta (by intro h; cases h))]) (by rw [ow_old (zset_dom (by rw [hta]; simp))]; exact hto) e1⟩ e3 rfl (fun y y1 y2 y3 y4 => by rw [e4 y (zset_dom y1) y2 (fun w => y3 (by rw [w]; exact hto)) y4, zset_ne (fun w => y3 (by rw [w]; exact hto))])) hok
            rw [hag] at hp0
            unfold agT at hp0
            rw [if_pos hagc] at hp0
            exact hp0
set_option maxHeartbeats 4000000 in
set_option maxRecDepth 100000 in
theorem c_MQ_beginAgain (l : Launch) (g : ZG) (M : ZM) (own : Nat → Nat) (x qarr lt lw : Nat) (qs : List Nat) (S : MS) (cap : Nat) (e : Int32) (hm : MRep M g.2.2.2.1 own x qarr lt lw qs S cap) (hc : cap ≤ 1000) (hb : S.2.2.1.length ≤ 600) : ZC vcl tlx GT l g y_MQ_beginAgain b_MQ_beginAgain 5 (Option.some FieldType.int) (ZRm 9 2 1002) [.ref x, .int e] M (fun r M' => r = some (.int (agN S e 32).1) ∧ ∃ (own' : Nat → Nat) (cap' : Nat), MRep M' g.2.2.2.1 own' x qarr lt lw qs (agN S e 32).2 cap' ∧ cap' ≤ 1000) := by
  refine ZC.of (by decide) (Nat.le_of_ble_eq_true rfl) rfl (fun k hz0 => ?_)
  refine z_iconst (v := 0) d_MQ_beginAgain_0 (by decide) ?_
  refine z_istore_n (i := 2) d_MQ_beginAgain_1 rfl (by decide) rfl ?_
  exact lp_MQ_beginAgain g k _ M own x qarr lt lw qs S cap e hm hc hz0 hb (fun M1 o1 c1 h1 h2 => ⟨rfl, o1, c1, h1, h2⟩) 32 0 _ _ rfl rfl
end
section
set_option maxHeartbeats 4000000 in
set_option maxRecDepth 100000 in
theorem c_MQ_end (l : Launch) (g : ZG) (M : ZM) (own : Nat → Nat) (x qarr lt lw : Nat) (qs : List Nat) (S : MS) (cap : Nat) (t : Int32) (hm : MRep M g.2.2.2.1 own x qarr lt lw qs S cap) (hc : cap ≤ 1000) (hlen : S.2.2.1.length ≤ 600) (hbd : (lookN (agN (endS S (t - 1).toNatClampNeg) t 32).2 32).2.2.1.length ≤ 600) : ZC vcl tlx GT l g y_MQ_end b_MQ_end 4 (Option.some FieldType.int) (ZRm 11 70 6000) [.ref x, .int t] M (fun r M' => r = some (.int (endI S t).1) ∧ ∃ (own' : Nat → Nat) (cap' : Nat), MRep M' g.2.2.2.1 own' x qarr lt lw qs (endI S t).2 cap' ∧ cap' ≤ 1000) := by
  refine ZC.of (by decide) (Nat.le_of_ble_eq_true rfl) rfl (fun k hz0 => ?_)
  obtain ⟨⟨hx, hqr, hl, hX, hXq⟩, hQ, hT, hD, hzo⟩ := id hm
  obtain ⟨arr, es, t1, t2, t3, t4, t5, t6⟩ := id hT
  obtain ⟨⟨mc, u2⟩, u2r, u2c, u2z⟩ := id t1
  refine z_aload_n d_MQ_end_0 rfl ?_
  refine z_iload_n d_MQ_end_1 rfl ?_
  refine z_callV gt_good d_MQ_end_2 zv_MQ_132 (hx) rfl (fun l => c_MQ_isTask l g M x qarr lt lw S arr (nI es.length) mc t hx u2) rfl rfl ⟨Nat.le_of_ble_eq_true rfl, Nat.le_of_ble_eq_true rfl⟩ (Nat.le_of_ble_eq_true rfl) (Nat.le_of_ble_eq_true rfl) (Nat.le_of_ble_eq_true rfl) ?_
  rintro _ _ ⟨rfl, rfl⟩
  refine z_if_ne (tgt := 11) d_MQ_end_5 (by decide) (fun h5 => ?_) (fun h5 => ?_)
  · skip
    have hb := zifn h5
    rw [t2] at hb
    obtain ⟨j, hj1, hj2, hj3, hj4⟩ := zpos (by omega) hb
    obtain ⟨e, he⟩ : ∃ e, es[j]? = some e := ⟨es[j]'(by omega), List.getElem?_eq_getElem (by omega)⟩
    obtain ⟨y, k1, k2, k3⟩ := t3 j e he
    refine z_aload_n d_MQ_end_11 rfl ?_
    refine z_get d_MQ_end_12 zf_MQ_32 (hx) rfl ?_
    refine z_iload_n d_MQ_end_15 rfl ?_
    refine z_iconst (v := 1) d_MQ_end_16 (by decide) ?_
    refine z_isub d_MQ_end_17 ?_
    rw [hj3]
    refine z_callV gt_good d_MQ_end_18 zv_MQ_90 (u2) rfl (fun l => c_AL_get l g M lt arr es.length mc _ j e u2 u2r (by omega) (by omega) (al_get he)) rfl rfl ⟨Nat.le_of_ble_eq_true rfl, Nat.le_of_ble_eq_true rfl⟩ (Nat.le_of_ble_eq_true rfl) (Nat.le_of_ble_eq_true rfl) (Nat.le_of_ble_eq_true rfl) ?_
    rintro _ _ ⟨rfl, rfl⟩
    refine z_cast (ci := 3) d_MQ_end_21 gw_294 k2 rfl rfl ?_
    refine z_astore_n (i := 2) d_MQ_end_24 rfl (by decide) rfl ?_
    refine z_aload_n d_MQ_end_25 rfl ?_
    refine z_get d_MQ_end_26 zf_MQ_140 (k2) rfl ?_
    refine z_if_ne (tgt := 35) d_MQ_end_29 (by decide) (fun h29 => ?_) (fun h29 => ?_)
    · skip
      have hgo : ¬ ((S.2.2.1[(t - 1).toNatClampNeg]?).getD (0, 0)).2 = 0 := by rw [hj4, k1]; exact h29
      refine z_aload_n d_MQ_end_35 rfl ?_
      refine z_iconst (v := 0) d_MQ_end_36 (by decide) ?_
      refine z_put d_MQ_end_37 zp_MQ_140 (k2) rfl rfl ?_
      refine z_aload_n d_MQ_end_40 rfl ?_
      refine z_dup d_MQ_end_41 rfl ?_
      refine z_get d_MQ_end_42 zf_MQ_144 (by rw [zset_ne (zne hx k2 (by simp))]; exact hx) rfl ?_
      refine z_iconst (v := 1) d_MQ_end_45 (by decide) ?_
      refine z_isub d_MQ_end_46 ?_
      refine z_put d_MQ_end_47 zp_MQ_144 (by rw [zset_ne (zne hx k2 (by simp))]; exact hx) rfl rfl ?_
      refine z_aload_n d_MQ_end_50 rfl ?_
      refine z_iload_n d_MQ_end_51 rfl ?_
      have hxe : x ≠ e := zne hx k2 (by simp)
      have hy : S.2.2.1[j]?.getD (0, 0) = y := by rw [k1]; rfl
      have hm1 : MRep (zset (zset M e (.inr (3, [.int y.1, .int 0]))) x (.inr (0, fM qarr lt lw (endS S j)))) g.2.2.2.1 own x qarr lt lw qs (endS S j) cap := by
        refine hm.updTD (fun _ _ => rfl) (by rw [hz0]; simp) (zset_self _ _ _) rfl ?_ (hD.fr (fun w w1 w2 => ⟨by rw [zset_ne (fun q => by rw [q, hX] at w2; omega), zset_ne (fun q => by rw [q, k3] at w2; omega)], w2⟩) (by rw [zset_ne (zne hz0 hx (by intro h; cases h)), zset_ne (zne hz0 k2 (by intro h; cases h))])) (fun w w1 w2 w3 w4 => by rw [zset_ne w2, zset_ne (fun q => by rw [q, k3] at w3; omega)])
        have hh := (TaR.set (w := (y.1, 0)) t1 t2 t3 t4 t5 t6 he).fr (M' := zset (zset M e (.inr (3, [.int y.1, .int 0]))) x (.inr (0, fM qarr lt lw (endS S j)))) (own' := own) (fun w w1 w2 => ⟨zset_ne (fun q => by rw [q, hX] at w2; omega), w2⟩) (zset_ne (zne hz0 hx (by intro h; cases h)))
        unfold endS
        rw [hy]
        exact hh
      refine z_callV gt_good d_MQ_end_52 zv_MQ_147 (hm1.1.1) rfl (fun l => c_MQ_beginAgain l g (zset (zset M e (.inr (3, [.int y.1, .int 0]))) x (.inr (0, fM qarr lt lw (endS S j)))) own x qarr lt lw qs (endS S j) cap t hm1 hc (by unfold endS; rw [List.length_set]; exact hlen)) rfl rfl ⟨Nat.le_of_ble_eq_true rfl, Nat.le_of_ble_eq_true rfl⟩ (Nat.le_of_ble_eq_true rfl) (by first | (dsimp only [ZRm]; omega) | (dsimp only [ZRm, List.length]; omega) | (simp [ZRm]; done)) (by first | (dsimp only [ZRm]; omega) | (dsimp only [ZRm, List.length]; omega) | (simp [ZRm]; done)) ?_
      rintro _ M3 ⟨rfl, own3, cap3, hm3, hc3⟩
      refine z_istore_n (i := 3) d_MQ_end_55 rfl (by decide) rfl ?_
      refine z_aload_n d_MQ_end_56 rfl ?_
      refine z_callV gt_good d_MQ_end_57 zv_MQ_69 (hm3.1.1) rfl (fun l => c_MQ_lookAtTriggers l g M3 own3 x qarr lt lw qs _ cap3 hm3 hc3 (by rw [hj4] at hbd; exact hbd)) rfl rfl ⟨Nat.le_of_ble_eq_true rfl, Nat.le_of_ble_eq_true rfl⟩ (Nat.le_of_ble_eq_true rfl) (by first | (dsimp only [ZRm]; omega) | (dsimp only [ZRm, List.length]; omega) | (simp [ZRm]; done)) (by first | (dsimp only [ZRm]; omega) | (dsimp only [ZRm, List.length]; omega) | (simp [ZRm]; done)) ?_
      rintro _ M4 ⟨rfl, own4, cap4, hm4, hc4⟩
      refine z_iload_n d_MQ_end_60 rfl ?_
      refine z_ireturn d_MQ_end_61 rfl ?_ (by first | (dsimp only [ZRm]; omega) | (dsimp only [ZRm, List.length]; omega) | (simp [ZRm]; done)) (by first | (dsimp only [ZRm]; omega) | (dsimp only [ZRm, List.length]; omega) | (simp [ZRm]; done))
      rw [show endI S t = _ from by unfold endI; rw [if_neg hb, if_neg hgo, hj4]]
      exact ⟨rfl, own4, cap4, hm4, hc4⟩
    · skip
      refine z_bipush (v := (-4)) d_MQ_end_32 (by decide) ?_
      refine z_ireturn d_MQ_end_34 rfl ?_ (by first | (dsimp only [ZRm]; omega) | (dsimp only [ZRm, List.length]; omega) | (simp [ZRm]; done)) (by first | (dsimp only [ZRm]; omega) | (dsimp only [ZRm, List.length]; omega) | (simp [ZRm]; done))
      rw [show endI S t = _ from by unfold endI; rw [if_neg hb, if_pos (by rw [hj4, k1]; exact h29)]]
      exact ⟨rfl, own, cap, hm, hc⟩
  · skip
    have hb := zift h5
    rw [t2] at hb
    refine z_bipush (v := (-4)) d_MQ_end_8 (by decide) ?_
    refine z_ireturn d_MQ_end_10 rfl ?_ (by first | (dsimp only [ZRm]; omega) | (dsimp only [ZRm, List.length]; omega) | (simp [ZRm]; done)) (by first | (dsimp only [ZRm]; omega) | (dsimp only [ZRm, List.length]; omega) | (simp [ZRm]; done))
    rw [show endI S t = _ from by unfold endI; rw [if_pos hb]]
    exact ⟨rfl, own, cap, hm, hc⟩
end
section
/-- where a new delay goes -/
def kwN (ds : List DS) (u : Int64) : Nat → Nat
  | 0 => 0
  | n + 1 => if ((ds[n]?).getD (0, 0, 0)).2.2 ≤ u then n + 1 else kwN ds u n
theorem kwN_le (ds : List DS) (u : Int64) : ∀ n, kwN ds u n ≤ n
  | 0 => Nat.le_refl _
  | n + 1 => by
    unfold kwN
    split
    · exact Nat.le_refl _
    · exact Nat.le_succ_of_le (kwN_le ds u n)
def insD (ds : List DS) (d : DS) : List DS := ds.take (kwN ds d.2.2 ds.length) ++ d :: ds.drop (kwN ds d.2.2 ds.length)
def pdS (S : MS) (d : DS) (ds : List DS) : MS := (S.1, S.2.1, S.2.2.1 ++ [(d.2.1, 1)], S.2.2.2.1 + 1, ds, S.2.2.2.2.2)
/-- posting what is due, at most so many -/
def pdN (S : MS) : Nat → Nat × MS
  | 0 => (0, S)
  | f + 1 => match S.2.2.2.2.1 with
    | [] => (0, S)
    | d :: ds => if S.2.2.2.2.2.2 < d.2.2 then (0, S) else ((pdN (pdS S d ds) f).1 + 1, (pdN (pdS S d ds) f).2)
theorem pdN_nil {S : MS} (f : Nat) (h : S.2.2.2.2.1 = []) : pdN S (f + 1) = (0, S) := by unfold pdN; rw [h]
theorem pdN_no {S : MS} (f : Nat) {d : DS} {ds : List DS} (h : S.2.2.2.2.1 = d :: ds) (h2 : S.2.2.2.2.2.2 < d.2.2) : pdN S (f + 1) = (0, S) := by
  conv => lhs; unfold pdN
  rw [h]
  exact if_pos h2
theorem pdN_yes {S : MS} (f : Nat) {d : DS} {ds : List DS} (h : S.2.2.2.2.1 = d :: ds) (h2 : ¬ S.2.2.2.2.2.2 < d.2.2) : pdN S (f + 1) = ((pdN (pdS S d ds) f).1 + 1, (pdN (pdS S d ds) f).2) := by
  conv => lhs; unfold pdN
  rw [h]
  exact if_neg h2
theorem pdN_len (f : Nat) : ∀ S : MS, S.2.2.1.length ≤ (pdN S f).2.2.2.1.length := by
  induction f with
  | zero => intro S; exact Nat.le_refl _
  | succ f ih =>
    intro S
    cases hd : S.2.2.2.2.1 with
    | nil => rw [pdN_nil f hd]; exact Nat.le_refl _
    | cons d ds =>
      by_cases h2 : S.2.2.2.2.2.2 < d.2.2
      · rw [pdN_no f hd h2]; exact Nat.le_refl _
      · rw [pdN_yes f hd h2]
        have := ih (pdS S d ds)
        simp [pdS] at this ⊢
        omega
def delS (S : MS) (c : Int32) (u : Int64) : MS := (S.1, S.2.1, S.2.2.1, S.2.2.2.1, insD S.2.2.2.2.1 (S.2.2.2.2.2.1 + 1, c, u), S.2.2.2.2.2.1 + 1, S.2.2.2.2.2.2)
def delI (S : MS) (c : Int32) (u : Int64) : Int32 × MS :=
  if ¬ nI S.2.2.2.2.1.length < 200 then (-1, S) else (S.2.2.2.2.2.1 + 1, (pdN (delS S c u) 200).2)
def ticS (S : MS) (t : Int64) : MS := (S.1, S.2.1, S.2.2.1, S.2.2.2.1, S.2.2.2.2.1, S.2.2.2.2.2.1, t)
def ticI (S : MS) (t : Int64) : Int32 × MS := if t < S.2.2.2.2.2.2 then (-1, S) else (nI (pdN (ticS S t) 200).1, (pdN (ticS S t) 200).2)
/-- cancel: from place i on -/
def canN (S : MS) (n : Int32) : Nat → Nat → Int32 × MS
  | 0, _ => (0, S)
  | d + 1, i => if ((S.2.2.2.2.1[i]?).getD (0, 0, 0)).1 = n then (1, (S.1, S.2.1, S.2.2.1, S.2.2.2.1, S.2.2.2.2.1.eraseIdx i, S.2.2.2.2.2)) else canN S n d (i + 1)
def canI (S : MS) (n : Int32) : Int32 × MS := canN S n S.2.2.2.2.1.length 0
theorem i64_nle {x y : Int64} : ¬ x ≤ y ↔ y < x := by
  rw [Int64.le_iff_toInt_le, Int64.lt_iff_toInt_lt]
  omega
theorem i64_nlt {x y : Int64} : ¬ x < y ↔ y ≤ x := by
  rw [Int64.le_iff_toInt_le, Int64.lt_iff_toInt_lt]
  omega
end
section
set_option maxHeartbeats 4000000 in
set_option maxRecDepth 100000 in
theorem lp_MQ_keepWaiting (g : ZG) (k : ZK) (M : ZM) (x qarr lt lw : Nat) (S : MS) (own : Nat → Nat) (da arr : Nat) (es : List Nat) (cap : Nat) (d : DS) (hx : M x = some (.inr (0, fM qarr lt lw S))) (hd : M da = some (.inr (5, [.int d.1, .int d.2.1, .long d.2.2]))) (hl : ALr M g.2.2.2.1 lw arr es cap) (hc : cap ≤ 1000) (hln : es.length ≤ 600) (h4 : es.length = S.2.2.2.2.1.length) (h5 : ∀ (j e : Nat), es[j]? = some e → ∃ x : DS, S.2.2.2.2.1[j]? = some x ∧ M e = some (.inr (5, [.int x.1, .int x.2.1, .long x.2.2])) ∧ own e = 33) : ∀ n : Nat, n ≤ es.length → kwN S.2.2.2.2.1 d.2.2 S.2.2.2.2.1.length = kwN S.2.2.2.2.1 d.2.2 n → ZW vcl tlx GT "MonitorQueues" b_MQ_keepWaiting 3 none "keepWaiting" (ZRm 6 1 1000) g k (fun r M' => ∃ q : Nat, r = none ∧ (q = arr ∨ M q = none) ∧ q ≠ g.2.2.2.1 ∧ ALr M' g.2.2.2.1 lw q (es.take (kwN S.2.2.2.2.1 d.2.2 S.2.2.2.2.1.length) ++ da :: es.drop (kwN S.2.2.2.2.1 d.2.2 S.2.2.2.2.1.length)) (capA es.length cap) ∧ ∀ y, y ≠ lw → y ≠ q → M' y = M y) [some (.ref x), some (.ref da), some (.int (nI n))] 8 [] (M) 0 0 := by
  obtain ⟨⟨mc, hla⟩, hr, hle, hz⟩ := id hl
  have hok := capA_ok (n := es.length) (cap := cap) hln hc hle
  intro n
  induction n with
  | zero =>
    intro hn hk
    refine z_iload_n d_MQ_keepWaiting_8 rfl ?_
    refine z_if_le (tgt := 42) d_MQ_keepWaiting_9 (by decide) (fun h9 => ?_) (fun h9 => False.elim (h9 (by decide)))
    have hkk : kwN S.2.2.2.2.1 d.2.2 S.2.2.2.2.1.length = 0 := hk
    refine z_aload_n d_MQ_keepWaiting_42 rfl ?_
    refine z_get d_MQ_keepWaiting_43 zf_MQ_36 (hx) rfl ?_
    refine z_iload_n d_MQ_keepWaiting_46 rfl ?_
    refine z_aload_n d_MQ_keepWaiting_47 rfl ?_
    refine z_callV gt_good d_MQ_keepWaiting_48 zv_MQ_222 (hla) rfl (fun l => c_AL_add3 l g M lw arr da (0) es cap hl (by omega) (fun e he => by obtain ⟨j, hj⟩ := List.getElem?_of_mem he; obtain ⟨y, -, hy, -⟩ := h5 j e hj; exact zObj.de hy) (zObj.de hd) (by omega)) rfl rfl ⟨Nat.le_of_ble_eq_true rfl, Nat.le_of_ble_eq_true rfl⟩ (Nat.le_of_ble_eq_true rfl) (by dsimp only [ZRm]; (repeat' split) <;> omega) (by dsimp only [ZRm]; (repeat' split) <;> omega) ?_
    rintro _ M1 ⟨q, rfl, e1, e2, e3, e4⟩
    refine z_return d_MQ_keepWaiting_51 rfl ?_ (by dsimp only [ZRm]; (repeat' split) <;> omega) (by dsimp only [ZRm]; (repeat' split) <;> omega)
    rw [← hkk] at e3
    exact ⟨q, rfl, e1, e2, e3, e4⟩
  | succ n ih =>
    intro hn hk
    obtain ⟨e, he⟩ : ∃ e, es[n]? = some e := ⟨es[n]'(by omega), List.getElem?_eq_getElem (by omega)⟩
    obtain ⟨y, k1, k2, k3⟩ := h5 n e he
    refine z_iload_n d_MQ_keepWaiting_8 rfl ?_
    refine z_if_le (tgt := 42) d_MQ_keepWaiting_9 (by decide) (fun h9 => False.elim (nI_nle (show 0 < n + 1 by omega) (by omega) h9)) (fun h9 => ?_)
    refine z_aload_n d_MQ_keepWaiting_12 rfl ?_
    refine z_get d_MQ_keepWaiting_13 zf_MQ_36 (hx) rfl ?_
    refine z_iload_n d_MQ_keepWaiting_16 rfl ?_
    refine z_iconst (v := 1) d_MQ_keepWaiting_17 (by decide) ?_
    refine z_isub d_MQ_keepWaiting_18 ?_
    rw [nI_pred]
    refine z_callV gt_good d_MQ_keepWaiting_19 zv_MQ_90 (hla) rfl (fun l => c_AL_get l g M lw arr es.length mc _ n e hla hr (by omega) (by omega) (al_get he)) rfl rfl ⟨Nat.le_of_ble_eq_true rfl, Nat.le_of_ble_eq_true rfl⟩ (Nat.le_of_ble_eq_true rfl) (Nat.le_of_ble_eq_true rfl) (Nat.le_of_ble_eq_true rfl) ?_
    rintro _ _ ⟨rfl, rfl⟩
    refine z_cast (ci := 5) d_MQ_keepWaiting_22 gw_426 k2 rfl rfl ?_
    refine z_get d_MQ_keepWaiting_25 zf_MQ_219 (k2) rfl ?_
    refine z_aload_n d_MQ_keepWaiting_28 rfl ?_
    refine z_get d_MQ_keepWaiting_29 zf_MQ_219 (hd) rfl ?_
    refine z_lcmp d_MQ_keepWaiting_32 ?_
    refine z_if_le (tgt := 42) d_MQ_keepWaiting_33 (by decide) (fun h33 => ?_) (fun h33 => ?_)
    · skip
      have hkk : kwN S.2.2.2.2.1 d.2.2 S.2.2.2.2.1.length = n + 1 := by
        rw [hk]
        show (if ((S.2.2.2.2.1[n]?).getD (0, 0, 0)).2.2 ≤ d.2.2 then n + 1 else _) = _
        rw [k1]
        exact if_pos ((lg_cmp_le _ _).mp h33)
      refine z_aload_n d_MQ_keepWaiting_42 rfl ?_
      refine z_get d_MQ_keepWaiting_43 zf_MQ_36 (hx) rfl ?_
      refine z_iload_n d_MQ_keepWaiting_46 rfl ?_
      refine z_aload_n d_MQ_keepWaiting_47 rfl ?_
      refine z_callV gt_good d_MQ_keepWaiting_48 zv_MQ_222 (hla) rfl (fun l => c_AL_add3 l g M lw arr da (n + 1) es cap hl (by omega) (fun e he => by obtain ⟨j, hj⟩ := List.getElem?_of_mem he; obtain ⟨y, -, hy, -⟩ := h5 j e hj; exact zObj.de hy) (zObj.de hd) (by omega)) rfl rfl ⟨Nat.le_of_ble_eq_true rfl, Nat.le_of_ble_eq_true rfl⟩ (Nat.le_of_ble_eq_true rfl) (by dsimp only [ZRm]; (repeat' split) <;> omega) (by dsimp only [ZRm]; (repeat' split) <;> omega) ?_
      rintro _ M1 ⟨q, rfl, e1, e2, e3, e4⟩
      refine z_return d_MQ_keepWaiting_51 rfl ?_ (by dsimp only [ZRm]; (repeat' split) <;> omega) (by dsimp only [ZRm]; (repeat' split) <;> omega)
      rw [← hkk] at e3
      exact ⟨q, rfl, e1, e2, e3, e4⟩
    · skip
      have hkk : kwN S.2.2.2.2.1 d.2.2 S.2.2.2.2.1.length = kwN S.2.2.2.2.1 d.2.2 n := by
        rw [hk]
        show (if ((S.2.2.2.2.1[n]?).getD (0, 0, 0)).2.2 ≤ d.2.2 then n + 1 else _) = _
        rw [k1]
        exact if_neg (fun q => h33 ((lg_cmp_le _ _).mpr q))
      refine z_iinc (v := nI n) d_MQ_keepWaiting_36 rfl (by show nI (n + 1) + Int32.ofInt (-1) = nI n; rw [show nI (n + 1) + Int32.ofInt (-1) = nI (n + 1) - 1 from by rw [Int32.sub_eq_add_neg]; rfl, nI_pred]) (by decide) rfl ?_
      refine z_goto (tgt := 8) d_MQ_keepWaiting_39 (by decide) ?_
      exact ih (by omega) hkk
set_option maxHeartbeats 4000000 in
set_option maxRecDepth 100000 in
theorem c_MQ_keepWaiting (l : Launch) (g : ZG) (M : ZM) (x qarr lt lw : Nat) (S : MS) (own : Nat → Nat) (da arr : Nat) (es : List Nat) (cap : Nat) (d : DS) (hx : M x = some (.inr (0, fM qarr lt lw S))) (hd : M da = some (.inr (5, [.int d.1, .int d.2.1, .long d.2.2]))) (hl : ALr M g.2.2.2.1 lw arr es cap) (hc : cap ≤ 1000) (hln : es.length ≤ 600) (h4 : es.length = S.2.2.2.2.1.length) (h5 : ∀ (j e : Nat), es[j]? = some e → ∃ x : DS, S.2.2.2.2.1[j]? = some x ∧ M e = some (.inr (5, [.int x.1, .int x.2.1, .long x.2.2])) ∧ own e = 33) : ZC vcl tlx GT l g y_MQ_keepWaiting b_MQ_keepWaiting 3 none (ZRm 6 1 1000) [.ref x, .ref da] M (fun r M' => ∃ q : Nat, r = none ∧ (q = arr ∨ M q = none) ∧ q ≠ g.2.2.2.1 ∧ ALr M' g.2.2.2.1 lw q (es.take (kwN S.2.2.2.2.1 d.2.2 S.2.2.2.2.1.length) ++ da :: es.drop (kwN S.2.2.2.2.1 d.2.2 S.2.2.2.2.1.length)) (capA es.length cap) ∧ ∀ y, y ≠ lw → y ≠ q → M' y = M y) := by
  refine ZC.of (by decide) (Nat.le_of_ble_eq_true rfl) rfl (fun k hz0 => ?_)
  obtain ⟨⟨mc, hla⟩, hr, hle, hz⟩ := id hl
  refine z_aload_n d_MQ_keepWaiting_0 rfl ?_
  refine z_get d_MQ_keepWaiting_1 zf_MQ_36 (hx) rfl ?_
  refine z_callV gt_good d_MQ_keepWaiting_4 zv_MQ_151 (hla) rfl (fun l => c_AL_size l g M lw arr (nI es.length) mc hla) rfl rfl ⟨Nat.le_of_ble_eq_true rfl, Nat.le_of_ble_eq_true rfl⟩ (Nat.le_of_ble_eq_true rfl) (Nat.le_of_ble_eq_true rfl) (Nat.le_of_ble_eq_true rfl) ?_
  rintro _ _ ⟨rfl, rfl⟩
  refine z_istore_n (i := 2) d_MQ_keepWaiting_7 rfl (by decide) rfl ?_
  exact lp_MQ_keepWaiting g k M x qarr lt lw S own da arr es cap d hx hd hl hc hln h4 h5 es.length (Nat.le_refl _) (by rw [h4])
set_option maxHeartbeats 4000000 in
set_option maxRecDepth 100000 in
theorem lp_MQ_postDue (g : ZG) (k : ZK) (post : Option Value → ZM → Prop) (x qarr lt lw : Nat) (qs : List Nat) (S0 : MS) (hb : (pdN S0 200).2.2.2.1.length ≤ 600) (hp : ∀ (M : ZM) (own : Nat → Nat) (cap : Nat), MRep M g.2.2.2.1 own x qarr lt lw qs (pdN S0 200).2 cap → cap ≤ 1000 → post (some (.int (nI (pdN S0 200).1))) M) : ∀ (f p : Nat) (M : ZM) (own : Nat → Nat) (S : MS) (cap : Nat), p + f = 200 → pdN S0 200 = (p + (pdN S f).1, (pdN S f).2) → MRep M g.2.2.2.1 own x qarr lt lw qs S cap → cap ≤ 1000 → M g.2.2.2.1 = some (.inl (0, [])) → ZW vcl tlx GT "MonitorQueues" b_MQ_postDue 2 (Option.some FieldType.int) "postDue" (ZRm 9 402 4402) g k post [some (.ref x), some (.int (nI p))] 2 [] (M) (2 * p) (2 * p + 4 * cap) := by
  intro f
  induction f with
  | zero =>
    intro p M own S cap hf hpd hm hc hz0
    obtain rfl : p = 200 := by omega
    refine z_iload_n d_MQ_postDue_2 rfl ?_
    refine z_sipush (v := 200) d_MQ_postDue_3 (by decide) ?_
    refine z_icmp_ge (tgt := 66) d_MQ_postDue_6 (by decide) (fun h6 => ?_) (fun h6 => False.elim (h6 (by decide)))
    refine z_iload_n d_MQ_postDue_66 rfl ?_
    refine z_ireturn d_MQ_postDue_67 rfl ?_ (by first | (dsimp only [ZRm]; omega) | (dsimp only [ZRm, List.length]; omega) | (simp [ZRm]; done)) (by first | (dsimp only [ZRm]; omega) | (dsimp only [ZRm, List.length]; omega) | (simp [ZRm]; done))
    have hpp : pdN S0 200 = (200, S) := by rw [hpd]; rfl
    have hp0 := hp M own cap (by rw [hpp]; exact hm) hc
    rw [hpp] at hp0
    exact hp0
  | succ f ih =>
    intro p M own S cap hf hpd hm hc hz0
    obtain ⟨⟨hx, hqr, hl, hX, hXq⟩, hQ, hT, hD, hzo⟩ := id hm
    obtain ⟨arr, es, cp, d1, d2, d3, d4, d5, d6⟩ := id hD
    obtain ⟨⟨mc, u2⟩, u2r, u2c, u2z⟩ := id d1
    refine z_iload_n d_MQ_postDue_2 rfl ?_
    refine z_sipush (v := 200) d_MQ_postDue_3 (by decide) ?_
    refine z_icmp_ge (tgt := 66) d_MQ_postDue_6 (by decide) (fun h6 => False.elim (nI_ge (show p < 200 by omega) (by decide) h6)) (fun h6 => ?_)
    refine z_aload_n d_MQ_postDue_9 rfl ?_
    refine z_get d_MQ_postDue_10 zf_MQ_36 (hx) rfl ?_
    refine z_callV gt_good d_MQ_postDue_13 zv_MQ_114 (u2) rfl (fun l => c_AL_isEmpty l g M lw arr (nI es.length) mc u2) rfl rfl ⟨Nat.le_of_ble_eq_true rfl, Nat.le_of_ble_eq_true rfl⟩ (Nat.le_of_ble_eq_true rfl) (by first | (dsimp only [ZRm]; omega) | (dsimp only [ZRm, List.length]; omega) | (simp [ZRm]; done)) (by first | (dsimp only [ZRm]; omega) | (dsimp only [ZRm, List.length]; omega) | (simp [ZRm]; done)) ?_
    rintro _ _ ⟨rfl, rfl⟩
    refine z_if_ne (tgt := 66) d_MQ_postDue_16 (by decide) (fun h16 => ?_) (fun h16 => ?_)
    · skip
      have hem : S.2.2.2.2.1 = [] := List.length_eq_zero_iff.mp ((nI_eq (by omega) (by decide)).mp (by have h := zif1 h16; rw [d3] at h; exact h))
      have hpy := pdN_nil f hem
      refine z_iload_n d_MQ_postDue_66 rfl ?_
      refine z_ireturn d_MQ_postDue_67 rfl ?_ (by first | (dsimp only [ZRm]; omega) | (dsimp only [ZRm, List.length]; omega) | (simp [ZRm]; done)) (by first | (dsimp only [ZRm]; omega) | (dsimp only [ZRm, List.length]; omega) | (simp [ZRm]; done))
      have hpp : pdN S0 200 = (p, S) := by rw [hpd, hpy]; rfl
      have hp0 := hp M own cap (by rw [hpp]; exact hm) hc
      rw [hpp] at hp0
      exact hp0
    · skip
      obtain ⟨d, ds, hds⟩ : ∃ d ds, S.2.2.2.2.1 = d :: ds := by
        cases hh : S.2.2.2.2.1 with
        | nil => exact absurd (by rw [d3, hh]; rfl) (zif0 h16)
        | cons a b => exact ⟨a, b, rfl⟩
      obtain ⟨e0, es1, rfl⟩ : ∃ e0 es1, es = e0 :: es1 := by
        cases es with
        | nil => rw [hds] at d3; cases d3
        | cons a b => exact ⟨a, b, rfl⟩
      obtain ⟨y, k1, k2, k3⟩ := d4 0 e0 rfl
      have hyd : d = y := by rw [hds] at k1; exact Option.some.inj k1
      subst hyd
      refine z_aload_n d_MQ_postDue_19 rfl ?_
      refine z_get d_MQ_postDue_20 zf_MQ_36 (hx) rfl ?_
      refine z_iconst (v := 0) d_MQ_postDue_23 (by decide) ?_
      refine z_callV gt_good d_MQ_postDue_24 zv_MQ_90 (u2) rfl (fun l => c_AL_get l g M lw arr (e0 :: es1).length mc _ 0 e0 u2 u2r (by simp) (by omega) (al_get rfl)) rfl rfl ⟨Nat.le_of_ble_eq_true rfl, Nat.le_of_ble_eq_true rfl⟩ (Nat.le_of_ble_eq_true rfl) (by first | (dsimp only [ZRm]; omega) | (dsimp only [ZRm, List.length]; omega) | (simp [ZRm]; done)) (by first | (dsimp only [ZRm]; omega) | (dsimp only [ZRm, List.length]; omega) | (simp [ZRm]; done)) ?_
      rintro _ _ ⟨rfl, rfl⟩
      refine z_cast (ci := 5) d_MQ_postDue_27 gw_426 k2 rfl rfl ?_
      refine z_get d_MQ_postDue_30 zf_MQ_219 (k2) rfl ?_
      refine z_aload_n d_MQ_postDue_33 rfl ?_
      refine z_get d_MQ_postDue_34 zf_MQ_57 (hx) rfl ?_
      refine z_lcmp d_MQ_postDue_37 ?_
      refine z_if_gt (tgt := 66) d_MQ_postDue_38 (by decide) (fun h38 => ?_) (fun h38 => ?_)
      · skip
        have hpy := pdN_no f hds ((lg_cmp_gt _ _).mp h38)
        refine z_iload_n d_MQ_postDue_66 rfl ?_
        refine z_ireturn d_MQ_postDue_67 rfl ?_ (by first | (dsimp only [ZRm]; omega) | (dsimp only [ZRm, List.length]; omega) | (simp [ZRm]; done)) (by first | (dsimp only [ZRm]; omega) | (dsimp only [ZRm, List.length]; omega) | (simp [ZRm]; done))
        have hpp : pdN S0 200 = (p, S) := by rw [hpd, hpy]; rfl
        have hp0 := hp M own cap (by rw [hpp]; exact hm) hc
        rw [hpp] at hp0
        exact hp0
      · skip
        have hpy := pdN_yes f hds (fun q => h38 ((lg_cmp_gt _ _).mpr q))
        have hlen : S.2.2.1.length + 1 ≤ 600 := by
          have hh := pdN_len f (pdS S d ds)
          rw [hpd, hpy] at hb
          simp [pdS] at hh hb
          omega
        have hcap := hT.len
        have hpay := capA_pay2 hcap
        have hok := capA_ok (n := S.2.2.1.length) (cap := cap) (by omega) hc hcap
        have harz : arr ≠ g.2.2.2.1 := zne u2r hz0 (by simp)
        refine z_aload_n d_MQ_postDue_41 rfl ?_
        refine z_aload_n d_MQ_postDue_42 rfl ?_
        refine z_get d_MQ_postDue_43 zf_MQ_36 (hx) rfl ?_
        refine z_iconst (v := 0) d_MQ_postDue_46 (by decide) ?_
        refine z_callV gt_good d_MQ_postDue_47 zv_MQ_172 (u2) rfl (fun l => c_AL_remove l g M lw arr 0 (e0 :: es1) cp d1 (by omega) (fun e he => by obtain ⟨j, hj⟩ := List.getElem?_of_mem he; obtain ⟨y, -, hy, -⟩ := d4 j e hj; exact zObj.de hy) (by simp)) rfl rfl ⟨Nat.le_of_ble_eq_true rfl, Nat.le_of_ble_eq_true rfl⟩ (Nat.le_of_ble_eq_true rfl) (by dsimp only [ZRm]; (repeat' split) <;> omega) (by dsimp only [ZRm]; (repeat' split) <;> omega) ?_
        rintro _ M1 ⟨rfl, a1, a2⟩
        have a1 : ALr M1 g.2.2.2.1 lw arr es1 cp := a1
        have f1 : ∀ y, M y ≠ none → own y ≠ 33 → M1 y = M y := fun y y1 y2 => a2 y (fun w => y2 (by rw [w]; exact d5)) (fun w => y2 (by rw [w]; exact d6 harz))
        have f2 : ∀ y, M y = none → M1 y = none := fun y y1 => by rw [a2 y (fun w => by rw [w, u2] at y1; cases y1) (fun w => by rw [w, u2r] at y1; cases y1)]; exact y1
        have hx1 : M1 x = some (.inr (0, fM qarr lt lw S)) := by rw [f1 x (by rw [hx]; simp) (by omega)]; exact hx
        have k21 : M1 e0 = some (.inr (5, [.int d.1, .int d.2.1, .long d.2.2])) := by rw [a2 e0 (zne k2 u2 (by simp)) (zne k2 u2r (by intro h; cases h))]; exact k2
        have hz1 : M1 g.2.2.2.1 = M g.2.2.2.1 := f1 _ (by rw [hz0]; simp) (by omega)
        refine z_cast (ci := 5) d_MQ_postDue_50 gw_426 k21 rfl rfl ?_
        refine z_get d_MQ_postDue_53 zf_MQ_225 (k21) rfl ?_
        refine z_callV gt_good d_MQ_postDue_56 zv_MQ_196 (hx1) rfl (fun l => c_MQ_begin l g M1 own x qarr lt lw S cap d.2.1 hx1 hX (hT.fr (fun y y1 y2 => ⟨f1 y y1 (by omega), y2⟩) hz1) (by omega)) rfl rfl ⟨Nat.le_of_ble_eq_true rfl, Nat.le_of_ble_eq_true rfl⟩ (Nat.le_of_ble_eq_true rfl) (by dsimp only [ZRm]; (repeat' split) <;> omega) (by dsimp only [ZRm]; (repeat' split) <;> omega) ?_
        rintro _ M2 ⟨rfl, b1, b2, b3⟩
        refine z_pop d_MQ_postDue_59 rfl ?_
        refine z_iinc (v := nI (p + 1)) d_MQ_postDue_60 rfl (nI_1 p) (by decide) rfl ?_
        refine z_goto (tgt := 2) d_MQ_postDue_63 (by decide) ?_
        have hz2 : M2 g.2.2.2.1 = M g.2.2.2.1 := by rw [b3 _ (by rw [hz1, hz0]; simp) (fun w => by rw [w, hX] at hzo; omega) (by omega), hz1]
        have hmr : MRep M2 g.2.2.2.1 (ow M1 own 32) x qarr lt lw qs (pdS S d ds) (capA S.2.2.1.length cap) := by
          refine hm.updTD (fun y hy => ?_) (by rw [hz0]; simp) b1 rfl b2 ?_ (fun y y1 y2 y3 y4 => ?_)
          · unfold ow
            cases hh : M1 y with
            | some w => rfl
            | none =>
              exfalso
              by_cases w : y = lw
              · obtain ⟨⟨mc1, w1⟩, -⟩ := id a1
                rw [w, w1] at hh; cases hh
              · by_cases w2 : y = arr
                · rw [w2, a1.2.1] at hh; cases hh
                · rw [a2 y w w2] at hh; exact hy hh
          · refine ⟨arr, es1, cp, a1.kept ?_ ?_, d2, ?_, fun j e hj => ?_, ?_, fun w => ?_⟩
            · exact b3 lw a1.la (zne hx u2 (by simp)).symm (by omega)
            · exact b3 arr (by rw [a1.2.1]; simp) (zne u2r hx (by intro h; cases h)) (by rw [d6 harz]; decide)
            · show es1.length = ds.length
              rw [hds] at d3; simpa using d3
            · obtain ⟨y, y1, y2, y3⟩ := d4 (j + 1) e hj
              have ye : M1 e = M e := a2 e (zne y2 u2 (by simp)) (zne y2 u2r (by intro h; cases h))
              refine ⟨y, by rw [hds] at y1; exact y1, by rw [b3 e (by rw [ye, y2]; simp) (zne y2 hx (by simp)) (by omega), ye]; exact y2, by rw [ow_old (by rw [ye, y2]; simp)]; exact y3⟩
            · rw [ow_old a1.la]; exact d5
            · rw [ow_old (by rw [a1.2.1]; simp)]; exact d6 w
          · rw [b3 y (by rw [f1 y y1 y4]; exact y1) y2 y3, f1 y y1 y4]
        refine z_widen (k1 := 2 * (p + 1)) (k2 := 2 * (p + 1) + 4 * capA S.2.2.1.length cap) (by dsimp only [ZRm]; split <;> omega) (by dsimp only [ZRm]; omega) ?_
        exact ih (p + 1) M2 _ (pdS S d ds) _ (by omega) (by rw [hpd, hpy]; show (p + (_ + 1), _) = (p + 1 + _, _); rw [show p + ((pdN (pdS S d ds) f).1 + 1) = p + 1 + (pdN (pdS S d ds) f).1 by omega]) hmr hok (by rw [hz2]; exact hz0)
set_option maxHeartbeats 4000000 in
set_option maxRecDepth 100000 in
theorem c_MQ_postDue (l : Launch) (g : ZG) (M : ZM) (own : Nat → Nat) (x qarr lt lw : Nat) (qs : List Nat) (S : MS) (cap : Nat) (hm : MRep M g.2.2.2.1 own x qarr lt lw qs S cap) (hc : cap ≤ 1000) (hb : (pdN S 200).2.2.2.1.length ≤ 600) : ZC vcl tlx GT l g y_MQ_postDue b_MQ_postDue 2 (Option.some FieldType.int) (ZRm 9 402 4402) [.ref x] M (fun r M' => r = some (.int (nI (pdN S 200).1)) ∧ ∃ (own' : Nat → Nat) (cap' : Nat), MRep M' g.2.2.2.1 own' x qarr lt lw qs (pdN S 200).2 cap' ∧ cap' ≤ 1000) := by
  refine ZC.of (by decide) (Nat.le_of_ble_eq_true rfl) rfl (fun k hz0 => ?_)
  refine z_iconst (v := 0) d_MQ_postDue_0 (by decide) ?_
  refine z_istore_n (i := 1) d_MQ_postDue_1 rfl (by decide) rfl ?_
  refine z_widen (k1 := 2 * 0) (k2 := 2 * 0 + 4 * cap) (by omega) (by omega) ?_
  exact lp_MQ_postDue g k _ x qarr lt lw qs S hb (fun M1 o1 c1 h1 h2 => ⟨rfl, o1, c1, h1, h2⟩) 200 0 M own S cap rfl (by simp) hm hc hz0
end
section
set_option maxHeartbeats 4000000 in
set_option maxRecDepth 100000 in
theorem c_MQ_tick (l : Launch) (g : ZG) (M : ZM) (own : Nat → Nat) (x qarr lt lw : Nat) (qs : List Nat) (S : MS) (cap : Nat) (t : Int64) (hm : MRep M g.2.2.2.1 own x qarr lt lw qs S cap) (hc : cap ≤ 1000) (hbd : (pdN (ticS S t) 200).2.2.2.1.length ≤ 600) : ZC vcl tlx GT l g y_MQ_tick b_MQ_tick 3 (Option.some FieldType.int) (ZRm 11 420 6000) [.ref x, .long t] M (fun r M' => r = some (.int (ticI S t).1) ∧ ∃ (own' : Nat → Nat) (cap' : Nat), MRep M' g.2.2.2.1 own' x qarr lt lw qs (ticI S t).2 cap' ∧ cap' ≤ 1000) := by
  refine ZC.of (by decide) (Nat.le_of_ble_eq_true rfl) rfl (fun k hz0 => ?_)
  obtain ⟨⟨hx, hqr, hl, hX, hXq⟩, hQ, hT, hD, hzo⟩ := id hm
  refine z_lload_n d_MQ_tick_0 rfl ?_
  refine z_aload_n d_MQ_tick_1 rfl ?_
  refine z_get d_MQ_tick_2 zf_MQ_57 (hx) rfl ?_
  refine z_lcmp d_MQ_tick_5 ?_
  refine z_if_ge (tgt := 11) d_MQ_tick_6 (by decide) (fun h6 => ?_) (fun h6 => ?_)
  · skip
    have hlt : ¬ t < S.2.2.2.2.2.2 := i64_nlt.mpr ((lg_cmp_ge _ _).mp h6)
    refine z_aload_n d_MQ_tick_11 rfl ?_
    refine z_lload_n d_MQ_tick_12 rfl ?_
    refine z_put d_MQ_tick_13 zp_MQ_57 (hx) rfl rfl ?_
    refine z_aload_n d_MQ_tick_16 rfl ?_
    have hm1 : MRep (zset M x (.inr (0, fM qarr lt lw (ticS S t)))) g.2.2.2.1 own x qarr lt lw qs (ticS S t) cap := hm.updTD (fun _ _ => rfl) (by rw [hz0]; simp) (zset_self _ _ _) rfl (hT.fr (fun w w1 w2 => ⟨zset_ne (fun q => by rw [q, hX] at w2; omega), w2⟩) (zset_ne (zne hz0 hx (by intro h; cases h)))) (hD.fr (fun w w1 w2 => ⟨zset_ne (fun q => by rw [q, hX] at w2; omega), w2⟩) (zset_ne (zne hz0 hx (by intro h; cases h)))) (fun w w1 w2 w3 w4 => zset_ne w2)
    refine z_callV gt_good d_MQ_tick_17 zv_MQ_166 (hm1.1.1) rfl (fun l => c_MQ_postDue l g (zset M x (.inr (0, fM qarr lt lw (ticS S t)))) own x qarr lt lw qs (ticS S t) cap hm1 hc hbd) rfl rfl ⟨Nat.le_of_ble_eq_true rfl, Nat.le_of_ble_eq_true rfl⟩ (Nat.le_of_ble_eq_true rfl) (by first | (dsimp only [ZRm]; omega) | (dsimp only [ZRm, List.length]; omega) | (simp [ZRm]; done)) (by first | (dsimp only [ZRm]; omega) | (dsimp only [ZRm, List.length]; omega) | (simp [ZRm]; done)) ?_
    rintro _ M3 ⟨rfl, own3, cap3, hm3, hc3⟩
    refine z_ireturn d_MQ_tick_20 rfl ?_ (by first | (dsimp only [ZRm]; omega) | (dsimp only [ZRm, List.length]; omega) | (simp [ZRm]; done)) (by first | (dsimp only [ZRm]; omega) | (dsimp only [ZRm, List.length]; omega) | (simp [ZRm]; done))
    rw [show ticI S t = _ from by unfold ticI; rw [if_neg hlt]]
    exact ⟨rfl, own3, cap3, hm3, hc3⟩
  · skip
    have hlt : t < S.2.2.2.2.2.2 := i64_nle.mp (fun q => h6 ((lg_cmp_ge _ _).mpr q))
    refine z_iconst (v := (-1)) d_MQ_tick_9 (by decide) ?_
    refine z_ireturn d_MQ_tick_10 rfl ?_ (by first | (dsimp only [ZRm]; omega) | (dsimp only [ZRm, List.length]; omega) | (simp [ZRm]; done)) (by first | (dsimp only [ZRm]; omega) | (dsimp only [ZRm, List.length]; omega) | (simp [ZRm]; done))
    rw [show ticI S t = _ from by unfold ticI; rw [if_pos hlt]]
    exact ⟨rfl, own, cap, hm, hc⟩
theorem ins_rel {α β : Type} {P : α → β → Prop} {es : List α} {ds : List β} (hl : es.length = ds.length) (n : Nat) (h : ∀ (j : Nat) (e : α), es[j]? = some e → ∃ x : β, ds[j]? = some x ∧ P e x) {a : α} {y : β} (ha : P a y) : ∀ (j : Nat) (e : α), (es.take n ++ a :: es.drop n)[j]? = some e → ∃ x : β, (ds.take n ++ y :: ds.drop n)[j]? = some x ∧ P e x := by
  intro j e hj
  have hl2 : (es.take n).length = (ds.take n).length := by simp [hl]
  by_cases hj1 : j < (es.take n).length
  · rw [List.getElem?_append_left hj1] at hj
    rw [List.getElem?_append_left (by omega)]
    have hjn : j < n := by rw [List.length_take] at hj1; omega
    rw [List.getElem?_take, if_pos hjn] at hj
    rw [List.getElem?_take, if_pos hjn]
    exact h j e hj
  · rw [List.getElem?_append_right (by omega)] at hj
    rw [List.getElem?_append_right (by omega), ← hl2]
    cases hd : j - (es.take n).length with
    | zero =>
      rw [hd] at hj
      cases hj
      exact ⟨y, rfl, ha⟩
    | succ m =>
      rw [hd] at hj
      simp only [List.getElem?_cons_succ, List.getElem?_drop] at hj ⊢
      exact h _ e hj
theorem pdN_last (f : Nat) : ∀ S : MS, (pdN S f).2.2.2.2.2.2.1 = S.2.2.2.2.2.1 := by
  induction f with
  | zero => intro S; rfl
  | succ f ih =>
    intro S
    cases hd : S.2.2.2.2.1 with
    | nil => rw [pdN_nil f hd]
    | cons d ds =>
      by_cases h2 : S.2.2.2.2.2.2 < d.2.2
      · rw [pdN_no f hd h2]
      · rw [pdN_yes f hd h2]
        exact ih (pdS S d ds)
set_option maxHeartbeats 4000000 in
set_option maxRecDepth 100000 in
theorem c_MQ_delay (l : Launch) (g : ZG) (M : ZM) (own : Nat → Nat) (x qarr lt lw : Nat) (qs : List Nat) (S : MS) (cap : Nat) (c : Int32) (u : Int64) (hm : MRep M g.2.2.2.1 own x qarr lt lw qs S cap) (hc : cap ≤ 1000) (hbd : (pdN (delS S c u) 200).2.2.2.1.length ≤ 600) : ZC vcl tlx GT l g y_MQ_delay b_MQ_delay 4 (Option.some FieldType.int) (ZRm 11 420 6000) [.ref x, .int c, .long u] M (fun r M' => r = some (.int (delI S c u).1) ∧ ∃ (own' : Nat → Nat) (cap' : Nat), MRep M' g.2.2.2.1 own' x qarr lt lw qs (delI S c u).2 cap' ∧ cap' ≤ 1000) := by
  refine ZC.of (by decide) (Nat.le_of_ble_eq_true rfl) rfl (fun k hz0 => ?_)
  obtain ⟨⟨hx, hqr, hl, hX, hXq⟩, hQ, hT, hD, hzo⟩ := id hm
  obtain ⟨arr, es, cp, d1, d2, d3, d4, d5, d6⟩ := id hD
  obtain ⟨⟨mc, u2⟩, u2r, u2c, u2z⟩ := id d1
  refine z_aload_n d_MQ_delay_0 rfl ?_
  refine z_get d_MQ_delay_1 zf_MQ_36 (hx) rfl ?_
  refine z_callV gt_good d_MQ_delay_4 zv_MQ_151 (u2) rfl (fun l => c_AL_size l g M lw arr (nI es.length) mc u2) rfl rfl ⟨Nat.le_of_ble_eq_true rfl, Nat.le_of_ble_eq_true rfl⟩ (Nat.le_of_ble_eq_true rfl) (Nat.le_of_ble_eq_true rfl) (Nat.le_of_ble_eq_true rfl) ?_
  rintro _ _ ⟨rfl, rfl⟩
  rw [d3]
  refine z_sipush (v := 200) d_MQ_delay_7 (by decide) ?_
  refine z_icmp_lt (tgt := 15) d_MQ_delay_10 (by decide) (fun h10 => ?_) (fun h10 => ?_)
  · skip
    have hln : S.2.2.2.2.1.length < 200 := Nat.not_le.mp fun q => nI_nlt q (by omega) h10
    have hok := capA_ok (n := es.length) (cap := cp) (by omega) d2 u2c
    refine z_aload_n d_MQ_delay_15 rfl ?_
    refine z_dup d_MQ_delay_16 rfl ?_
    refine z_get d_MQ_delay_17 zf_MQ_154 (hx) rfl ?_
    refine z_iconst (v := 1) d_MQ_delay_20 (by decide) ?_
    refine z_iadd d_MQ_delay_21 ?_
    refine z_put d_MQ_delay_22 zp_MQ_154 (hx) rfl rfl ?_
    refine z_aload_n d_MQ_delay_25 rfl ?_
    refine z_new (ci := 5) (fs := [.int 0, .int 0, .long 0]) d_MQ_delay_26 ⟨_, T_De, 3, ty_De, rfl, in_De, zl_De, gw_426, gw_427, gw_55, rfl, by decide⟩ (by simp) (by simp) (fun da hda1 => ?_)
    have hda := zset_none hda1
    have nxd : x ≠ da := zfresh_ne hx hda
    have nld : lw ≠ da := zfresh_ne u2 hda
    have nad : arr ≠ da := zfresh_ne u2r hda
    have nlx : lw ≠ x := zne u2 hx (by simp)
    have nax : arr ≠ x := zne u2r hx (by intro h; cases h)
    refine z_dup d_MQ_delay_29 rfl ?_
    refine z_aload_n d_MQ_delay_30 rfl ?_
    refine z_get d_MQ_delay_31 zf_MQ_154 (by rw [zset_ne nxd, zset_self]) rfl ?_
    refine z_iload_n d_MQ_delay_34 rfl ?_
    refine z_lload_n d_MQ_delay_35 rfl ?_
    refine z_callI gt_good d_MQ_delay_36 zi_MQ_159 (fun l => c_De_init l g _ da _ _ _ _ c u (zset_self _ _ _)) rfl rfl ⟨Nat.le_of_ble_eq_true rfl, Nat.le_of_ble_eq_true rfl⟩ (Nat.le_of_ble_eq_true rfl) (by first | (dsimp only [ZRm]; omega) | (dsimp only [ZRm, List.length]; omega) | (simp [ZRm]; done)) (by first | (dsimp only [ZRm]; omega) | (dsimp only [ZRm, List.length]; omega) | (simp [ZRm]; done)) ?_
    rintro _ _ ⟨rfl, rfl⟩
    rw [zset_zset]
    refine z_callV gt_good d_MQ_delay_39 zv_MQ_162 (by rw [zset_ne nxd, zset_self]) rfl (fun l => c_MQ_keepWaiting l g (zset (zset M x (.inr (0, fM qarr lt lw (S.1, S.2.1, S.2.2.1, S.2.2.2.1, S.2.2.2.2.1, S.2.2.2.2.2.1 + 1, S.2.2.2.2.2.2)))) da (.inr (5, [.int (S.2.2.2.2.2.1 + 1), .int c, .long u]))) x qarr lt lw (S.1, S.2.1, S.2.2.1, S.2.2.2.1, S.2.2.2.2.1, S.2.2.2.2.2.1 + 1, S.2.2.2.2.2.2) own da arr es cp (S.2.2.2.2.2.1 + 1, c, u) (by rw [zset_ne nxd, zset_self]) (zset_self _ _ _) (d1.kept (by rw [zset_ne nld, zset_ne nlx]) (by rw [zset_ne nad, zset_ne nax])) d2 (by omega) d3 (fun j e hj => by obtain ⟨y, y1, y2, y3⟩ := d4 j e hj; exact ⟨y, y1, by rw [zset_ne (zfresh_ne y2 hda), zset_ne (zne y2 hx (by simp))]; exact y2, y3⟩)) rfl rfl ⟨Nat.le_of_ble_eq_true rfl, Nat.le_of_ble_eq_true rfl⟩ (Nat.le_of_ble_eq_true rfl) (by first | (dsimp only [ZRm]; omega) | (dsimp only [ZRm, List.length]; omega) | (simp [ZRm]; done)) (by first | (dsimp only [ZRm]; omega) | (dsimp only [ZRm, List.length]; omega) | (simp [ZRm]; done)) ?_
    rintro _ M3 ⟨q, rfl, e1, e2, e3, e4⟩
    have hq0 : q = arr ∨ M q = none := e1.imp id (fun w => zset_none (zset_none w))
    have f3 : ∀ y, M y ≠ none → y ≠ x → own y ≠ 33 → M3 y = M y := fun y y1 y2 y3 => by
      have yl : y ≠ lw := fun w => y3 (by rw [w]; exact d5)
      have yq : y ≠ q := fun w => by
        rcases hq0 with v | v
        · exact y3 (by rw [w, v]; exact d6 (by rw [← v]; exact e2))
        · rw [w] at y1; exact y1 v
      rw [e4 y yl yq, zset_ne (fun w => y1 (by rw [w]; exact hda)), zset_ne y2]
    have fx : M3 x = some (.inr (0, fM qarr lt lw (delS S c u))) := by
      rw [e4 x (Ne.symm nlx) (fun w => hq0.elim (fun v => nax (v.symm.trans w.symm)) (fun v => zfresh_ne hx v w)), zset_ne nxd, zset_self]; rfl
    have fz : M3 g.2.2.2.1 = M g.2.2.2.1 := f3 _ (by rw [hz0]; simp) (fun w => by rw [w, hX] at hzo; omega) (by omega)
    have hm1 : MRep M3 g.2.2.2.1 (ow M own 33) x qarr lt lw qs (delS S c u) cap := by
      refine hm.updTD (fun y hy => ow_old hy) (by rw [hz0]; simp) fx rfl (hT.fr (fun w w1 w2 => ⟨f3 w w1 (fun v => by rw [v, hX] at w2; omega) (by omega), by rw [ow_old w1]; exact w2⟩) fz) ?_ (fun y y1 y2 y3 y4 => f3 y y1 y2 y4)
      refine ⟨q, _, _, e3, hok, ?_, ?_, by rw [ow_old (by rw [u2]; simp)]; exact d5, fun w => ?_⟩
      · show _ = (insD S.2.2.2.2.1 (S.2.2.2.2.2.1 + 1, c, u)).length
        unfold insD
        simp [d3]
      · show ∀ (j e : Nat), (es.take (kwN S.2.2.2.2.1 u S.2.2.2.2.1.length) ++ da :: es.drop (kwN S.2.2.2.2.1 u S.2.2.2.2.1.length))[j]? = some e → ∃ x : DS, (insD S.2.2.2.2.1 (S.2.2.2.2.2.1 + 1, c, u))[j]? = some x ∧ M3 e = some (.inr (5, [.int x.1, .int x.2.1, .long x.2.2])) ∧ ow M own 33 e = 33
        refine ins_rel (P := fun e (y : DS) => M3 e = some (.inr (5, [.int y.1, .int y.2.1, .long y.2.2])) ∧ ow M own 33 e = 33) d3 _ (fun j e hj => ?_) (y := (S.2.2.2.2.2.1 + 1, c, u)) ?_
        · obtain ⟨y, y1, y2, y3⟩ := d4 j e hj
          refine ⟨y, y1, ?_, by rw [ow_old (by rw [y2]; simp)]; exact y3⟩
          rw [e4 e (zne y2 u2 (by simp)) (fun w => hq0.elim (fun v => zne y2 u2r (by intro h; cases h) (w.trans v)) (fun v => zfresh_ne y2 v w)), zset_ne (zfresh_ne y2 hda), zset_ne (zne y2 hx (by simp))]
          exact y2
        · refine ⟨?_, ow_new hda⟩
          rw [e4 da (Ne.symm nld) (fun w => e1.elim (fun v => nad (v.symm.trans w.symm)) (fun v => zfresh_ne (zset_self _ _ _) v w)), zset_self]
      · rcases hq0 with v | v
        · rw [v, ow_old (by rw [u2r]; simp)]; exact d6 (by rw [← v]; exact w)
        · exact ow_new v
    refine z_aload_n d_MQ_delay_42 rfl ?_
    refine z_callV gt_good d_MQ_delay_43 zv_MQ_166 (hm1.1.1) rfl (fun l => c_MQ_postDue l g M3 _ x qarr lt lw qs (delS S c u) cap hm1 hc hbd) rfl rfl ⟨Nat.le_of_ble_eq_true rfl, Nat.le_of_ble_eq_true rfl⟩ (Nat.le_of_ble_eq_true rfl) (by first | (dsimp only [ZRm]; omega) | (dsimp only [ZRm, List.length]; omega) | (simp [ZRm]; done)) (by first | (dsimp only [ZRm]; omega) | (dsimp only [ZRm, List.length]; omega) | (simp [ZRm]; done)) ?_
    rintro _ M4 ⟨rfl, own4, cap4, hm4, hc4⟩
    have hx4 : M4 x = some (.inr (0, fM qarr lt lw (pdN (delS S c u) 200).2)) := hm4.1.1
    refine z_pop d_MQ_delay_46 rfl ?_
    refine z_aload_n d_MQ_delay_47 rfl ?_
    refine z_get d_MQ_delay_48 zf_MQ_154 (hx4) rfl ?_
    refine z_ireturn d_MQ_delay_51 rfl ?_ (by first | (dsimp only [ZRm]; omega) | (dsimp only [ZRm, List.length]; omega) | (simp [ZRm]; done)) (by first | (dsimp only [ZRm]; omega) | (dsimp only [ZRm, List.length]; omega) | (simp [ZRm]; done))
    rw [show delI S c u = _ from by unfold delI; rw [if_neg (not_not_intro h10)], pdN_last]
    exact ⟨rfl, own4, cap4, hm4, hc4⟩
  · skip
    refine z_iconst (v := (-1)) d_MQ_delay_13 (by decide) ?_
    refine z_ireturn d_MQ_delay_14 rfl ?_ (by first | (dsimp only [ZRm]; omega) | (dsimp only [ZRm, List.length]; omega) | (simp [ZRm]; done)) (by first | (dsimp only [ZRm]; omega) | (dsimp only [ZRm, List.length]; omega) | (simp [ZRm]; done))
    rw [show delI S c u = _ from by unfold delI; rw [if_pos h10]]
    exact ⟨rfl, own, cap, hm, hc⟩
set_option maxHeartbeats 4000000 in
set_option maxRecDepth 100000 in
theorem lp_MQ_cancel (g : ZG) (k : ZK) (M : ZM) (own : Nat → Nat) (x qarr lt lw : Nat) (qs : List Nat) (S : MS) (cap : Nat) (n : Int32) (hm : MRep M g.2.2.2.1 own x qarr lt lw qs S cap) (hc : cap ≤ 1000) (hz0 : M g.2.2.2.1 = some (.inl (0, []))) : ∀ (d i : Nat), i + d = S.2.2.2.2.1.length → canI S n = canN S n d i → ZW vcl tlx GT "MonitorQueues" b_MQ_cancel 3 (Option.some FieldType.int) "cancel" (ZRm 11 420 6000) g k (fun r M' => r = some (.int (canI S n).1) ∧ ∃ (own' : Nat → Nat) (cap' : Nat), MRep M' g.2.2.2.1 own' x qarr lt lw qs (canI S n).2 cap' ∧ cap' ≤ 1000) [some (.ref x), some (.int n), some (.int (nI i))] 2 [] (M) 0 0 := by
  obtain ⟨⟨hx, hqr, hl, hX, hXq⟩, hQ, hT, hD, hzo⟩ := id hm
  obtain ⟨arr, es, cp, d1, d2, d3, d4, d5, d6⟩ := id hD
  obtain ⟨⟨mc, u2⟩, u2r, u2c, u2z⟩ := id d1
  intro d
  induction d with
  | zero =>
    intro i hi hcn
    obtain rfl : i = S.2.2.2.2.1.length := by omega
    refine z_iload_n d_MQ_cancel_2 rfl ?_
    refine z_aload_n d_MQ_cancel_3 rfl ?_
    refine z_get d_MQ_cancel_4 zf_MQ_36 (hx) rfl ?_
    refine z_callV gt_good d_MQ_cancel_7 zv_MQ_151 (u2) rfl (fun l => c_AL_size l g M lw arr (nI es.length) mc u2) rfl rfl ⟨Nat.le_of_ble_eq_true rfl, Nat.le_of_ble_eq_true rfl⟩ (Nat.le_of_ble_eq_true rfl) (Nat.le_of_ble_eq_true rfl) (Nat.le_of_ble_eq_true rfl) ?_
    rintro _ _ ⟨rfl, rfl⟩
    rw [d3]
    refine z_icmp_ge (tgt := 48) d_MQ_cancel_10 (by decide) (fun h10 => ?_) (fun h10 => False.elim (h10 (nI_le (Nat.le_refl _) (by omega))))
    refine z_iconst (v := 0) d_MQ_cancel_48 (by decide) ?_
    refine z_ireturn d_MQ_cancel_49 rfl ?_ (by decide) (by decide)
    rw [hcn]
    exact ⟨rfl, own, cap, hm, hc⟩
  | succ d ih =>
    intro i hi hcn
    obtain ⟨e, he⟩ : ∃ e, es[i]? = some e := ⟨es[i]'(by omega), List.getElem?_eq_getElem (by omega)⟩
    obtain ⟨y, k1, k2, k3⟩ := d4 i e he
    have harz : arr ≠ g.2.2.2.1 := zne u2r hz0 (by intro w; cases es with | nil => simp at he | cons a b => simp at w)
    refine z_iload_n d_MQ_cancel_2 rfl ?_
    refine z_aload_n d_MQ_cancel_3 rfl ?_
    refine z_get d_MQ_cancel_4 zf_MQ_36 (hx) rfl ?_
    refine z_callV gt_good d_MQ_cancel_7 zv_MQ_151 (u2) rfl (fun l => c_AL_size l g M lw arr (nI es.length) mc u2) rfl rfl ⟨Nat.le_of_ble_eq_true rfl, Nat.le_of_ble_eq_true rfl⟩ (Nat.le_of_ble_eq_true rfl) (Nat.le_of_ble_eq_true rfl) (Nat.le_of_ble_eq_true rfl) ?_
    rintro _ _ ⟨rfl, rfl⟩
    rw [d3]
    refine z_icmp_ge (tgt := 48) d_MQ_cancel_10 (by decide) (fun h10 => False.elim (nI_ge (show i < S.2.2.2.2.1.length by omega) (by omega) h10)) (fun h10 => ?_)
    refine z_aload_n d_MQ_cancel_13 rfl ?_
    refine z_get d_MQ_cancel_14 zf_MQ_36 (hx) rfl ?_
    refine z_iload_n d_MQ_cancel_17 rfl ?_
    refine z_callV gt_good d_MQ_cancel_18 zv_MQ_90 (u2) rfl (fun l => c_AL_get l g M lw arr es.length mc _ i e u2 u2r (by omega) (by omega) (al_get he)) rfl rfl ⟨Nat.le_of_ble_eq_true rfl, Nat.le_of_ble_eq_true rfl⟩ (Nat.le_of_ble_eq_true rfl) (Nat.le_of_ble_eq_true rfl) (Nat.le_of_ble_eq_true rfl) ?_
    rintro _ _ ⟨rfl, rfl⟩
    refine z_cast (ci := 5) d_MQ_cancel_21 gw_426 k2 rfl rfl ?_
    refine z_get d_MQ_cancel_24 zf_MQ_169 (k2) rfl ?_
    refine z_iload_n d_MQ_cancel_27 rfl ?_
    refine z_icmp_ne (tgt := 42) d_MQ_cancel_28 (by decide) (fun h28 => ?_) (fun h28 => ?_)
    · skip
      have hsm : canI S n = canN S n d (i + 1) := by
        rw [hcn]
        show (if ((S.2.2.2.2.1[i]?).getD (0, 0, 0)).1 = n then _ else _) = _
        rw [k1]
        exact if_neg h28
      refine z_iinc (v := nI (i + 1)) d_MQ_cancel_42 rfl (nI_1 i) (by decide) rfl ?_
      refine z_goto (tgt := 2) d_MQ_cancel_45 (by decide) ?_
      exact ih (i + 1) (by omega) hsm
    · skip
      have h28 : y.1 = n := h28
      refine z_aload_n d_MQ_cancel_31 rfl ?_
      refine z_get d_MQ_cancel_32 zf_MQ_36 (hx) rfl ?_
      refine z_iload_n d_MQ_cancel_35 rfl ?_
      refine z_callV gt_good d_MQ_cancel_36 zv_MQ_172 (u2) rfl (fun l => c_AL_remove l g M lw arr i es cp d1 (by omega) (fun e he => by obtain ⟨j, hj⟩ := List.getElem?_of_mem he; obtain ⟨y, -, hy, -⟩ := d4 j e hj; exact zObj.de hy) (by omega)) rfl rfl ⟨Nat.le_of_ble_eq_true rfl, Nat.le_of_ble_eq_true rfl⟩ (Nat.le_of_ble_eq_true rfl) (Nat.le_of_ble_eq_true rfl) (Nat.le_of_ble_eq_true rfl) ?_
      rintro _ M1 ⟨rfl, a1, a2⟩
      refine z_pop d_MQ_cancel_39 rfl ?_
      refine z_iconst (v := 1) d_MQ_cancel_40 (by decide) ?_
      refine z_ireturn d_MQ_cancel_41 rfl ?_ (by decide) (by decide)
      have hcn2 : canI S n = (1, (S.1, S.2.1, S.2.2.1, S.2.2.2.1, S.2.2.2.2.1.eraseIdx i, S.2.2.2.2.2)) := by
        rw [hcn]
        show (if ((S.2.2.2.2.1[i]?).getD (0, 0, 0)).1 = n then _ else _) = _
        rw [k1]
        exact if_pos h28
      have f1 : ∀ y, M y ≠ none → own y ≠ 33 → M1 y = M y := fun y y1 y2 => a2 y (fun w => y2 (by rw [w]; exact d5)) (fun w => y2 (by rw [w]; exact d6 harz))
      rw [hcn2]
      refine ⟨rfl, own, cap, hm.updTD (fun _ _ => rfl) (by rw [hz0]; simp) (by rw [f1 x (by rw [hx]; simp) (by omega)]; exact hx) rfl (hT.fr (fun w w1 w2 => ⟨f1 w w1 (by omega), w2⟩) (f1 _ (by rw [hz0]; simp) (by omega))) ⟨arr, es.eraseIdx i, cp, a1, d2, ?_, fun j e hj => ?_, d5, d6⟩ (fun y y1 y2 y3 y4 => f1 y y1 y4), hc⟩
      · simp [List.length_eraseIdx, d3]
      · rw [List.getElem?_eraseIdx] at hj
        have key : ∀ j', es[j']? = some e → ∃ x : DS, S.2.2.2.2.1[j']? = some x ∧ M1 e = some (.inr (5, [.int x.1, .int x.2.1, .long x.2.2])) ∧ own e = 33 := fun j' hj' => by
          obtain ⟨w, w1, w2, w3⟩ := d4 j' e hj'
          exact ⟨w, w1, by rw [a2 e (zne w2 u2 (by simp)) (zne w2 u2r (by intro h; cases h))]; exact w2, w3⟩
        show ∃ x : DS, (S.2.2.2.2.1.eraseIdx i)[j]? = some x ∧ _
        rw [List.getElem?_eraseIdx]
        split at hj
        · rename_i hji
          rw [if_pos hji]
          exact key j hj
        · rename_i hji
          rw [if_neg hji]
          exact key (j + 1) hj
set_option maxHeartbeats 4000000 in
set_option maxRecDepth 100000 in
theorem c_MQ_cancel (l : Launch) (g : ZG) (M : ZM) (own : Nat → Nat) (x qarr lt lw : Nat) (qs : List Nat) (S : MS) (cap : Nat) (n : Int32) (hm : MRep M g.2.2.2.1 own x qarr lt lw qs S cap) (hc : cap ≤ 1000) : ZC vcl tlx GT l g y_MQ_cancel b_MQ_cancel 3 (Option.some FieldType.int) (ZRm 11 420 6000) [.ref x, .int n] M (fun r M' => r = some (.int (canI S n).1) ∧ ∃ (own' : Nat → Nat) (cap' : Nat), MRep M' g.2.2.2.1 own' x qarr lt lw qs (canI S n).2 cap' ∧ cap' ≤ 1000) := by
  refine ZC.of (by decide) (Nat.le_of_ble_eq_true rfl) rfl (fun k hz0 => ?_)
  refine z_iconst (v := 0) d_MQ_cancel_0 (by decide) ?_
  refine z_istore_n (i := 2) d_MQ_cancel_1 rfl (by decide) rfl ?_
  exact lp_MQ_cancel g k M own x qarr lt lw qs S cap n hm hc hz0 _ 0 (by simp) rfl
end
section
theorem ALr.zk2 {M M' : ZM} {z a arr cap : Nat} {es es' : List Nat} (h : ALr M z a arr es cap) (h' : ALr M' z a arr es' cap) (hz : M z = some (.inl (0, []))) (e : arr = z) : M' arr = M arr := by
  obtain ⟨⟨mc, ha⟩, hr, hle, -⟩ := h
  obtain ⟨-, hr', hle', -⟩ := h'
  rw [← e, hr] at hz
  have hl := congrArg (fun o : Option ZE => match o with | some (.inl p) => p.2.length | _ => 0) hz
  simp only [List.length_append, List.length_map, List.length_replicate, List.length_nil] at hl
  have hc : cap = 0 := by omega
  have he : es' = [] := List.length_eq_zero_iff.mp (by omega)
  have he0 : es = [] := List.length_eq_zero_iff.mp (by omega)
  rw [hr', hr, he, he0]
/-- unit: a queue's pending items stand (c not 0) or vanish -/
def uniQ (s : QS) (c : Int32) : QS := ((if c = 0 ∧ s.2.1.length = s.2.2.1 then -1 else s.1), (if c = 0 then s.2.1.take (s.2.1.length - s.2.2.1) else s.2.1), 0, s.2.2.2.1, s.2.2.2.2.1, (if c = 0 ∧ kTrans s.1 then s.2.2.2.2.2.1 - nI s.2.2.1 else s.2.2.2.2.2.1), s.2.2.2.2.2.2.1, s.2.2.2.2.2.2.2.1, s.2.2.2.2.2.2.2.2.1, (if c = 0 ∧ s.2.1.length = s.2.2.1 then List.replicate 8 0 else s.2.2.2.2.2.2.2.2.2))
abbrev uniC (s : QS) (u : Int32) : Prop := ¬ s.2.2.1 = 0 ∧ s.2.2.2.1 = u
def uniP (S : MS) (u c : Int32) (i : Nat) : Nat × MS := if uniC (S.2.1 i) u then ((S.2.1 i).2.2.1, (S.1, va_up S.2.1 i (uniQ (S.2.1 i) c), S.2.2)) else (0, S)
def uniN (S : MS) (u c : Int32) (n : Nat) : Nat × MS := match n with
  | 0 => (0, S)
  | n + 1 => ((uniN S u c n).1 + (uniP (uniN S u c n).2 u c n).1, (uniP (uniN S u c n).2 u c n).2)
termination_by n
def uniI (S : MS) (u c : Int32) : Int32 × MS :=
  if u ≤ 0 ∨ 9 < u then (-2, S) else (nI (uniN S u c 32).1, lookN (uniN S u c 32).2 32)
/-- age -/
def ageQ (s : QS) : QS := (-1, [], s.2.2.1, s.2.2.2.1, s.2.2.2.2.1, s.2.2.2.2.2.1, s.2.2.2.2.2.2.1, s.2.2.2.2.2.2.2.1, s.2.2.2.2.2.2.2.2.1, List.replicate 8 0)
abbrev ageC (s : QS) (b : Int64) : Prop := kTemp s.1 ∧ s.2.2.1 = 0 ∧ s.2.2.2.2.1 < b
def ageP (S : MS) (b : Int64) (i : Nat) : Nat × MS := if ageC (S.2.1 i) b then (1, (S.1, va_up S.2.1 i (ageQ (S.2.1 i)), S.2.2)) else (0, S)
def ageN (S : MS) (b : Int64) (n : Nat) : Nat × MS := match n with
  | 0 => (0, S)
  | n + 1 => ((ageN S b n).1 + (ageP (ageN S b n).2 b n).1, (ageP (ageN S b n).2 b n).2)
termination_by n
def ageI (S : MS) (b : Int64) : Int32 × MS := (nI (ageN S b 32).1, (ageN S b 32).2)
theorem uniN_zero (S : MS) (u c : Int32) : uniN S u c 0 = (0, S) := by rw [uniN]
theorem uniN_succ (S : MS) (u c : Int32) (n : Nat) : uniN S u c (n + 1) = ((uniN S u c n).1 + (uniP (uniN S u c n).2 u c n).1, (uniP (uniN S u c n).2 u c n).2) := by rw [uniN]
theorem ageN_zero (S : MS) (b : Int64) : ageN S b 0 = (0, S) := by rw [ageN]
theorem ageN_succ (S : MS) (b : Int64) (n : Nat) : ageN S b (n + 1) = ((ageN S b n).1 + (ageP (ageN S b n).2 b n).1, (ageP (ageN S b n).2 b n).2) := by rw [ageN]
end
section
set_option maxHeartbeats 4000000 in
set_option maxRecDepth 100000 in
theorem lp_MQ_unit (g : ZG) (k : ZK) (x qarr lt lw : Nat) (qs : List Nat) (S : MS) (cap : Nat) (u c : Int32) (hc : cap ≤ 1000) (hbd : (lookN (uniN S u c 32).2 32).2.2.1.length ≤ 600) (hgo : ¬ (u ≤ 0 ∨ 9 < u)) : ∀ (d i : Nat) (M : ZM) (own : Nat → Nat) (lo : Option Value), i + d = 32 → MRep M g.2.2.2.1 own x qarr lt lw qs (uniN S u c i).2 cap → M g.2.2.2.1 = some (.inl (0, [])) → ZW vcl tlx GT "MonitorQueues" b_MQ_unit 6 (Option.some FieldType.int) "unit" (ZRm 11 70 6000) g k (fun r M' => r = some (.int (uniI S u c).1) ∧ ∃ (own' : Nat → Nat) (cap' : Nat), MRep M' g.2.2.2.1 own' x qarr lt lw qs (uniI S u c).2 cap' ∧ cap' ≤ 1000) [some (.ref x), some (.int u), some (.int c), some (.int (nI ((uniN S u c i).1))), some (.int (nI i)), lo] 18 [] (M) 0 0 := by
  intro d
  induction d with
  | zero =>
    intro i M own lo hi hm hz0
    obtain rfl : i = 32 := by omega
    obtain ⟨⟨hx, hqr, hl, hX, hXq⟩, hQ, hT, hD, hzo⟩ := id hm
    refine z_iload d_MQ_unit_18 rfl ?_
    refine z_aload_n d_MQ_unit_20 rfl ?_
    refine z_get d_MQ_unit_21 zf_MQ_24 (hx) rfl ?_
    refine z_alen d_MQ_unit_24 (hqr) rfl ?_
    rw [show nI (List.map Value.ref qs).length = nI 32 by rw [List.length_map, hl]]
    refine z_icmp_ge (tgt := 69) d_MQ_unit_25 (by decide) (fun h25 => ?_) (fun h25 => False.elim (h25 (nI_le (Nat.le_refl _) (by decide))))
    refine z_aload_n d_MQ_unit_69 rfl ?_
    refine z_callV gt_good d_MQ_unit_70 zv_MQ_69 (hm.1.1) rfl (fun l => c_MQ_lookAtTriggers l g M own x qarr lt lw qs _ cap hm hc hbd) rfl rfl ⟨Nat.le_of_ble_eq_true rfl, Nat.le_of_ble_eq_true rfl⟩ (Nat.le_of_ble_eq_true rfl) (by first | (dsimp only [ZRm]; omega) | (dsimp only [ZRm, List.length]; omega) | (simp [ZRm]; done)) (by first | (dsimp only [ZRm]; omega) | (dsimp only [ZRm, List.length]; omega) | (simp [ZRm]; done)) ?_
    rintro _ M3 ⟨rfl, own3, cap3, hm3, hc3⟩
    refine z_iload_n d_MQ_unit_73 rfl ?_
    refine z_ireturn d_MQ_unit_74 rfl ?_ (by first | (dsimp only [ZRm]; omega) | (dsimp only [ZRm, List.length]; omega) | (simp [ZRm]; done)) (by first | (dsimp only [ZRm]; omega) | (dsimp only [ZRm, List.length]; omega) | (simp [ZRm]; done))
    rw [show uniI S u c = _ from by unfold uniI; rw [if_neg hgo]]
    exact ⟨rfl, own3, cap3, hm3, hc3⟩
  | succ d ih =>
    intro i M own lo hi hm hz0
    obtain ⟨⟨hx, hqr, hl, hX, hXq⟩, hQ, hT, hD, hzo⟩ := id hm
    obtain ⟨qa, hqa⟩ : ∃ qa, qs[i]? = some qa := ⟨qs[i], List.getElem?_eq_getElem (by omega)⟩
    have hv : (qs.map Value.ref)[i]? = some (.ref qa) := by rw [List.getElem?_map, hqa]; rfl
    obtain ⟨la, pa, arr, es, cp, tr, hqx⟩ := hQ i qa hqa
    obtain ⟨q1, ⟨⟨mc, q2⟩, q2r, q2c, q2z⟩, q2b, ⟨q3, q3e, q3n⟩, q4, q5, q6, q7, q8, q9, q10, q11⟩ := id hqx
    have ht := TrR.cases q7
    have n1 : pa ≠ qa := zne q4 q1 (by intro h; cases h)
    have n2 : la ≠ qa := zne q2 q1 (by simp)
    have n3 : arr ≠ qa := zne q2r q1 (by intro h; cases h)
    have n4 : pa ≠ la := zne q4 q2 (by intro h; cases h)
    have n5 : pa ≠ arr := zne q4 q2r (by simp)
    refine z_iload d_MQ_unit_18 rfl ?_
    refine z_aload_n d_MQ_unit_20 rfl ?_
    refine z_get d_MQ_unit_21 zf_MQ_24 (hx) rfl ?_
    refine z_alen d_MQ_unit_24 (hqr) rfl ?_
    rw [show nI (List.map Value.ref qs).length = nI 32 by rw [List.length_map, hl]]
    refine z_icmp_ge (tgt := 69) d_MQ_unit_25 (by decide) (fun h25 => False.elim (nI_ge (show i < 32 by omega) (by decide) h25)) (fun h25 => ?_)
    refine z_aload_n d_MQ_unit_28 rfl ?_
    refine z_get d_MQ_unit_29 zf_MQ_24 (hx) rfl ?_
    refine z_iload d_MQ_unit_32 rfl ?_
    refine z_aald d_MQ_unit_34 hqr rfl rfl (by omega) hv ?_
    refine z_astore d_MQ_unit_35 (by decide) rfl ?_
    refine z_aload d_MQ_unit_37 rfl ?_
    refine z_callV gt_good d_MQ_unit_39 zv_MQ_46 (q1) rfl (fun l => c_Qu_isLocked l g M qa la pa _ _ _ _ _ _ _ tr q1) rfl rfl ⟨Nat.le_of_ble_eq_true rfl, Nat.le_of_ble_eq_true rfl⟩ (Nat.le_of_ble_eq_true rfl) (Nat.le_of_ble_eq_true rfl) (Nat.le_of_ble_eq_true rfl) ?_
    rintro _ _ ⟨rfl, rfl⟩
    refine z_if_eq (tgt := 63) d_MQ_unit_42 (by decide) (fun h42 => ?_) (fun h42 => ?_)
    · skip
      have hno : ¬ uniC ((uniN S u c i).2.2.1 i) u := fun h => h.1 ((nI_le0 (by omega)).mp (zift h42))
      refine z_iinc (v := nI (i + 1)) d_MQ_unit_63 rfl (nI_1 i) (by decide) rfl ?_
      have hs : uniN S u c (i + 1) = ((uniN S u c i).1 + 0, (uniN S u c i).2) := by
        rw [uniN_succ]
        unfold uniP
        rw [if_neg hno]
      refine z_goto (tgt := 18) d_MQ_unit_66 (by decide) ?_
      have hh := ih (i + 1) M own (some (.ref qa)) (by omega) (by rw [hs]; exact hm) hz0
      rw [hs] at hh
      exact hh
    · skip
      refine z_aload d_MQ_unit_45 rfl ?_
      refine z_get d_MQ_unit_47 zf_MQ_50 (q1) rfl ?_
      refine z_iload_n d_MQ_unit_50 rfl ?_
      refine z_icmp_ne (tgt := 63) d_MQ_unit_51 (by decide) (fun h51 => ?_) (fun h51 => ?_)
      · skip
        have hno : ¬ uniC ((uniN S u c i).2.2.1 i) u := fun h => h51 h.2
        refine z_iinc (v := nI (i + 1)) d_MQ_unit_63 rfl (nI_1 i) (by decide) rfl ?_
        have hs : uniN S u c (i + 1) = ((uniN S u c i).1 + 0, (uniN S u c i).2) := by
          rw [uniN_succ]
          unfold uniP
          rw [if_neg hno]
        refine z_goto (tgt := 18) d_MQ_unit_66 (by decide) ?_
        have hh := ih (i + 1) M own (some (.ref qa)) (by omega) (by rw [hs]; exact hm) hz0
        rw [hs] at hh
        exact hh
      · skip
        have hyes : uniC ((uniN S u c i).2.2.1 i) u := ⟨fun e => zifn h42 ((nI_le0 (by omega)).mpr e), h51⟩
        refine z_iload_n d_MQ_unit_54 rfl ?_
        refine z_aload d_MQ_unit_55 rfl ?_
        refine z_iload_n d_MQ_unit_57 rfl ?_
        have harz : arr ≠ g.2.2.2.1 := zne q2r hz0 (by intro w; have := q6; have := hyes.1; cases es with | nil => rw [List.length_nil] at q3; omega | cons a b => simp at w)
        refine z_callV gt_good d_MQ_unit_58 zv_MQ_175 (q1) rfl (fun l => c_Qu_endPending l g M qa la pa _ _ _ _ _ _ tr arr es cp _ _ c q1 ⟨⟨mc, q2⟩, q2r, q2c, q2z⟩ q4 (by omega) (by rw [List.length_map, q5]; decide) (fun e he => by obtain ⟨j, hj⟩ := List.getElem?_of_mem he; obtain ⟨y, -, hy, -⟩ := q3e j e hj; exact ⟨y, hy⟩) (by rw [q3]; exact q6)) rfl rfl ⟨Nat.le_of_ble_eq_true rfl, Nat.le_of_ble_eq_true rfl⟩ (Nat.le_of_ble_eq_true rfl) (Nat.le_of_ble_eq_true rfl) (Nat.le_of_ble_eq_true rfl) ?_
        rintro _ M1 ⟨rfl, e1, e2, e3, e5⟩
        refine z_iadd d_MQ_unit_61 ?_
        rw [nI_add]
        refine z_istore_n (i := 3) d_MQ_unit_62 rfl (by decide) rfl ?_
        refine z_iinc (v := nI (i + 1)) d_MQ_unit_63 rfl (nI_1 i) (by decide) rfl ?_
        have hs : uniN S u c (i + 1) = ((uniN S u c i).1 + ((uniN S u c i).2.2.1 i).2.2.1, ((uniN S u c i).2.1, va_up (uniN S u c i).2.2.1 i (uniQ ((uniN S u c i).2.2.1 i) c), (uniN S u c i).2.2.2)) := by
          rw [uniN_succ]
          unfold uniP
          rw [if_pos hyes]
        have hr2 : QRep M1 g.2.2.2.1 (ow M own i) i qa (uniQ ((uniN S u c i).2.2.1 i) c) := by
          refine hqx.gen 0 (if c = 0 then es.length - ((uniN S u c i).2.2.1 i).2.2.1 else es.length) (tr' := tr) ?_ ?_ ?_ ?_ ?_ ?_ (q7.keep (fun ta fs h => ?_)) (fun e y h => ?_)
          · rw [e1]
            unfold uniQ fQs
            rw [q3]
            rfl
          · by_cases h0 : c = 0
            · rw [if_pos h0] at e2 ⊢
              rw [List.drop_zero]
              exact e2
            · rw [if_neg h0] at e2 ⊢
              rw [dt_all]; exact e2
          · show (if c = 0 then _ else _) = _
            by_cases h0 : c = 0
            · rw [if_pos h0, if_pos h0, q3, List.drop_zero]
            · rw [if_neg h0, if_neg h0, q3, dt_all]
          · rw [e3]
            show some (Sum.inl (1, if c = 0 ∧ es.length = _ then _ else _)) = some (Sum.inl (1, List.map Value.int (if c = 0 ∧ _ then _ else _)))
            rw [q3, List.length_map, q5]
            split <;> rfl
          · show (if c = 0 ∧ _ then _ else _ : List Int32).length = 8
            split
            · rfl
            · exact q5
          · exact Nat.zero_le _
          · exact e5 ta (zne h q1 (by simp)) (zne h q2 (by simp)) (zne h q2r (by intro h; cases h)) (zne h q4 (by intro h; cases h))
          · exact e5 e (zne h q1 (by simp)) (zne h q2 (by simp)) (zne h q2r (by intro h; cases h)) (zne h q4 (by intro h; cases h))
        have fr2 : ∀ y, M y ≠ none → own y ≠ i → M1 y = M y := fun y y1 y2 => e5 y (fun w => y2 (by rw [w]; exact q8)) (fun w => y2 (by rw [w]; exact q9)) (fun w => y2 (by rw [w]; exact q11 harz)) (fun w => y2 (by rw [w]; exact q10))
        have hm2 := hm.updQ hqa (by rw [hz0]; simp) fr2 hr2
        have hz2 : M1 g.2.2.2.1 = some (.inl (0, [])) := by rw [fr2 _ (by rw [hz0]; simp) (by omega)]; exact hz0
        refine z_goto (tgt := 18) d_MQ_unit_66 (by decide) ?_
        have hh := ih (i + 1) M1 _ (some (.ref qa)) (by omega) (by rw [hs]; exact hm2) hz2
        rw [hs] at hh
        exact hh
set_option maxHeartbeats 4000000 in
set_option maxRecDepth 100000 in
theorem c_MQ_unit (l : Launch) (g : ZG) (M : ZM) (own : Nat → Nat) (x qarr lt lw : Nat) (qs : List Nat) (S : MS) (cap : Nat) (u c : Int32) (hm : MRep M g.2.2.2.1 own x qarr lt lw qs S cap) (hc : cap ≤ 1000) (hbd : (lookN (uniN S u c 32).2 32).2.2.1.length ≤ 600) : ZC vcl tlx GT l g y_MQ_unit b_MQ_unit 6 (Option.some FieldType.int) (ZRm 11 70 6000) [.ref x, .int u, .int c] M (fun r M' => r = some (.int (uniI S u c).1) ∧ ∃ (own' : Nat → Nat) (cap' : Nat), MRep M' g.2.2.2.1 own' x qarr lt lw qs (uniI S u c).2 cap' ∧ cap' ≤ 1000) := by
  refine ZC.of (by decide) (Nat.le_of_ble_eq_true rfl) rfl (fun k hz0 => ?_)
  have hgo0 : True := trivial
  refine z_iload_n d_MQ_unit_0 rfl ?_
  refine z_if_le (tgt := 10) d_MQ_unit_1 (by decide) (fun h1 => ?_) (fun h1 => ?_)
  · skip
    have hgo : u ≤ 0 ∨ 9 < u := Or.inl h1
    refine z_bipush (v := (-2)) d_MQ_unit_10 (by decide) ?_
    refine z_ireturn d_MQ_unit_12 rfl ?_ (by decide) (by decide)
    rw [show uniI S u c = _ from by unfold uniI; rw [if_pos hgo]]
    exact ⟨rfl, own, cap, hm, hc⟩
  · skip
    refine z_iload_n d_MQ_unit_4 rfl ?_
    refine z_bipush (v := 9) d_MQ_unit_5 (by decide) ?_
    refine z_icmp_le (tgt := 13) d_MQ_unit_7 (by decide) (fun h7 => ?_) (fun h7 => ?_)
    · skip
      have hgo : ¬ (u ≤ 0 ∨ 9 < u) := fun h => h.elim h1 (fun h => k2_nlt h7 h)
      refine z_iconst (v := 0) d_MQ_unit_13 (by decide) ?_
      refine z_istore_n (i := 3) d_MQ_unit_14 rfl (by decide) rfl ?_
      refine z_iconst (v := 0) d_MQ_unit_15 (by decide) ?_
      refine z_istore d_MQ_unit_16 (by decide) rfl ?_
      have hh := lp_MQ_unit g k x qarr lt lw qs S cap u c hc hbd hgo 32 0 M own none rfl (by rw [uniN_zero]; exact hm) hz0
      rw [uniN_zero] at hh
      exact hh
    · skip
      have hgo : u ≤ 0 ∨ 9 < u := Or.inr (k2_lt h7)
      refine z_bipush (v := (-2)) d_MQ_unit_10 (by decide) ?_
      refine z_ireturn d_MQ_unit_12 rfl ?_ (by decide) (by decide)
      rw [show uniI S u c = _ from by unfold uniI; rw [if_pos hgo]]
      exact ⟨rfl, own, cap, hm, hc⟩
set_option maxHeartbeats 4000000 in
set_option maxRecDepth 100000 in
theorem lp_MQ_age (g : ZG) (k : ZK) (x qarr lt lw : Nat) (qs : List Nat) (S : MS) (cap : Nat) (b : Int64) (hc : cap ≤ 1000) : ∀ (d i : Nat) (M : ZM) (own : Nat → Nat) (lo : Option Value), i + d = 32 → MRep M g.2.2.2.1 own x qarr lt lw qs (ageN S b i).2 cap → M g.2.2.2.1 = some (.inl (0, [])) → ZW vcl tlx GT "MonitorQueues" b_MQ_age 6 (Option.some FieldType.int) "age" (ZRm 11 70 6000) g k (fun r M' => r = some (.int (ageI S b).1) ∧ ∃ (own' : Nat → Nat) (cap' : Nat), MRep M' g.2.2.2.1 own' x qarr lt lw qs (ageI S b).2 cap' ∧ cap' ≤ 1000) [some (.ref x), some (.long b), none, some (.int (nI ((ageN S b i).1))), some (.int (nI i)), lo] 5 [] (M) 0 0 := by
  intro d
  induction d with
  | zero =>
    intro i M own lo hi hm hz0
    obtain rfl : i = 32 := by omega
    obtain ⟨⟨hx, hqr, hl, hX, hXq⟩, hQ, hT, hD, hzo⟩ := id hm
    refine z_iload d_MQ_age_5 rfl ?_
    refine z_aload_n d_MQ_age_7 rfl ?_
    refine z_get d_MQ_age_8 zf_MQ_24 (hx) rfl ?_
    refine z_alen d_MQ_age_11 (hqr) rfl ?_
    rw [show nI (List.map Value.ref qs).length = nI 32 by rw [List.length_map, hl]]
    refine z_icmp_ge (tgt := 64) d_MQ_age_12 (by decide) (fun h12 => ?_) (fun h12 => False.elim (h12 (nI_le (Nat.le_refl _) (by decide))))
    refine z_iload_n d_MQ_age_64 rfl ?_
    refine z_ireturn d_MQ_age_65 rfl ?_ (by first | (dsimp only [ZRm]; omega) | (dsimp only [ZRm, List.length]; omega) | (simp [ZRm]; done)) (by first | (dsimp only [ZRm]; omega) | (dsimp only [ZRm, List.length]; omega) | (simp [ZRm]; done))
    exact ⟨rfl, own, cap, hm, hc⟩
  | succ d ih =>
    intro i M own lo hi hm hz0
    obtain ⟨⟨hx, hqr, hl, hX, hXq⟩, hQ, hT, hD, hzo⟩ := id hm
    obtain ⟨qa, hqa⟩ : ∃ qa, qs[i]? = some qa := ⟨qs[i], List.getElem?_eq_getElem (by omega)⟩
    have hv : (qs.map Value.ref)[i]? = some (.ref qa) := by rw [List.getElem?_map, hqa]; rfl
    obtain ⟨la, pa, arr, es, cp, tr, hqx⟩ := hQ i qa hqa
    obtain ⟨q1, ⟨⟨mc, q2⟩, q2r, q2c, q2z⟩, q2b, ⟨q3, q3e, q3n⟩, q4, q5, q6, q7, q8, q9, q10, q11⟩ := id hqx
    have ht := TrR.cases q7
    have n1 : pa ≠ qa := zne q4 q1 (by intro h; cases h)
    have n2 : la ≠ qa := zne q2 q1 (by simp)
    have n3 : arr ≠ qa := zne q2r q1 (by intro h; cases h)
    have n4 : pa ≠ la := zne q4 q2 (by intro h; cases h)
    have n5 : pa ≠ arr := zne q4 q2r (by simp)
    refine z_iload d_MQ_age_5 rfl ?_
    refine z_aload_n d_MQ_age_7 rfl ?_
    refine z_get d_MQ_age_8 zf_MQ_24 (hx) rfl ?_
    refine z_alen d_MQ_age_11 (hqr) rfl ?_
    rw [show nI (List.map Value.ref qs).length = nI 32 by rw [List.length_map, hl]]
    refine z_icmp_ge (tgt := 64) d_MQ_age_12 (by decide) (fun h12 => False.elim (nI_ge (show i < 32 by omega) (by decide) h12)) (fun h12 => ?_)
    refine z_aload_n d_MQ_age_15 rfl ?_
    refine z_get d_MQ_age_16 zf_MQ_24 (hx) rfl ?_
    refine z_iload d_MQ_age_19 rfl ?_
    refine z_aald d_MQ_age_21 hqr rfl rfl (by omega) hv ?_
    refine z_astore d_MQ_age_22 (by decide) rfl ?_
    refine z_aload d_MQ_age_24 rfl ?_
    refine z_callV gt_good d_MQ_age_26 zv_MQ_79 (q1) rfl (fun l => c_Qu_isTemporary l g M qa la pa _ _ _ _ _ _ _ tr q1) rfl rfl ⟨Nat.le_of_ble_eq_true rfl, Nat.le_of_ble_eq_true rfl⟩ (Nat.le_of_ble_eq_true rfl) (Nat.le_of_ble_eq_true rfl) (Nat.le_of_ble_eq_true rfl) ?_
    rintro _ _ ⟨rfl, rfl⟩
    refine z_if_eq (tgt := 58) d_MQ_age_29 (by decide) (fun h29 => ?_) (fun h29 => ?_)
    · skip
      have hno : ¬ ageC ((ageN S b i).2.2.1 i) b := fun h => zif0 h29 h.1
      refine z_iinc (v := nI (i + 1)) d_MQ_age_58 rfl (nI_1 i) (by decide) rfl ?_
      have hs : ageN S b (i + 1) = ((ageN S b i).1 + 0, (ageN S b i).2) := by
        rw [ageN_succ]
        unfold ageP
        rw [if_neg hno]
      refine z_goto (tgt := 5) d_MQ_age_61 (by decide) ?_
      have hh := ih (i + 1) M own (some (.ref qa)) (by omega) (by rw [hs]; exact hm) hz0
      rw [hs] at hh
      exact hh
    · skip
      refine z_aload d_MQ_age_32 rfl ?_
      refine z_callV gt_good d_MQ_age_34 zv_MQ_46 (q1) rfl (fun l => c_Qu_isLocked l g M qa la pa _ _ _ _ _ _ _ tr q1) rfl rfl ⟨Nat.le_of_ble_eq_true rfl, Nat.le_of_ble_eq_true rfl⟩ (Nat.le_of_ble_eq_true rfl) (Nat.le_of_ble_eq_true rfl) (Nat.le_of_ble_eq_true rfl) ?_
      rintro _ _ ⟨rfl, rfl⟩
      refine z_if_ne (tgt := 58) d_MQ_age_37 (by decide) (fun h37 => ?_) (fun h37 => ?_)
      · skip
        have hno : ¬ ageC ((ageN S b i).2.2.1 i) b := fun h => zifn h37 ((nI_le0 (by omega)).mpr h.2.1)
        refine z_iinc (v := nI (i + 1)) d_MQ_age_58 rfl (nI_1 i) (by decide) rfl ?_
        have hs : ageN S b (i + 1) = ((ageN S b i).1 + 0, (ageN S b i).2) := by
          rw [ageN_succ]
          unfold ageP
          rw [if_neg hno]
        refine z_goto (tgt := 5) d_MQ_age_61 (by decide) ?_
        have hh := ih (i + 1) M own (some (.ref qa)) (by omega) (by rw [hs]; exact hm) hz0
        rw [hs] at hh
        exact hh
      · skip
        refine z_aload d_MQ_age_40 rfl ?_
        refine z_get d_MQ_age_42 zf_MQ_179 (q1) rfl ?_
        refine z_lload_n d_MQ_age_45 rfl ?_
        refine z_lcmp d_MQ_age_46 ?_
        refine z_if_ge (tgt := 58) d_MQ_age_47 (by decide) (fun h47 => ?_) (fun h47 => ?_)
        · skip
          have hno : ¬ ageC ((ageN S b i).2.2.1 i) b := fun h => i64_nle.mpr h.2.2 ((lg_cmp_ge _ _).mp h47)
          refine z_iinc (v := nI (i + 1)) d_MQ_age_58 rfl (nI_1 i) (by decide) rfl ?_
          have hs : ageN S b (i + 1) = ((ageN S b i).1 + 0, (ageN S b i).2) := by
            rw [ageN_succ]
            unfold ageP
            rw [if_neg hno]
          refine z_goto (tgt := 5) d_MQ_age_61 (by decide) ?_
          have hh := ih (i + 1) M own (some (.ref qa)) (by omega) (by rw [hs]; exact hm) hz0
          rw [hs] at hh
          exact hh
        · skip
          have hyes : ageC ((ageN S b i).2.2.1 i) b := ⟨zif1 h29, (nI_le0 (by omega)).mp (zift h37), i64_nle.mp (fun q => h47 ((lg_cmp_ge _ _).mpr q))⟩
          refine z_aload d_MQ_age_50 rfl ?_
          refine z_callV gt_good d_MQ_age_52 zv_MQ_182 (q1) rfl (fun l => c_Qu_becomeEmpty l g M qa la pa _ _ _ _ _ _ _ tr arr es cp _ q1 ⟨⟨mc, q2⟩, q2r, q2c, q2z⟩ q4 (by omega) (by rw [List.length_map, q5]; decide)) rfl rfl ⟨Nat.le_of_ble_eq_true rfl, Nat.le_of_ble_eq_true rfl⟩ (Nat.le_of_ble_eq_true rfl) (Nat.le_of_ble_eq_true rfl) (Nat.le_of_ble_eq_true rfl) ?_
          rintro _ M1 ⟨rfl, e1, e2, e3, e5⟩
          refine z_iinc (v := nI ((ageN S b i).1 + 1)) d_MQ_age_55 rfl (nI_1 _) (by decide) rfl ?_
          refine z_iinc (v := nI (i + 1)) d_MQ_age_58 rfl (nI_1 i) (by decide) rfl ?_
          have hs : ageN S b (i + 1) = ((ageN S b i).1 + 1, ((ageN S b i).2.1, va_up (ageN S b i).2.2.1 i (ageQ ((ageN S b i).2.2.1 i)), (ageN S b i).2.2.2)) := by
            rw [ageN_succ]
            unfold ageP
            rw [if_pos hyes]
          have hr2 : QRep M1 g.2.2.2.1 (ow M own i) i qa (ageQ ((ageN S b i).2.2.1 i)) := by
            refine hqx.gen 0 0 (tr' := tr) e1 (by rw [List.take_zero]; exact e2) (by rw [List.take_zero]; rfl) ?_ rfl ?_ (q7.keep (fun ta fs h => ?_)) (fun e y h => ?_)
            · rw [e3, List.length_map, q5]
              rfl
            · show ((ageN S b i).2.2.1 i).2.2.1 ≤ 0
              rw [hyes.2.1]; exact Nat.le_refl _
            · exact e5 ta (zne h q1 (by simp)) (zne h q2 (by simp)) (zne h q2r (by intro h; cases h)) (zne h q4 (by intro h; cases h))
            · exact e5 e (zne h q1 (by simp)) (zne h q2 (by simp)) (zne h q2r (by intro h; cases h)) (zne h q4 (by intro h; cases h))
          have fr2 : ∀ y, M y ≠ none → own y ≠ i → M1 y = M y := fun y y1 y2 => by
            by_cases w : y = arr
            · by_cases wz : arr = g.2.2.2.1
              · rw [w]; exact ALr.zk2 ⟨⟨mc, q2⟩, q2r, q2c, q2z⟩ e2 hz0 wz
              · exact absurd (by rw [w]; exact q11 wz) y2
            · exact e5 y (fun w => y2 (by rw [w]; exact q8)) (fun w => y2 (by rw [w]; exact q9)) w (fun w => y2 (by rw [w]; exact q10))
          have hm2 := hm.updQ hqa (by rw [hz0]; simp) fr2 hr2
          have hz2 : M1 g.2.2.2.1 = some (.inl (0, [])) := by rw [fr2 _ (by rw [hz0]; simp) (by omega)]; exact hz0
          refine z_goto (tgt := 5) d_MQ_age_61 (by decide) ?_
          have hh := ih (i + 1) M1 _ (some (.ref qa)) (by omega) (by rw [hs]; exact hm2) hz2
          rw [hs] at hh
          exact hh
set_option maxHeartbeats 4000000 in
set_option maxRecDepth 100000 in
theorem c_MQ_age (l : Launch) (g : ZG) (M : ZM) (own : Nat → Nat) (x qarr lt lw : Nat) (qs : List Nat) (S : MS) (cap : Nat) (b : Int64) (hm : MRep M g.2.2.2.1 own x qarr lt lw qs S cap) (hc : cap ≤ 1000) : ZC vcl tlx GT l g y_MQ_age b_MQ_age 6 (Option.some FieldType.int) (ZRm 11 70 6000) [.ref x, .long b] M (fun r M' => r = some (.int (ageI S b).1) ∧ ∃ (own' : Nat → Nat) (cap' : Nat), MRep M' g.2.2.2.1 own' x qarr lt lw qs (ageI S b).2 cap' ∧ cap' ≤ 1000) := by
  refine ZC.of (by decide) (Nat.le_of_ble_eq_true rfl) rfl (fun k hz0 => ?_)
  refine z_iconst (v := 0) d_MQ_age_0 (by decide) ?_
  refine z_istore_n (i := 3) d_MQ_age_1 rfl (by decide) rfl ?_
  refine z_iconst (v := 0) d_MQ_age_2 (by decide) ?_
  refine z_istore d_MQ_age_3 (by decide) rfl ?_
  have hh := lp_MQ_age g k x qarr lt lw qs S cap b hc 32 0 M own none rfl (by rw [ageN_zero]; exact hm) hz0
  rw [ageN_zero] at hh
  exact hh
end
section
def q0S : QS := (-1, [], 0, 0, 0, 0, 0, 0, none, List.replicate 8 0)
def roomS (r : Int32) : Int32 := if 1 < (if 4096 < r then 4096 else r) then (if 4096 < r then 4096 else r) else 1
def iniS (r : Int32) : MS := (roomS r, fun _ => q0S, [], 0, [], 0, 0)
theorem q0_rep {M : ZM} {z qa la pa i : Nat} {own : Nat → Nat} {mc : Int32} (hq : M qa = some (.inr (1, fQ la pa (-1) 0 0 0 0 0 0 .null))) (hl : M la = some (.inr (6, fAL z 0 mc))) (hp : M pa = some (.inl (1, List.replicate 8 (.int 0)))) (hz : M z = some (.inl (0, []))) (o1 : own qa = i) (o2 : own la = i) (o3 : own pa = i) : QRep M z own i qa q0S :=
  ⟨la, pa, z, [], 0, .null, hq, ⟨⟨mc, hl⟩, hz, Nat.le_refl _, fun _ => rfl⟩, Nat.zero_le _, ⟨rfl, fun j e h => by simp at h, List.nodup_nil⟩, hp, rfl, Nat.le_refl _, rfl, o1, o2, o3, fun h => absurd rfl h⟩
theorem ini_set (qs : List Nat) (q i : Nat) (h : qs.length = i) (hi : i < 32) : (qs.map Value.ref ++ List.replicate (32 - i) Value.null).set i (Value.ref q) = (qs ++ [q]).map Value.ref ++ List.replicate (32 - (i + 1)) Value.null := by
  have := al_set qs q (cap := 32) (k := 0) (by omega) (by omega)
  simp only [List.replicate_zero, List.append_nil, h, List.length_append, List.length_singleton, Nat.add_zero] at this
  exact this
end
section
set_option maxHeartbeats 4000000 in
set_option maxRecDepth 100000 in
theorem lp_MQ_init (g : ZG) (k : ZK) (x qarr : Nat) (r : Int32) : ∀ (d i : Nat) (M : ZM) (own : Nat → Nat) (qs : List Nat), i + d = 32 → qs.length = i → M x = some (.inr (0, [.int (roomS r), .ref qarr, .null, .null, .int 0, .int 0, .long 0])) → M qarr = some (.inl (4, qs.map Value.ref ++ List.replicate (32 - i) .null)) → (∀ (j qa : Nat), qs[j]? = some qa → QRep M g.2.2.2.1 own j qa q0S) → own x = 34 → own qarr = 34 → own g.2.2.2.1 = 99 → M g.2.2.2.1 = some (.inl (0, [])) → ZW vcl tlx GT "MonitorQueues" b_MQ_init 3 none "<init>" (ZRm 6 110 800) g k (fun v M' => v = none ∧ ∃ (own : Nat → Nat) (qarr lt lw : Nat) (qs : List Nat), MRep M' g.2.2.2.1 own x qarr lt lw qs (iniS r) 0) [some (.ref x), some (.int r), some (.int (nI i))] 30 [] (M) (1 + 3 * i) (32 + 21 * i) := by
  intro d
  induction d with
  | zero =>
    intro i M own qs hi hql hx hqr hQ hX hXq hzo hz0
    obtain rfl : i = 32 := by omega
    have nqx : qarr ≠ x := zne hqr hx (by intro h; cases h)
    refine z_iload_n d_MQ_init_30 rfl ?_
    refine z_bipush (v := 32) d_MQ_init_31 (by decide) ?_
    refine z_icmp_ge (tgt := 55) d_MQ_init_33 (by decide) (fun h33 => ?_) (fun h33 => False.elim (h33 (by decide)))
    refine z_aload_n d_MQ_init_55 rfl ?_
    refine z_new (ci := 6) (fs := [.null, .int 0, .int 0]) d_MQ_init_56 ⟨_, T_AL, 3, ty_AL, rfl, in_AL, zl_AL, gw_143, gw_78, gw_41, rfl, by decide⟩ (by first | (dsimp only [ZRm]; omega) | (dsimp only [ZRm, List.length]; omega) | (simp [ZRm]; omega) | (simp [ZRm]; done)) (by first | (dsimp only [ZRm]; omega) | (dsimp only [ZRm, List.length]; omega) | (simp [ZRm]; omega) | (simp [ZRm]; done)) (fun l1 hl1 => ?_)
    have nx1 : x ≠ l1 := zfresh_ne hx hl1
    refine z_dup d_MQ_init_59 rfl ?_
    refine z_callI gt_good d_MQ_init_60 zi_MQ_31 (fun l => c_AL_init l g _ l1 (.int 0) (.int 0) (zset_self _ _ _)) rfl rfl ⟨Nat.le_of_ble_eq_true rfl, Nat.le_of_ble_eq_true rfl⟩ (Nat.le_of_ble_eq_true rfl) (by first | (dsimp only [ZRm]; omega) | (dsimp only [ZRm, List.length]; omega) | (simp [ZRm]; omega) | (simp [ZRm]; done)) (by first | (dsimp only [ZRm]; omega) | (dsimp only [ZRm, List.length]; omega) | (simp [ZRm]; omega) | (simp [ZRm]; done)) ?_
    rintro _ _ ⟨rfl, rfl⟩
    rw [zset_zset]
    refine z_putF d_MQ_init_63 zp_MQ_32 rfl (by rw [zset_ne nx1]; exact hx) rfl rfl ?_
    refine z_aload_n d_MQ_init_66 rfl ?_
    refine z_new (ci := 6) (fs := [.null, .int 0, .int 0]) d_MQ_init_67 ⟨_, T_AL, 3, ty_AL, rfl, in_AL, zl_AL, gw_143, gw_78, gw_41, rfl, by decide⟩ (by first | (dsimp only [ZRm]; omega) | (dsimp only [ZRm, List.length]; omega) | (simp [ZRm]; omega) | (simp [ZRm]; done)) (by first | (dsimp only [ZRm]; omega) | (dsimp only [ZRm, List.length]; omega) | (simp [ZRm]; omega) | (simp [ZRm]; done)) (fun l2 hl2 => ?_)
    have hl2a := zset_none hl2
    have hl2b := zset_none hl2a
    have nx2 : x ≠ l2 := zfresh_ne hx hl2b
    have n12 : l1 ≠ l2 := zfresh_ne (zset_self _ _ _) hl2a
    refine z_dup d_MQ_init_70 rfl ?_
    refine z_callI gt_good d_MQ_init_71 zi_MQ_31 (fun l => c_AL_init l g _ l2 (.int 0) (.int 0) (zset_self _ _ _)) rfl rfl ⟨Nat.le_of_ble_eq_true rfl, Nat.le_of_ble_eq_true rfl⟩ (Nat.le_of_ble_eq_true rfl) (by first | (dsimp only [ZRm]; omega) | (dsimp only [ZRm, List.length]; omega) | (simp [ZRm]; omega) | (simp [ZRm]; done)) (by first | (dsimp only [ZRm]; omega) | (dsimp only [ZRm, List.length]; omega) | (simp [ZRm]; omega) | (simp [ZRm]; done)) ?_
    rintro _ _ ⟨rfl, rfl⟩
    rw [zset_zset]
    refine z_putF d_MQ_init_74 zp_MQ_36 rfl (by rw [zset_ne nx2, zset_self]) rfl rfl ?_
    refine z_return d_MQ_init_77 rfl ?_ (by first | (dsimp only [ZRm]; omega) | (dsimp only [ZRm, List.length]; omega) | (simp [ZRm]; omega) | (simp [ZRm]; done)) (by first | (dsimp only [ZRm]; omega) | (dsimp only [ZRm, List.length]; omega) | (simp [ZRm]; omega) | (simp [ZRm]; done))
    refine ⟨rfl, ow (zset M l1 (.inr (6, fAL g.2.2.2.1 0 0))) (ow M own 32) 33, qarr, l1, l2, qs, ?_⟩
    have hd : ∀ y, M y ≠ none → ow (zset M l1 (.inr (6, fAL g.2.2.2.1 0 0))) (ow M own 32) 33 y = own y := fun y hy => by rw [ow_old (zset_dom hy), ow_old hy]
    have hf : ∀ y, M y ≠ none → y ≠ x → (zset (zset (zset (zset M l1 (.inr (6, fAL g.2.2.2.1 0 0))) x (.inr (0, [.int (roomS r), .ref qarr, .ref l1, .null, .int 0, .int 0, .long 0]))) l2 (.inr (6, fAL g.2.2.2.1 0 0))) x (.inr (0, [.int (roomS r), .ref qarr, .ref l1, .ref l2, .int 0, .int 0, .long 0]))) y = M y := fun y hy yx => by rw [zset_ne yx, zset_ne (fun w => hy (by rw [w]; exact hl2b)), zset_ne yx, zset_ne (fun w => hy (by rw [w]; exact hl1))]
    have hfz : (zset (zset (zset (zset M l1 (.inr (6, fAL g.2.2.2.1 0 0))) x (.inr (0, [.int (roomS r), .ref qarr, .ref l1, .null, .int 0, .int 0, .long 0]))) l2 (.inr (6, fAL g.2.2.2.1 0 0))) x (.inr (0, [.int (roomS r), .ref qarr, .ref l1, .ref l2, .int 0, .int 0, .long 0]))) g.2.2.2.1 = M g.2.2.2.1 := hf _ (by rw [hz0]; simp) (fun w => by rw [w, hX] at hzo; omega)
    refine ⟨⟨zset_self _ _ _, (hf qarr (by rw [hqr]; simp) nqx).trans (by rw [hqr, Nat.sub_self]; simp), hql, by rw [hd x (by rw [hx]; simp)]; exact hX, by rw [hd qarr (by rw [hqr]; simp)]; exact hXq⟩, fun j qa hj => ?_, ?_, ?_, by rw [hd _ (by rw [hz0]; simp)]; exact hzo⟩
    · have hj32 : j < 32 := by rw [← hql]; exact (List.getElem?_eq_some_iff.mp hj).1
      exact (hQ j qa hj).fr (fun y hy hyo => ⟨hf y hy (fun e => by rw [e, hX] at hyo; omega), by rw [hd y hy]; exact hyo⟩) hfz
    · refine ⟨g.2.2.2.1, [], ⟨⟨0, ?_⟩, hfz.trans hz0, Nat.le_refl _, fun _ => rfl⟩, rfl, fun j e h => by simp at h, List.nodup_nil, ?_, fun h => absurd rfl h⟩
      · rw [zset_ne (Ne.symm nx1), zset_ne n12, zset_ne (Ne.symm nx1), zset_self]; rfl
      · rw [ow_old (by rw [zset_self]; simp)]; exact ow_new hl1
    · refine ⟨g.2.2.2.1, [], 0, ⟨⟨0, ?_⟩, hfz.trans hz0, Nat.le_refl _, fun _ => rfl⟩, by decide, rfl, fun j e h => by simp at h, ?_, fun h => absurd rfl h⟩
      · rw [zset_ne (Ne.symm nx2), zset_self]; rfl
      · exact ow_new hl2a
  | succ d ih =>
    intro i M own qs hi hql hx hqr hQ hX hXq hzo hz0
    have nqx : qarr ≠ x := zne hqr hx (by intro h; cases h)
    refine z_iload_n d_MQ_init_30 rfl ?_
    refine z_bipush (v := 32) d_MQ_init_31 (by decide) ?_
    refine z_icmp_ge (tgt := 55) d_MQ_init_33 (by decide) (fun h33 => False.elim (nI_ge (show i < 32 by omega) (by decide) h33)) (fun h33 => ?_)
    refine z_aload_n d_MQ_init_36 rfl ?_
    refine z_get d_MQ_init_37 zf_MQ_24 (hx) rfl ?_
    refine z_iload_n d_MQ_init_40 rfl ?_
    refine z_new (ci := 1) (fs := [.null, .null, .int 0, .int 0, .int 0, .long 0, .int 0, .int 0, .long 0, .null]) d_MQ_init_41 ⟨_, T_Qu, 10, ty_Qu, rfl, in_Qu, zl_Qu, gw_70, gw_72, gw_38, rfl, by decide⟩ (by first | (dsimp only [ZRm]; omega) | (dsimp only [ZRm, List.length]; omega) | (simp [ZRm]; omega) | (simp [ZRm]; done)) (by first | (dsimp only [ZRm]; omega) | (dsimp only [ZRm, List.length]; omega) | (simp [ZRm]; omega) | (simp [ZRm]; done)) (fun q hq => ?_)
    refine z_dup d_MQ_init_44 rfl ?_
    refine z_callI gt_good d_MQ_init_45 zi_MQ_28 (fun l => c_Qu_init l g _ q (zset_self _ _ _)) rfl rfl ⟨Nat.le_of_ble_eq_true rfl, Nat.le_of_ble_eq_true rfl⟩ (Nat.le_of_ble_eq_true rfl) (by first | (dsimp only [ZRm]; omega) | (dsimp only [ZRm, List.length]; omega) | (simp [ZRm]; omega) | (simp [ZRm]; done)) (by first | (dsimp only [ZRm]; omega) | (dsimp only [ZRm, List.length]; omega) | (simp [ZRm]; omega) | (simp [ZRm]; done)) ?_
    rintro _ M2 ⟨q1, q2, rfl, hq1, hq2, n12, e1, e2, e3, e4⟩
    have h1a := zset_none hq1
    have h2a := zset_none hq2
    refine z_aast (ci := 1) d_MQ_init_48 (by rw [e4 qarr (zfresh_ne hqr hq) (zfresh_ne hqr h1a) (zfresh_ne hqr h2a), zset_ne (zfresh_ne hqr hq)]; exact hqr) rfl (by omega) (by simp [hql]; omega) e1 rfl (Or.inl rfl) ?_
    rw [ini_set qs q i hql (by omega)]
    refine z_iinc (v := nI (i + 1)) d_MQ_init_49 rfl (nI_1 i) (by decide) rfl ?_
    refine z_goto (tgt := 30) d_MQ_init_52 (by decide) ?_
    have hM3 : ∀ y, M y ≠ none → y ≠ qarr → (zset M2 qarr (.inl (4, (qs ++ [q]).map Value.ref ++ List.replicate (32 - (i + 1)) Value.null))) y = M y := fun y hy yq => by rw [zset_ne yq, e4 y (fun w => hy (by rw [w]; exact hq)) (fun w => hy (by rw [w]; exact h1a)) (fun w => hy (by rw [w]; exact h2a)), zset_ne (fun w => hy (by rw [w]; exact hq))]
    have hz3 := hM3 _ (by rw [hz0]; simp) (zne hz0 hqr (by simp [hql]))
    have nq1 : q ≠ q1 := zfresh_ne (zset_self _ _ _) hq1
    have nq2 : q ≠ q2 := zfresh_ne (zset_self _ _ _) hq2
    refine z_widen (k1 := 1 + 3 * (i + 1)) (k2 := 32 + 21 * (i + 1)) (by dsimp only [ZRm]; omega) (by dsimp only [ZRm, List.length]; omega) ?_
    refine ih (i + 1) _ (ow M own i) (qs ++ [q]) (by omega) (by simp [hql]) ?_ (zset_self _ _ _) (fun j qa hj => ?_) ?_ ?_ ?_ (by rw [hz3]; exact hz0)
    · rw [hM3 x (by rw [hx]; simp) (Ne.symm nqx)]; exact hx
    · by_cases hji : j < qs.length
      · rw [List.getElem?_append_left hji] at hj
        exact (hQ j qa hj).fr (fun y hy hyo => ⟨hM3 y hy (fun w => by rw [w, hXq] at hyo; omega), by rw [ow_old hy]; exact hyo⟩) hz3
      · have hjn : j = qs.length := by have := (List.getElem?_eq_some_iff.mp hj).1; simp at this; omega
        rw [hjn, List.getElem?_append_right (Nat.le_refl _), Nat.sub_self] at hj
        obtain rfl : q = qa := by simpa using hj
        have hji2 : j = i := by omega
        subst hji2
        refine q0_rep (mc := 0) (la := q1) (pa := q2) (by rw [zset_ne (Ne.symm (zfresh_ne hqr hq))]; exact e1) (by rw [zset_ne (Ne.symm (zfresh_ne hqr h1a))]; exact e2) (by rw [zset_ne (Ne.symm (zfresh_ne hqr h2a))]; exact e3) (by rw [hz3]; exact hz0) (ow_new hq) (ow_new h1a) (ow_new h2a)
    · rw [ow_old (by rw [hx]; simp)]; exact hX
    · rw [ow_old (by rw [hqr]; simp)]; exact hXq
    · rw [ow_old (by rw [hz0]; simp)]; exact hzo
set_option maxHeartbeats 4000000 in
set_option maxRecDepth 100000 in
theorem c_MQ_init (l : Launch) (g : ZG) (M : ZM) (x : Nat) (r : Int32) (hx : M x = some (.inr (0, [.int 0, .null, .null, .null, .int 0, .int 0, .long 0]))) : ZC vcl tlx GT l g y_MQ_init b_MQ_init 3 none (ZRm 6 110 800) [.ref x, .int r] M (fun v M' => v = none ∧ ∃ (own : Nat → Nat) (qarr lt lw : Nat) (qs : List Nat), MRep M' g.2.2.2.1 own x qarr lt lw qs (iniS r) 0) := by
  refine ZC.of (by decide) (Nat.le_of_ble_eq_true rfl) rfl (fun k hz0 => ?_)
  refine z_aload_n d_MQ_init_0 rfl ?_
  refine z_objInit d_MQ_init_1 gw_61 gw_62 gw_63 (Nat.le_of_ble_eq_true rfl) (Nat.le_of_ble_eq_true rfl) ?_
  refine z_aload_n d_MQ_init_4 rfl ?_
  refine z_iconst (v := 1) d_MQ_init_5 (by decide) ?_
  refine z_iload_n d_MQ_init_6 rfl ?_
  refine z_sipush (v := 4096) d_MQ_init_7 (by decide) ?_
  refine z_mmin d_MQ_init_10 gw_64 gw_65 gw_37 gw_66 (by decide) (Nat.le_of_ble_eq_true rfl) (by first | (dsimp only [ZRm]; omega) | (dsimp only [ZRm, List.length]; omega) | (simp [ZRm]; omega) | (simp [ZRm]; done)) (by first | (dsimp only [ZRm]; omega) | (dsimp only [ZRm, List.length]; omega) | (simp [ZRm]; omega) | (simp [ZRm]; done)) ?_
  refine z_mmax d_MQ_init_13 gw_67 gw_68 gw_37 gw_69 (by decide) (Nat.le_of_ble_eq_true rfl) (by first | (dsimp only [ZRm]; omega) | (dsimp only [ZRm, List.length]; omega) | (simp [ZRm]; omega) | (simp [ZRm]; done)) (by first | (dsimp only [ZRm]; omega) | (dsimp only [ZRm, List.length]; omega) | (simp [ZRm]; omega) | (simp [ZRm]; done)) ?_
  refine z_putF d_MQ_init_16 zp_MQ_18 rfl (hx) rfl rfl ?_
  refine z_aload_n d_MQ_init_19 rfl ?_
  refine z_bipush (v := 32) d_MQ_init_20 (by decide) ?_
  refine z_anew (t := 4) (N := 32) d_MQ_init_22 gw_70 (by decide) rfl (by decide) (by decide) (by first | (dsimp only [ZRm]; omega) | (dsimp only [ZRm, List.length]; omega) | (simp [ZRm]; omega) | (simp [ZRm]; done)) (by first | (dsimp only [ZRm]; omega) | (dsimp only [ZRm, List.length]; omega) | (simp [ZRm]; omega) | (simp [ZRm]; done)) (fun qarr hqa0 => ?_)
  have hqa := zset_none hqa0
  refine z_putF d_MQ_init_25 zp_MQ_24 rfl (by rw [zset_ne (zfresh_ne hx hqa), zset_self]) rfl rfl ?_
  refine z_iconst (v := 0) d_MQ_init_28 (by decide) ?_
  refine z_istore_n (i := 2) d_MQ_init_29 rfl (by decide) rfl ?_
  refine z_widen (k1 := 1 + 3 * 0) (k2 := 32 + 21 * 0) (by omega) (by omega) ?_
  refine lp_MQ_init g k x qarr r 32 0 _ (fun y => if y = g.2.2.2.1 then 99 else 34) [] rfl rfl (zset_self _ _ _) ?_ (fun j qa h => by simp at h) ?_ ?_ ?_ ?_
  · rw [zset_ne (Ne.symm (zfresh_ne hx hqa)), zset_self]; rfl
  · show (if x = g.2.2.2.1 then 99 else 34) = 34
    exact if_neg (zne hx hz0 (by intro h; cases h))
  · show (if qarr = g.2.2.2.1 then 99 else 34) = 34
    exact if_neg (fun w => by rw [w, hz0] at hqa; cases hqa)
  · exact if_pos rfl
  · rw [zset_ne (zne hz0 hx (by intro h; cases h)), zset_ne (zfresh_ne hz0 hqa), zset_ne (zne hz0 hx (by intro h; cases h))]; exact hz0
end
section
/-! THE REFERENCE'S STATE: code, room, running, delayed; items, begun, delays; its int and boolean arrays, its long arrays, by their fields' places; now. -/
abbrev NS : Type := (Nat → Int32) × (Nat → Nat) × (Nat → Nat → Int32) × (Nat → Nat → Int64) × Int64
def ri (n : Nat) (f : Nat → Int32) : List Value := (List.range n).map (fun j => Value.int (f j))
def rl (n : Nat) (f : Nat → Int64) : List Value := (List.range n).map (fun j => Value.long (f j))
theorem ri_len (n : Nat) (f : Nat → Int32) : (ri n f).length = n := by simp [ri]
theorem rl_len (n : Nat) (f : Nat → Int64) : (rl n f).length = n := by simp [rl]
theorem ri_get {n j : Nat} {f : Nat → Int32} (h : j < n) : (ri n f)[j]? = some (.int (f j)) := by simp [ri, h]
theorem rl_get {n j : Nat} {f : Nat → Int64} (h : j < n) : (rl n f)[j]? = some (.long (f j)) := by simp [rl, h]
theorem ri_set (n j : Nat) (f : Nat → Int32) (v : Int32) : (ri n f).set j (.int v) = ri n (va_up f j v) := by
  apply List.ext_getElem?
  intro i
  by_cases hi : i < n
  · by_cases hij : i = j
    · subst hij
      rw [List.getElem?_set_self (by rw [ri_len]; exact hi), ri_get hi, va_up_self]
    · rw [List.getElem?_set_ne (Ne.symm hij), ri_get hi, ri_get hi, va_up_ne _ _ hij]
  · rw [List.getElem?_eq_none (by rw [List.length_set, ri_len]; omega), List.getElem?_eq_none (by rw [ri_len]; omega)]
theorem rl_set (n j : Nat) (f : Nat → Int64) (v : Int64) : (rl n f).set j (.long v) = rl n (va_up f j v) := by
  apply List.ext_getElem?
  intro i
  by_cases hi : i < n
  · by_cases hij : i = j
    · subst hij
      rw [List.getElem?_set_self (by rw [rl_len]; exact hi), rl_get hi, va_up_self]
    · rw [List.getElem?_set_ne (Ne.symm hij), rl_get hi, rl_get hi, va_up_ne _ _ hij]
  · rw [List.getElem?_eq_none (by rw [List.length_set, rl_len]; omega), List.getElem?_eq_none (by rw [rl_len]; omega)]
def sS (N : NS) (k : Nat) (v : Int32) : NS := (va_up N.1 k v, N.2)
def sN (N : NS) (k v : Nat) : NS := (N.1, va_up N.2.1 k v, N.2.2)
def sI (N : NS) (k j : Nat) (v : Int32) : NS := (N.1, N.2.1, va_up N.2.2.1 k (va_up (N.2.2.1 k) j v), N.2.2.2)
def sL (N : NS) (k j : Nat) (v : Int64) : NS := (N.1, N.2.1, N.2.2.1, va_up N.2.2.2.1 k (va_up (N.2.2.2.1 k) j v), N.2.2.2.2)
def sW (N : NS) (t : Int64) : NS := (N.1, N.2.1, N.2.2.1, N.2.2.2.1, t)
def fMo (ad : Nat → Nat) (N : NS) : List Value := [.int (N.1 0), .int (N.1 1), .ref (ad 2), .ref (ad 3), .ref (ad 4), .ref (ad 5), .int (nI (N.2.1 0)), .ref (ad 7), .ref (ad 8), .ref (ad 9), .ref (ad 10), .ref (ad 11), .ref (ad 12), .ref (ad 13), .ref (ad 14), .ref (ad 15), .ref (ad 16), .ref (ad 17), .ref (ad 18), .ref (ad 19), .int (nI (N.2.1 1)), .int (N.1 2), .long N.2.2.2.2, .ref (ad 23), .ref (ad 24), .ref (ad 25), .int (nI (N.2.1 2)), .int (N.1 3)]
def arF (k : Nat) (f : Nat → Int32) (h : Nat → Int64) : ZE := match k with
  | 3 => .inl (1, ri 1100 f)
  | 4 => .inl (1, ri 1100 f)
  | 5 => .inl (2, rl 1100 h)
  | 7 => .inl (1, ri 32 f)
  | 8 => .inl (1, ri 32 f)
  | 9 => .inl (1, ri 32 f)
  | 10 => .inl (1, ri 32 f)
  | 11 => .inl (1, ri 32 f)
  | 12 => .inl (1, ri 32 f)
  | 13 => .inl (3, ri 32 f)
  | 14 => .inl (3, ri 32 f)
  | 15 => .inl (2, rl 32 h)
  | 16 => .inl (2, rl 32 h)
  | 17 => .inl (1, ri 256 f)
  | 18 => .inl (1, ri 4000 f)
  | 19 => .inl (3, ri 4000 f)
  | 23 => .inl (1, ri 200 f)
  | 24 => .inl (1, ri 200 f)
  | 25 => .inl (2, rl 200 h)
  | _ => .inl (1, ri 1100 f)
def AKs : List Nat := [2, 3, 4, 5, 7, 8, 9, 10, 11, 12, 13, 14, 15, 16, 17, 18, 19, 23, 24, 25]
def zmo (z m : Nat) (ad : Nat → Nat) (N : NS) : ZM := fun q => if q = m then some (.inr (7, fMo ad N)) else if q = z then some (.inl (0, [])) else (AKs.find? (fun k => decide (ad k = q))).map (fun k => arF k (N.2.2.1 k) (N.2.2.2.1 k))
def zAd (z m : Nat) (ad : Nat → Nat) : Prop := m ≠ z ∧ (∀ k ∈ AKs, ad k ≠ m ∧ ad k ≠ z) ∧ ∀ k ∈ AKs, ∀ k' ∈ AKs, ad k = ad k' → k = k'
theorem zmo_m (z m : Nat) (ad : Nat → Nat) (N : NS) : zmo z m ad N m = some (.inr (7, fMo ad N)) := if_pos rfl
theorem zmo_z {z m : Nat} {ad : Nat → Nat} (hA : zAd z m ad) (N : NS) : zmo z m ad N z = some (.inl (0, [])) := by
  unfold zmo
  rw [if_neg (Ne.symm hA.1), if_pos rfl]
theorem zmo_find {z m k : Nat} {ad : Nat → Nat} (hA : zAd z m ad) (hk : k ∈ AKs) : AKs.find? (fun k' => decide (ad k' = ad k)) = some k := by
  cases hf : AKs.find? (fun k' => decide (ad k' = ad k)) with
  | none =>
    have := List.find?_eq_none.mp hf k hk
    simp at this
  | some k' =>
    have h1 := List.find?_some hf
    have h2 := List.mem_of_find?_eq_some hf
    rw [hA.2.2 k' h2 k hk (by simpa using h1)]
theorem zmo_a {z m k : Nat} {ad : Nat → Nat} (hA : zAd z m ad) (hk : k ∈ AKs) (N : NS) : zmo z m ad N (ad k) = some (arF k (N.2.2.1 k) (N.2.2.2.1 k)) := by
  unfold zmo
  rw [if_neg (hA.2.1 k hk).1, if_neg (hA.2.1 k hk).2, zmo_find hA hk]
  rfl
theorem zmo_wa {z m k : Nat} {ad : Nat → Nat} (hA : zAd z m ad) (hk : k ∈ AKs) {N N' : NS} {e : ZE} (he : e = arF k (N'.2.2.1 k) (N'.2.2.2.1 k)) (h1 : ∀ k', k' ≠ k → N'.2.2.1 k' = N.2.2.1 k' ∧ N'.2.2.2.1 k' = N.2.2.2.1 k') (h2 : fMo ad N' = fMo ad N) : zset (zmo z m ad N) (ad k) e = zmo z m ad N' := by
  funext q
  by_cases hq : q = ad k
  · rw [hq, zset_self, zmo_a hA hk, he]
  · rw [zset_ne hq]
    unfold zmo
    rw [h2]
    split
    · rfl
    · split
      · rfl
      · cases hf : AKs.find? (fun k' => decide (ad k' = q)) with
        | none => simp only [Option.map_none]
        | some k' =>
          have hk' : ad k' = q := by simpa using List.find?_some hf
          have hne : k' ≠ k := fun e => hq (by rw [← hk', e])
          simp only [Option.map_some, (h1 k' hne).1, (h1 k' hne).2]
theorem zmo_wm {z m : Nat} {ad : Nat → Nat} {N N' : NS} {fs : List Value} (h : fs = fMo ad N') (h1 : N'.2.2.1 = N.2.2.1) (h2 : N'.2.2.2.1 = N.2.2.2.1) : zset (zmo z m ad N) m (.inr (7, fs)) = zmo z m ad N' := by
  funext q
  by_cases hq : q = m
  · rw [hq, zset_self, zmo_m, h]
  · rw [zset_ne hq]
    unfold zmo
    rw [if_neg hq, if_neg hq, h1, h2]
theorem rd_2 {z m : Nat} {ad : Nat → Nat} (hA : zAd z m ad) (N : NS) : zmo z m ad N (ad 2) = some (.inl (1, ri 1100 (N.2.2.1 2))) := zmo_a hA (by decide) N
theorem wr_2 {z m : Nat} {ad : Nat → Nat} (hA : zAd z m ad) (N : NS) (j : Nat) (v : Int32) : zset (zmo z m ad N) (ad 2) (.inl (1, (ri 1100 (N.2.2.1 2)).set j (.int v))) = zmo z m ad (sI N 2 j v) := zmo_wa hA (by decide) (by rw [ri_set]; rfl) (fun k' h => ⟨va_up_ne _ _ h, rfl⟩) rfl
theorem rd_3 {z m : Nat} {ad : Nat → Nat} (hA : zAd z m ad) (N : NS) : zmo z m ad N (ad 3) = some (.inl (1, ri 1100 (N.2.2.1 3))) := zmo_a hA (by decide) N
theorem wr_3 {z m : Nat} {ad : Nat → Nat} (hA : zAd z m ad) (N : NS) (j : Nat) (v : Int32) : zset (zmo z m ad N) (ad 3) (.inl (1, (ri 1100 (N.2.2.1 3)).set j (.int v))) = zmo z m ad (sI N 3 j v) := zmo_wa hA (by decide) (by rw [ri_set]; rfl) (fun k' h => ⟨va_up_ne _ _ h, rfl⟩) rfl
theorem rd_4 {z m : Nat} {ad : Nat → Nat} (hA : zAd z m ad) (N : NS) : zmo z m ad N (ad 4) = some (.inl (1, ri 1100 (N.2.2.1 4))) := zmo_a hA (by decide) N
theorem wr_4 {z m : Nat} {ad : Nat → Nat} (hA : zAd z m ad) (N : NS) (j : Nat) (v : Int32) : zset (zmo z m ad N) (ad 4) (.inl (1, (ri 1100 (N.2.2.1 4)).set j (.int v))) = zmo z m ad (sI N 4 j v) := zmo_wa hA (by decide) (by rw [ri_set]; rfl) (fun k' h => ⟨va_up_ne _ _ h, rfl⟩) rfl
theorem rd_5 {z m : Nat} {ad : Nat → Nat} (hA : zAd z m ad) (N : NS) : zmo z m ad N (ad 5) = some (.inl (2, rl 1100 (N.2.2.2.1 5))) := zmo_a hA (by decide) N
theorem wr_5 {z m : Nat} {ad : Nat → Nat} (hA : zAd z m ad) (N : NS) (j : Nat) (v : Int64) : zset (zmo z m ad N) (ad 5) (.inl (2, (rl 1100 (N.2.2.2.1 5)).set j (.long v))) = zmo z m ad (sL N 5 j v) := zmo_wa hA (by decide) (by rw [rl_set]; rfl) (fun k' h => ⟨rfl, va_up_ne _ _ h⟩) rfl
theorem rd_7 {z m : Nat} {ad : Nat → Nat} (hA : zAd z m ad) (N : NS) : zmo z m ad N (ad 7) = some (.inl (1, ri 32 (N.2.2.1 7))) := zmo_a hA (by decide) N
theorem wr_7 {z m : Nat} {ad : Nat → Nat} (hA : zAd z m ad) (N : NS) (j : Nat) (v : Int32) : zset (zmo z m ad N) (ad 7) (.inl (1, (ri 32 (N.2.2.1 7)).set j (.int v))) = zmo z m ad (sI N 7 j v) := zmo_wa hA (by decide) (by rw [ri_set]; rfl) (fun k' h => ⟨va_up_ne _ _ h, rfl⟩) rfl
theorem rd_8 {z m : Nat} {ad : Nat → Nat} (hA : zAd z m ad) (N : NS) : zmo z m ad N (ad 8) = some (.inl (1, ri 32 (N.2.2.1 8))) := zmo_a hA (by decide) N
theorem wr_8 {z m : Nat} {ad : Nat → Nat} (hA : zAd z m ad) (N : NS) (j : Nat) (v : Int32) : zset (zmo z m ad N) (ad 8) (.inl (1, (ri 32 (N.2.2.1 8)).set j (.int v))) = zmo z m ad (sI N 8 j v) := zmo_wa hA (by decide) (by rw [ri_set]; rfl) (fun k' h => ⟨va_up_ne _ _ h, rfl⟩) rfl
theorem rd_9 {z m : Nat} {ad : Nat → Nat} (hA : zAd z m ad) (N : NS) : zmo z m ad N (ad 9) = some (.inl (1, ri 32 (N.2.2.1 9))) := zmo_a hA (by decide) N
theorem wr_9 {z m : Nat} {ad : Nat → Nat} (hA : zAd z m ad) (N : NS) (j : Nat) (v : Int32) : zset (zmo z m ad N) (ad 9) (.inl (1, (ri 32 (N.2.2.1 9)).set j (.int v))) = zmo z m ad (sI N 9 j v) := zmo_wa hA (by decide) (by rw [ri_set]; rfl) (fun k' h => ⟨va_up_ne _ _ h, rfl⟩) rfl
theorem rd_10 {z m : Nat} {ad : Nat → Nat} (hA : zAd z m ad) (N : NS) : zmo z m ad N (ad 10) = some (.inl (1, ri 32 (N.2.2.1 10))) := zmo_a hA (by decide) N
theorem wr_10 {z m : Nat} {ad : Nat → Nat} (hA : zAd z m ad) (N : NS) (j : Nat) (v : Int32) : zset (zmo z m ad N) (ad 10) (.inl (1, (ri 32 (N.2.2.1 10)).set j (.int v))) = zmo z m ad (sI N 10 j v) := zmo_wa hA (by decide) (by rw [ri_set]; rfl) (fun k' h => ⟨va_up_ne _ _ h, rfl⟩) rfl
theorem rd_11 {z m : Nat} {ad : Nat → Nat} (hA : zAd z m ad) (N : NS) : zmo z m ad N (ad 11) = some (.inl (1, ri 32 (N.2.2.1 11))) := zmo_a hA (by decide) N
theorem wr_11 {z m : Nat} {ad : Nat → Nat} (hA : zAd z m ad) (N : NS) (j : Nat) (v : Int32) : zset (zmo z m ad N) (ad 11) (.inl (1, (ri 32 (N.2.2.1 11)).set j (.int v))) = zmo z m ad (sI N 11 j v) := zmo_wa hA (by decide) (by rw [ri_set]; rfl) (fun k' h => ⟨va_up_ne _ _ h, rfl⟩) rfl
theorem rd_12 {z m : Nat} {ad : Nat → Nat} (hA : zAd z m ad) (N : NS) : zmo z m ad N (ad 12) = some (.inl (1, ri 32 (N.2.2.1 12))) := zmo_a hA (by decide) N
theorem wr_12 {z m : Nat} {ad : Nat → Nat} (hA : zAd z m ad) (N : NS) (j : Nat) (v : Int32) : zset (zmo z m ad N) (ad 12) (.inl (1, (ri 32 (N.2.2.1 12)).set j (.int v))) = zmo z m ad (sI N 12 j v) := zmo_wa hA (by decide) (by rw [ri_set]; rfl) (fun k' h => ⟨va_up_ne _ _ h, rfl⟩) rfl
theorem rd_13 {z m : Nat} {ad : Nat → Nat} (hA : zAd z m ad) (N : NS) : zmo z m ad N (ad 13) = some (.inl (3, ri 32 (N.2.2.1 13))) := zmo_a hA (by decide) N
theorem wr_13 {z m : Nat} {ad : Nat → Nat} (hA : zAd z m ad) (N : NS) (j : Nat) (v : Int32) : zset (zmo z m ad N) (ad 13) (.inl (3, (ri 32 (N.2.2.1 13)).set j (.int v))) = zmo z m ad (sI N 13 j v) := zmo_wa hA (by decide) (by rw [ri_set]; rfl) (fun k' h => ⟨va_up_ne _ _ h, rfl⟩) rfl
theorem rd_14 {z m : Nat} {ad : Nat → Nat} (hA : zAd z m ad) (N : NS) : zmo z m ad N (ad 14) = some (.inl (3, ri 32 (N.2.2.1 14))) := zmo_a hA (by decide) N
theorem wr_14 {z m : Nat} {ad : Nat → Nat} (hA : zAd z m ad) (N : NS) (j : Nat) (v : Int32) : zset (zmo z m ad N) (ad 14) (.inl (3, (ri 32 (N.2.2.1 14)).set j (.int v))) = zmo z m ad (sI N 14 j v) := zmo_wa hA (by decide) (by rw [ri_set]; rfl) (fun k' h => ⟨va_up_ne _ _ h, rfl⟩) rfl
theorem rd_15 {z m : Nat} {ad : Nat → Nat} (hA : zAd z m ad) (N : NS) : zmo z m ad N (ad 15) = some (.inl (2, rl 32 (N.2.2.2.1 15))) := zmo_a hA (by decide) N
theorem wr_15 {z m : Nat} {ad : Nat → Nat} (hA : zAd z m ad) (N : NS) (j : Nat) (v : Int64) : zset (zmo z m ad N) (ad 15) (.inl (2, (rl 32 (N.2.2.2.1 15)).set j (.long v))) = zmo z m ad (sL N 15 j v) := zmo_wa hA (by decide) (by rw [rl_set]; rfl) (fun k' h => ⟨rfl, va_up_ne _ _ h⟩) rfl
theorem rd_16 {z m : Nat} {ad : Nat → Nat} (hA : zAd z m ad) (N : NS) : zmo z m ad N (ad 16) = some (.inl (2, rl 32 (N.2.2.2.1 16))) := zmo_a hA (by decide) N
theorem wr_16 {z m : Nat} {ad : Nat → Nat} (hA : zAd z m ad) (N : NS) (j : Nat) (v : Int64) : zset (zmo z m ad N) (ad 16) (.inl (2, (rl 32 (N.2.2.2.1 16)).set j (.long v))) = zmo z m ad (sL N 16 j v) := zmo_wa hA (by decide) (by rw [rl_set]; rfl) (fun k' h => ⟨rfl, va_up_ne _ _ h⟩) rfl
theorem rd_17 {z m : Nat} {ad : Nat → Nat} (hA : zAd z m ad) (N : NS) : zmo z m ad N (ad 17) = some (.inl (1, ri 256 (N.2.2.1 17))) := zmo_a hA (by decide) N
theorem wr_17 {z m : Nat} {ad : Nat → Nat} (hA : zAd z m ad) (N : NS) (j : Nat) (v : Int32) : zset (zmo z m ad N) (ad 17) (.inl (1, (ri 256 (N.2.2.1 17)).set j (.int v))) = zmo z m ad (sI N 17 j v) := zmo_wa hA (by decide) (by rw [ri_set]; rfl) (fun k' h => ⟨va_up_ne _ _ h, rfl⟩) rfl
theorem rd_18 {z m : Nat} {ad : Nat → Nat} (hA : zAd z m ad) (N : NS) : zmo z m ad N (ad 18) = some (.inl (1, ri 4000 (N.2.2.1 18))) := zmo_a hA (by decide) N
theorem wr_18 {z m : Nat} {ad : Nat → Nat} (hA : zAd z m ad) (N : NS) (j : Nat) (v : Int32) : zset (zmo z m ad N) (ad 18) (.inl (1, (ri 4000 (N.2.2.1 18)).set j (.int v))) = zmo z m ad (sI N 18 j v) := zmo_wa hA (by decide) (by rw [ri_set]; rfl) (fun k' h => ⟨va_up_ne _ _ h, rfl⟩) rfl
theorem rd_19 {z m : Nat} {ad : Nat → Nat} (hA : zAd z m ad) (N : NS) : zmo z m ad N (ad 19) = some (.inl (3, ri 4000 (N.2.2.1 19))) := zmo_a hA (by decide) N
theorem wr_19 {z m : Nat} {ad : Nat → Nat} (hA : zAd z m ad) (N : NS) (j : Nat) (v : Int32) : zset (zmo z m ad N) (ad 19) (.inl (3, (ri 4000 (N.2.2.1 19)).set j (.int v))) = zmo z m ad (sI N 19 j v) := zmo_wa hA (by decide) (by rw [ri_set]; rfl) (fun k' h => ⟨va_up_ne _ _ h, rfl⟩) rfl
theorem rd_23 {z m : Nat} {ad : Nat → Nat} (hA : zAd z m ad) (N : NS) : zmo z m ad N (ad 23) = some (.inl (1, ri 200 (N.2.2.1 23))) := zmo_a hA (by decide) N
theorem wr_23 {z m : Nat} {ad : Nat → Nat} (hA : zAd z m ad) (N : NS) (j : Nat) (v : Int32) : zset (zmo z m ad N) (ad 23) (.inl (1, (ri 200 (N.2.2.1 23)).set j (.int v))) = zmo z m ad (sI N 23 j v) := zmo_wa hA (by decide) (by rw [ri_set]; rfl) (fun k' h => ⟨va_up_ne _ _ h, rfl⟩) rfl
theorem rd_24 {z m : Nat} {ad : Nat → Nat} (hA : zAd z m ad) (N : NS) : zmo z m ad N (ad 24) = some (.inl (1, ri 200 (N.2.2.1 24))) := zmo_a hA (by decide) N
theorem wr_24 {z m : Nat} {ad : Nat → Nat} (hA : zAd z m ad) (N : NS) (j : Nat) (v : Int32) : zset (zmo z m ad N) (ad 24) (.inl (1, (ri 200 (N.2.2.1 24)).set j (.int v))) = zmo z m ad (sI N 24 j v) := zmo_wa hA (by decide) (by rw [ri_set]; rfl) (fun k' h => ⟨va_up_ne _ _ h, rfl⟩) rfl
theorem rd_25 {z m : Nat} {ad : Nat → Nat} (hA : zAd z m ad) (N : NS) : zmo z m ad N (ad 25) = some (.inl (2, rl 200 (N.2.2.2.1 25))) := zmo_a hA (by decide) N
theorem wr_25 {z m : Nat} {ad : Nat → Nat} (hA : zAd z m ad) (N : NS) (j : Nat) (v : Int64) : zset (zmo z m ad N) (ad 25) (.inl (2, (rl 200 (N.2.2.2.1 25)).set j (.long v))) = zmo z m ad (sL N 25 j v) := zmo_wa hA (by decide) (by rw [rl_set]; rfl) (fun k' h => ⟨rfl, va_up_ne _ _ h⟩) rfl
theorem ws_0 {z m : Nat} {ad : Nat → Nat} (N : NS) (v : Int32) : zset (zmo z m ad N) m (.inr (7, (fMo ad N).set 0 (.int v))) = zmo z m ad (sS N 0 v) := zmo_wm rfl rfl rfl
theorem ws_1 {z m : Nat} {ad : Nat → Nat} (N : NS) (v : Int32) : zset (zmo z m ad N) m (.inr (7, (fMo ad N).set 1 (.int v))) = zmo z m ad (sS N 1 v) := zmo_wm rfl rfl rfl
theorem ws_21 {z m : Nat} {ad : Nat → Nat} (N : NS) (v : Int32) : zset (zmo z m ad N) m (.inr (7, (fMo ad N).set 21 (.int v))) = zmo z m ad (sS N 2 v) := zmo_wm rfl rfl rfl
theorem ws_27 {z m : Nat} {ad : Nat → Nat} (N : NS) (v : Int32) : zset (zmo z m ad N) m (.inr (7, (fMo ad N).set 27 (.int v))) = zmo z m ad (sS N 3 v) := zmo_wm rfl rfl rfl
theorem ws_6 {z m : Nat} {ad : Nat → Nat} (N : NS) (v : Nat) : zset (zmo z m ad N) m (.inr (7, (fMo ad N).set 6 (.int (nI v)))) = zmo z m ad (sN N 0 v) := zmo_wm rfl rfl rfl
theorem ws_20 {z m : Nat} {ad : Nat → Nat} (N : NS) (v : Nat) : zset (zmo z m ad N) m (.inr (7, (fMo ad N).set 20 (.int (nI v)))) = zmo z m ad (sN N 1 v) := zmo_wm rfl rfl rfl
theorem ws_26 {z m : Nat} {ad : Nat → Nat} (N : NS) (v : Nat) : zset (zmo z m ad N) m (.inr (7, (fMo ad N).set 26 (.int (nI v)))) = zmo z m ad (sN N 2 v) := zmo_wm rfl rfl rfl
theorem ws_22 {z m : Nat} {ad : Nat → Nat} (N : NS) (v : Int64) : zset (zmo z m ad N) m (.inr (7, (fMo ad N).set 22 (.long v))) = zmo z m ad (sW N v) := zmo_wm rfl rfl rfl
theorem nI_pd {n : Nat} (h : 0 < n) : nI n - 1 = nI (n - 1) := by
  have := nI_pred (n - 1)
  rwa [show n - 1 + 1 = n by omega] at this
theorem nI_mul (a b : Nat) : nI a * nI b = nI (a * b) := (Int32.ofNat_mul a b).symm
theorem nI_dec {n : Nat} (h : 0 < n) : nI n + Int32.ofInt (-1) = nI (n - 1) := by
  rw [← nI_pd h, Int32.sub_eq_add_neg]
  rfl
end
section
/-- the reference's own counts -/
def mnN (N : NS) (q : Int32) : Nat → Nat
  | 0 => 0
  | k + 1 => mnN N q k + (if N.2.2.1 2 k = q then 1 else 0)
def stN (N : NS) (q : Int32) : Nat → Nat
  | 0 => 0
  | k + 1 => stN N q k + (if N.2.2.1 2 k = q ∧ N.2.2.1 4 k = 0 then 1 else 0)
def lkN (N : NS) (q : Int32) : Nat → Int32
  | 0 => 0
  | k + 1 => if N.2.2.1 2 k = q ∧ ¬ N.2.2.1 4 k ≤ 0 then N.2.2.1 4 k else lkN N q k
def plN (N : NS) (q i : Int32) : Nat → Nat → Nat → Option Nat
  | 0, _, _ => none
  | d + 1, k, n => if N.2.2.1 2 k = q then (if nI (n + 1) = i then some k else plN N q i d (k + 1) (n + 1)) else plN N q i d (k + 1) n
def plI (N : NS) (q i : Int32) : Option Nat := plN N q i (N.2.1 0) 0 0
def plV (o : Option Nat) : Int32 := match o with
  | none => -1
  | some k => nI k
theorem plN_lt (N : NS) (q i : Int32) : ∀ d k n j, plN N q i d k n = some j → k ≤ j ∧ j < k + d := by
  intro d
  induction d with
  | zero => intro k n j h; cases h
  | succ d ih =>
    intro k n j h
    unfold plN at h
    split at h
    · split at h
      · cases h; omega
      · have := ih _ _ _ h; omega
    · have := ih _ _ _ h; omega
theorem mnN_le (N : NS) (q : Int32) : ∀ k, mnN N q k ≤ k
  | 0 => Nat.le_refl _
  | k + 1 => by
    have := mnN_le N q k
    unfold mnN
    split <;> omega
theorem stN_le (N : NS) (q : Int32) : ∀ k, stN N q k ≤ k
  | 0 => Nat.le_refl _
  | k + 1 => by
    have := stN_le N q k
    unfold stN
    split <;> omega
def moT (k : Int32) : Prop := k = 0 ∨ k = 1
def taskS (N : NS) (c : Int32) : NS := sS (sN (sI (sI N 18 (N.2.1 1) c) 19 (N.2.1 1) 1) 1 (N.2.1 1 + 1)) 2 (N.1 2 + 1)
/-- a queue's readers forget -/
def emR (N : NS) (q : Nat) : Nat → NS
  | 0 => N
  | r + 1 => sI (emR N q r) 17 (8 * q + r) 0
def emS (N : NS) (q : Nat) : NS := emR (sI N 7 q (-1)) q 8
end
section
set_option maxHeartbeats 4000000 in
set_option maxRecDepth 100000 in
theorem c_Mo_isQueue (l : Launch) (g : ZG) (M : ZM) (q : Int32)  : ZC vcl tlx GT l g y_Mo_isQueue b_Mo_isQueue 1 (Option.some FieldType.boolean) (ZRm 0 0 0) [.int q] M (fun r M' => M = M' ∧ r = some (.int (if q < 0 ∨ 32 ≤ q then 0 else 1))) := by
  refine ZC.of (by decide) (Nat.le_of_ble_eq_true rfl) rfl (fun k hz0 => ?_)
  refine z_iload_n d_Mo_isQueue_0 rfl ?_
  refine z_if_lt (tgt := 14) d_Mo_isQueue_1 (by decide) (fun h1 => ?_) (fun h1 => ?_)
  · skip
    refine z_iconst (v := 0) d_Mo_isQueue_14 (by decide) ?_
    refine z_zreturn d_Mo_isQueue_15 rfl (by decide) ?_ (by decide) (by decide)
    exact ⟨rfl, by first | simp [h1, h7] | simp [h1]⟩
  · skip
    refine z_iload_n d_Mo_isQueue_4 rfl ?_
    refine z_bipush (v := 32) d_Mo_isQueue_5 (by decide) ?_
    refine z_icmp_ge (tgt := 14) d_Mo_isQueue_7 (by decide) (fun h7 => ?_) (fun h7 => ?_)
    · skip
      refine z_iconst (v := 0) d_Mo_isQueue_14 (by decide) ?_
      refine z_zreturn d_Mo_isQueue_15 rfl (by decide) ?_ (by decide) (by decide)
      exact ⟨rfl, by first | simp [h1, h7] | simp [h1]⟩
    · skip
      refine z_iconst (v := 1) d_Mo_isQueue_10 (by decide) ?_
      refine z_goto (tgt := 15) d_Mo_isQueue_11 (by decide) ?_
      refine z_zreturn d_Mo_isQueue_15 rfl (by decide) ?_ (by decide) (by decide)
      exact ⟨rfl, by first | simp [h1, h7] | simp [h1]⟩
set_option maxHeartbeats 4000000 in
set_option maxRecDepth 100000 in
theorem c_Mo_thrown (l : Launch) (g : ZG) (m : Nat) (ad : Nat → Nat) (N : NS) (hA : zAd g.2.2.2.1 m ad) : ZC vcl tlx GT l g y_Mo_thrown b_Mo_thrown 1 (Option.some FieldType.int) (ZRm 0 0 0) [.ref m] (zmo g.2.2.2.1 m ad N) (fun r M' => r = some (.int (N.1 0)) ∧ M' = zmo g.2.2.2.1 m ad (N)) := by
  refine ZC.of (by decide) (Nat.le_of_ble_eq_true rfl) rfl (fun k hz0 => ?_)
  refine z_aload_n d_Mo_thrown_0 rfl ?_
  refine z_get d_Mo_thrown_1 zf_Mo_76 (zmo_m _ _ _ _) rfl ?_
  refine z_ireturn d_Mo_thrown_4 rfl ?_ (by decide) (by decide)
  exact ⟨rfl, rfl⟩
set_option maxHeartbeats 4000000 in
set_option maxRecDepth 100000 in
theorem c_Mo_isTemporary (l : Launch) (g : ZG) (m : Nat) (ad : Nat → Nat) (N : NS) (q : Nat) (hA : zAd g.2.2.2.1 m ad) (hq : q < 32) : ZC vcl tlx GT l g y_Mo_isTemporary b_Mo_isTemporary 2 (Option.some FieldType.boolean) (ZRm 0 0 0) [.ref m, .int (nI q)] (zmo g.2.2.2.1 m ad N) (fun r M' => r = some (.int (if N.2.2.1 7 q = 0 ∨ N.2.2.1 7 q = 1 then 1 else 0)) ∧ M' = zmo g.2.2.2.1 m ad (N)) := by
  refine ZC.of (by decide) (Nat.le_of_ble_eq_true rfl) rfl (fun k hz0 => ?_)
  refine z_aload_n d_Mo_isTemporary_0 rfl ?_
  refine z_get d_Mo_isTemporary_1 zf_Mo_23 (zmo_m _ _ _ _) rfl ?_
  refine z_iload_n d_Mo_isTemporary_4 rfl ?_
  refine z_iald d_Mo_isTemporary_5 (rd_7 hA _) rfl (by first | omega | (dsimp only [sI, sL, sS, sN, sW]; omega) | (simp only [sI, sL, sS, sN, sW, va_up_self]; omega) | (simp [sI, sL, sS, sN, sW, va_up]; omega)) (ri_get (by first | omega | (dsimp only [sI, sL, sS, sN, sW]; omega) | (simp only [sI, sL, sS, sN, sW, va_up_self]; omega) | (simp [sI, sL, sS, sN, sW, va_up]; omega))) ?_
  refine z_if_eq (tgt := 19) d_Mo_isTemporary_6 (by decide) (fun h6 => ?_) (fun h6 => ?_)
  · skip
    refine z_iconst (v := 1) d_Mo_isTemporary_19 (by decide) ?_
    refine z_goto (tgt := 24) d_Mo_isTemporary_20 (by decide) ?_
    refine z_zreturn d_Mo_isTemporary_24 rfl (by decide) ?_ (by decide) (by decide)
    exact ⟨by first | simp [h6, h16] | simp [h6], rfl⟩
  · skip
    refine z_aload_n d_Mo_isTemporary_9 rfl ?_
    refine z_get d_Mo_isTemporary_10 zf_Mo_23 (zmo_m _ _ _ _) rfl ?_
    refine z_iload_n d_Mo_isTemporary_13 rfl ?_
    refine z_iald d_Mo_isTemporary_14 (rd_7 hA _) rfl (by first | omega | (dsimp only [sI, sL, sS, sN, sW]; omega) | (simp only [sI, sL, sS, sN, sW, va_up_self]; omega) | (simp [sI, sL, sS, sN, sW, va_up]; omega)) (ri_get (by first | omega | (dsimp only [sI, sL, sS, sN, sW]; omega) | (simp only [sI, sL, sS, sN, sW, va_up_self]; omega) | (simp [sI, sL, sS, sN, sW, va_up]; omega))) ?_
    refine z_iconst (v := 1) d_Mo_isTemporary_15 (by decide) ?_
    refine z_icmp_ne (tgt := 23) d_Mo_isTemporary_16 (by decide) (fun h16 => ?_) (fun h16 => ?_)
    · skip
      refine z_iconst (v := 0) d_Mo_isTemporary_23 (by decide) ?_
      refine z_zreturn d_Mo_isTemporary_24 rfl (by decide) ?_ (by decide) (by decide)
      exact ⟨by first | simp [h6, h16] | simp [h6], rfl⟩
    · skip
      refine z_iconst (v := 1) d_Mo_isTemporary_19 (by decide) ?_
      refine z_goto (tgt := 24) d_Mo_isTemporary_20 (by decide) ?_
      refine z_zreturn d_Mo_isTemporary_24 rfl (by decide) ?_ (by decide) (by decide)
      exact ⟨by first | simp [h6, h16] | simp [h6], rfl⟩
set_option maxHeartbeats 4000000 in
set_option maxRecDepth 100000 in
theorem c_Mo_isTransient (l : Launch) (g : ZG) (m : Nat) (ad : Nat → Nat) (N : NS) (q : Nat) (hA : zAd g.2.2.2.1 m ad) (hq : q < 32) : ZC vcl tlx GT l g y_Mo_isTransient b_Mo_isTransient 2 (Option.some FieldType.boolean) (ZRm 0 0 0) [.ref m, .int (nI q)] (zmo g.2.2.2.1 m ad N) (fun r M' => r = some (.int (if N.2.2.1 7 q ≤ 1 then 0 else 1)) ∧ M' = zmo g.2.2.2.1 m ad (N)) := by
  refine ZC.of (by decide) (Nat.le_of_ble_eq_true rfl) rfl (fun k hz0 => ?_)
  refine z_aload_n d_Mo_isTransient_0 rfl ?_
  refine z_get d_Mo_isTransient_1 zf_Mo_23 (zmo_m _ _ _ _) rfl ?_
  refine z_iload_n d_Mo_isTransient_4 rfl ?_
  refine z_iald d_Mo_isTransient_5 (rd_7 hA _) rfl (by first | omega | (dsimp only [sI, sL, sS, sN, sW]; omega) | (simp only [sI, sL, sS, sN, sW, va_up_self]; omega) | (simp [sI, sL, sS, sN, sW, va_up]; omega)) (ri_get (by first | omega | (dsimp only [sI, sL, sS, sN, sW]; omega) | (simp only [sI, sL, sS, sN, sW, va_up_self]; omega) | (simp [sI, sL, sS, sN, sW, va_up]; omega))) ?_
  refine z_iconst (v := 1) d_Mo_isTransient_6 (by decide) ?_
  refine z_icmp_le (tgt := 14) d_Mo_isTransient_7 (by decide) (fun h7 => ?_) (fun h7 => ?_)
  · skip
    refine z_iconst (v := 0) d_Mo_isTransient_14 (by decide) ?_
    refine z_zreturn d_Mo_isTransient_15 rfl (by decide) ?_ (by decide) (by decide)
    exact ⟨by simp [h7], rfl⟩
  · skip
    refine z_iconst (v := 1) d_Mo_isTransient_10 (by decide) ?_
    refine z_goto (tgt := 15) d_Mo_isTransient_11 (by decide) ?_
    refine z_zreturn d_Mo_isTransient_15 rfl (by decide) ?_ (by decide) (by decide)
    exact ⟨by simp [h7], rfl⟩
set_option maxHeartbeats 4000000 in
set_option maxRecDepth 100000 in
theorem lp_Mo_many (g : ZG) (k0 : ZK) (m : Nat) (ad : Nat → Nat) (N : NS) (q : Int32) (hA : zAd g.2.2.2.1 m ad)  (hit : N.2.1 0 ≤ 1100) : ∀ (d k : Nat), k + d = N.2.1 0 → ZW vcl tlx GT "MonitorQueuesModel" b_Mo_many 4 (Option.some FieldType.int) "many" (ZRm 0 0 0) g k0 (fun r M' => r = some (.int (nI (mnN N q (N.2.1 0)))) ∧ M' = zmo g.2.2.2.1 m ad (N)) [some (.ref m), some (.int q), some (.int (nI (mnN N q k))), some (.int (nI k))] 4 [] (zmo g.2.2.2.1 m ad N) 0 0 := by
  intro d
  induction d with
  | zero =>
    intro k hk
    refine z_iload_n d_Mo_many_4 rfl ?_
    refine z_aload_n d_Mo_many_5 rfl ?_
    refine z_get d_Mo_many_6 zf_Mo_79 (zmo_m _ _ _ _) rfl ?_
    refine z_icmp_ge (tgt := 36) d_Mo_many_9 (by decide) (fun h9 => ?_) (fun h9 => False.elim (h9 (nI_le (show N.2.1 0 ≤ k by omega) (by omega))))
    refine z_iload_n d_Mo_many_36 rfl ?_
    refine z_ireturn d_Mo_many_37 rfl ?_ (by decide) (by decide)
    rw [show k = N.2.1 0 by omega]
    exact ⟨rfl, rfl⟩
  | succ d ih =>
    intro k hk
    refine z_iload_n d_Mo_many_4 rfl ?_
    refine z_aload_n d_Mo_many_5 rfl ?_
    refine z_get d_Mo_many_6 zf_Mo_79 (zmo_m _ _ _ _) rfl ?_
    refine z_icmp_ge (tgt := 36) d_Mo_many_9 (by decide) (fun h9 => False.elim (nI_ge (show k < N.2.1 0 by omega) (by omega) h9)) (fun h9 => ?_)
    refine z_iload_n d_Mo_many_12 rfl ?_
    refine z_aload_n d_Mo_many_13 rfl ?_
    refine z_get d_Mo_many_14 zf_Mo_7 (zmo_m _ _ _ _) rfl ?_
    refine z_iload_n d_Mo_many_17 rfl ?_
    refine z_iald d_Mo_many_18 (rd_2 hA _) rfl (by first | omega | (dsimp only [sI, sL, sS, sN, sW]; omega) | (simp only [sI, sL, sS, sN, sW, va_up_self]; omega) | (simp [sI, sL, sS, sN, sW, va_up]; omega)) (ri_get (by first | omega | (dsimp only [sI, sL, sS, sN, sW]; omega) | (simp only [sI, sL, sS, sN, sW, va_up_self]; omega) | (simp [sI, sL, sS, sN, sW, va_up]; omega))) ?_
    refine z_iload_n d_Mo_many_19 rfl ?_
    refine z_icmp_ne (tgt := 27) d_Mo_many_20 (by decide) (fun h20 => ?_) (fun h20 => ?_)
    · skip
      have hc : ¬ N.2.2.1 2 k = q := h20
      refine z_iconst (v := 0) d_Mo_many_27 (by decide) ?_
      refine z_iadd d_Mo_many_28 ?_
      first | rw [show nI (mnN N q k) + 1 = nI (mnN N q (k + 1)) by rw [nI_1, mnN, if_pos hc]] | rw [show nI (mnN N q k) + 0 = nI (mnN N q (k + 1)) by rw [mnN, if_neg hc, Nat.add_zero, Int32.add_zero]]
      refine z_istore_n (i := 2) d_Mo_many_29 rfl (by decide) rfl ?_
      refine z_iinc (v := nI (k + 1)) d_Mo_many_30 rfl (nI_1 k) (by decide) rfl ?_
      refine z_goto (tgt := 4) d_Mo_many_33 (by decide) ?_
      exact ih (k + 1) (by omega)
    · skip
      have hc : N.2.2.1 2 k = q := h20
      refine z_iconst (v := 1) d_Mo_many_23 (by decide) ?_
      refine z_goto (tgt := 28) d_Mo_many_24 (by decide) ?_
      refine z_iadd d_Mo_many_28 ?_
      first | rw [show nI (mnN N q k) + 1 = nI (mnN N q (k + 1)) by rw [nI_1, mnN, if_pos hc]] | rw [show nI (mnN N q k) + 0 = nI (mnN N q (k + 1)) by rw [mnN, if_neg hc, Nat.add_zero, Int32.add_zero]]
      refine z_istore_n (i := 2) d_Mo_many_29 rfl (by decide) rfl ?_
      refine z_iinc (v := nI (k + 1)) d_Mo_many_30 rfl (nI_1 k) (by decide) rfl ?_
      refine z_goto (tgt := 4) d_Mo_many_33 (by decide) ?_
      exact ih (k + 1) (by omega)
set_option maxHeartbeats 4000000 in
set_option maxRecDepth 100000 in
theorem c_Mo_many (l : Launch) (g : ZG) (m : Nat) (ad : Nat → Nat) (N : NS) (q : Int32) (hA : zAd g.2.2.2.1 m ad) (hit : N.2.1 0 ≤ 1100) : ZC vcl tlx GT l g y_Mo_many b_Mo_many 4 (Option.some FieldType.int) (ZRm 0 0 0) [.ref m, .int q] (zmo g.2.2.2.1 m ad N) (fun r M' => r = some (.int (nI (mnN N q (N.2.1 0)))) ∧ M' = zmo g.2.2.2.1 m ad (N)) := by
  refine ZC.of (by decide) (Nat.le_of_ble_eq_true rfl) rfl (fun k hz0 => ?_)
  refine z_iconst (v := 0) d_Mo_many_0 (by decide) ?_
  refine z_istore_n (i := 2) d_Mo_many_1 rfl (by decide) rfl ?_
  refine z_iconst (v := 0) d_Mo_many_2 (by decide) ?_
  refine z_istore_n (i := 3) d_Mo_many_3 rfl (by decide) rfl ?_
  exact lp_Mo_many g k m ad N q hA hit (N.2.1 0) 0 (by simp)
set_option maxHeartbeats 4000000 in
set_option maxRecDepth 100000 in
theorem lp_Mo_standing (g : ZG) (k0 : ZK) (m : Nat) (ad : Nat → Nat) (N : NS) (q : Int32) (hA : zAd g.2.2.2.1 m ad)  (hit : N.2.1 0 ≤ 1100) : ∀ (d k : Nat), k + d = N.2.1 0 → ZW vcl tlx GT "MonitorQueuesModel" b_Mo_standing 4 (Option.some FieldType.int) "standing" (ZRm 0 0 0) g k0 (fun r M' => r = some (.int (nI (stN N q (N.2.1 0)))) ∧ M' = zmo g.2.2.2.1 m ad (N)) [some (.ref m), some (.int q), some (.int (nI (stN N q k))), some (.int (nI k))] 4 [] (zmo g.2.2.2.1 m ad N) 0 0 := by
  intro d
  induction d with
  | zero =>
    intro k hk
    refine z_iload_n d_Mo_standing_4 rfl ?_
    refine z_aload_n d_Mo_standing_5 rfl ?_
    refine z_get d_Mo_standing_6 zf_Mo_79 (zmo_m _ _ _ _) rfl ?_
    refine z_icmp_ge (tgt := 45) d_Mo_standing_9 (by decide) (fun h9 => ?_) (fun h9 => False.elim (h9 (nI_le (show N.2.1 0 ≤ k by omega) (by omega))))
    refine z_iload_n d_Mo_standing_45 rfl ?_
    refine z_ireturn d_Mo_standing_46 rfl ?_ (by decide) (by decide)
    rw [show k = N.2.1 0 by omega]
    exact ⟨rfl, rfl⟩
  | succ d ih =>
    intro k hk
    refine z_iload_n d_Mo_standing_4 rfl ?_
    refine z_aload_n d_Mo_standing_5 rfl ?_
    refine z_get d_Mo_standing_6 zf_Mo_79 (zmo_m _ _ _ _) rfl ?_
    refine z_icmp_ge (tgt := 45) d_Mo_standing_9 (by decide) (fun h9 => False.elim (nI_ge (show k < N.2.1 0 by omega) (by omega) h9)) (fun h9 => ?_)
    refine z_iload_n d_Mo_standing_12 rfl ?_
    refine z_aload_n d_Mo_standing_13 rfl ?_
    refine z_get d_Mo_standing_14 zf_Mo_7 (zmo_m _ _ _ _) rfl ?_
    refine z_iload_n d_Mo_standing_17 rfl ?_
    refine z_iald d_Mo_standing_18 (rd_2 hA _) rfl (by first | omega | (dsimp only [sI, sL, sS, sN, sW]; omega) | (simp only [sI, sL, sS, sN, sW, va_up_self]; omega) | (simp [sI, sL, sS, sN, sW, va_up]; omega)) (ri_get (by first | omega | (dsimp only [sI, sL, sS, sN, sW]; omega) | (simp only [sI, sL, sS, sN, sW, va_up_self]; omega) | (simp [sI, sL, sS, sN, sW, va_up]; omega))) ?_
    refine z_iload_n d_Mo_standing_19 rfl ?_
    refine z_icmp_ne (tgt := 36) d_Mo_standing_20 (by decide) (fun h20 => ?_) (fun h20 => ?_)
    · skip
      have hc : ¬ (N.2.2.1 2 k = q ∧ N.2.2.1 4 k = 0) := fun h => h20 h.1
      refine z_iconst (v := 0) d_Mo_standing_36 (by decide) ?_
      refine z_iadd d_Mo_standing_37 ?_
      first | rw [show nI (stN N q k) + 1 = nI (stN N q (k + 1)) by rw [nI_1, stN, if_pos hc]] | rw [show nI (stN N q k) + 0 = nI (stN N q (k + 1)) by rw [stN, if_neg hc, Nat.add_zero, Int32.add_zero]]
      refine z_istore_n (i := 2) d_Mo_standing_38 rfl (by decide) rfl ?_
      refine z_iinc (v := nI (k + 1)) d_Mo_standing_39 rfl (nI_1 k) (by decide) rfl ?_
      refine z_goto (tgt := 4) d_Mo_standing_42 (by decide) ?_
      exact ih (k + 1) (by omega)
    · skip
      refine z_aload_n d_Mo_standing_23 rfl ?_
      refine z_get d_Mo_standing_24 zf_Mo_16 (zmo_m _ _ _ _) rfl ?_
      refine z_iload_n d_Mo_standing_27 rfl ?_
      refine z_iald d_Mo_standing_28 (rd_4 hA _) rfl (by first | omega | (dsimp only [sI, sL, sS, sN, sW]; omega) | (simp only [sI, sL, sS, sN, sW, va_up_self]; omega) | (simp [sI, sL, sS, sN, sW, va_up]; omega)) (ri_get (by first | omega | (dsimp only [sI, sL, sS, sN, sW]; omega) | (simp only [sI, sL, sS, sN, sW, va_up_self]; omega) | (simp [sI, sL, sS, sN, sW, va_up]; omega))) ?_
      refine z_if_ne (tgt := 36) d_Mo_standing_29 (by decide) (fun h29 => ?_) (fun h29 => ?_)
      · skip
        have hc : ¬ (N.2.2.1 2 k = q ∧ N.2.2.1 4 k = 0) := fun h => h29 h.2
        refine z_iconst (v := 0) d_Mo_standing_36 (by decide) ?_
        refine z_iadd d_Mo_standing_37 ?_
        first | rw [show nI (stN N q k) + 1 = nI (stN N q (k + 1)) by rw [nI_1, stN, if_pos hc]] | rw [show nI (stN N q k) + 0 = nI (stN N q (k + 1)) by rw [stN, if_neg hc, Nat.add_zero, Int32.add_zero]]
        refine z_istore_n (i := 2) d_Mo_standing_38 rfl (by decide) rfl ?_
        refine z_iinc (v := nI (k + 1)) d_Mo_standing_39 rfl (nI_1 k) (by decide) rfl ?_
        refine z_goto (tgt := 4) d_Mo_standing_42 (by decide) ?_
        exact ih (k + 1) (by omega)
      · skip
        have hc : N.2.2.1 2 k = q ∧ N.2.2.1 4 k = 0 := ⟨h20, h29⟩
        refine z_iconst (v := 1) d_Mo_standing_32 (by decide) ?_
        refine z_goto (tgt := 37) d_Mo_standing_33 (by decide) ?_
        refine z_iadd d_Mo_standing_37 ?_
        first | rw [show nI (stN N q k) + 1 = nI (stN N q (k + 1)) by rw [nI_1, stN, if_pos hc]] | rw [show nI (stN N q k) + 0 = nI (stN N q (k + 1)) by rw [stN, if_neg hc, Nat.add_zero, Int32.add_zero]]
        refine z_istore_n (i := 2) d_Mo_standing_38 rfl (by decide) rfl ?_
        refine z_iinc (v := nI (k + 1)) d_Mo_standing_39 rfl (nI_1 k) (by decide) rfl ?_
        refine z_goto (tgt := 4) d_Mo_standing_42 (by decide) ?_
        exact ih (k + 1) (by omega)
set_option maxHeartbeats 4000000 in
set_option maxRecDepth 100000 in
theorem c_Mo_standing (l : Launch) (g : ZG) (m : Nat) (ad : Nat → Nat) (N : NS) (q : Int32) (hA : zAd g.2.2.2.1 m ad) (hit : N.2.1 0 ≤ 1100) : ZC vcl tlx GT l g y_Mo_standing b_Mo_standing 4 (Option.some FieldType.int) (ZRm 0 0 0) [.ref m, .int q] (zmo g.2.2.2.1 m ad N) (fun r M' => r = some (.int (nI (stN N q (N.2.1 0)))) ∧ M' = zmo g.2.2.2.1 m ad (N)) := by
  refine ZC.of (by decide) (Nat.le_of_ble_eq_true rfl) rfl (fun k hz0 => ?_)
  refine z_iconst (v := 0) d_Mo_standing_0 (by decide) ?_
  refine z_istore_n (i := 2) d_Mo_standing_1 rfl (by decide) rfl ?_
  refine z_iconst (v := 0) d_Mo_standing_2 (by decide) ?_
  refine z_istore_n (i := 3) d_Mo_standing_3 rfl (by decide) rfl ?_
  exact lp_Mo_standing g k m ad N q hA hit (N.2.1 0) 0 (by simp)
set_option maxHeartbeats 4000000 in
set_option maxRecDepth 100000 in
theorem lp_Mo_lockOf (g : ZG) (k0 : ZK) (m : Nat) (ad : Nat → Nat) (N : NS) (q : Int32) (hA : zAd g.2.2.2.1 m ad)  (hit : N.2.1 0 ≤ 1100) : ∀ (d k : Nat), k + d = N.2.1 0 → ZW vcl tlx GT "MonitorQueuesModel" b_Mo_lockOf 4 (Option.some FieldType.int) "lockOf" (ZRm 0 0 0) g k0 (fun r M' => r = some (.int (lkN N q (N.2.1 0))) ∧ M' = zmo g.2.2.2.1 m ad (N)) [some (.ref m), some (.int q), some (.int (lkN N q k)), some (.int (nI k))] 4 [] (zmo g.2.2.2.1 m ad N) 0 0 := by
  intro d
  induction d with
  | zero =>
    intro k hk
    refine z_iload_n d_Mo_lockOf_4 rfl ?_
    refine z_aload_n d_Mo_lockOf_5 rfl ?_
    refine z_get d_Mo_lockOf_6 zf_Mo_79 (zmo_m _ _ _ _) rfl ?_
    refine z_icmp_ge (tgt := 48) d_Mo_lockOf_9 (by decide) (fun h9 => ?_) (fun h9 => False.elim (h9 (nI_le (show N.2.1 0 ≤ k by omega) (by omega))))
    refine z_iload_n d_Mo_lockOf_48 rfl ?_
    refine z_ireturn d_Mo_lockOf_49 rfl ?_ (by decide) (by decide)
    rw [show k = N.2.1 0 by omega]
    exact ⟨rfl, rfl⟩
  | succ d ih =>
    intro k hk
    refine z_iload_n d_Mo_lockOf_4 rfl ?_
    refine z_aload_n d_Mo_lockOf_5 rfl ?_
    refine z_get d_Mo_lockOf_6 zf_Mo_79 (zmo_m _ _ _ _) rfl ?_
    refine z_icmp_ge (tgt := 48) d_Mo_lockOf_9 (by decide) (fun h9 => False.elim (nI_ge (show k < N.2.1 0 by omega) (by omega) h9)) (fun h9 => ?_)
    refine z_aload_n d_Mo_lockOf_12 rfl ?_
    refine z_get d_Mo_lockOf_13 zf_Mo_7 (zmo_m _ _ _ _) rfl ?_
    refine z_iload_n d_Mo_lockOf_16 rfl ?_
    refine z_iald d_Mo_lockOf_17 (rd_2 hA _) rfl (by first | omega | (dsimp only [sI, sL, sS, sN, sW]; omega) | (simp only [sI, sL, sS, sN, sW, va_up_self]; omega) | (simp [sI, sL, sS, sN, sW, va_up]; omega)) (ri_get (by first | omega | (dsimp only [sI, sL, sS, sN, sW]; omega) | (simp only [sI, sL, sS, sN, sW, va_up_self]; omega) | (simp [sI, sL, sS, sN, sW, va_up]; omega))) ?_
    refine z_iload_n d_Mo_lockOf_18 rfl ?_
    refine z_icmp_ne (tgt := 40) d_Mo_lockOf_19 (by decide) (fun h19 => ?_) (fun h19 => ?_)
    · skip
      have hc : ¬ (N.2.2.1 2 k = q ∧ ¬ N.2.2.1 4 k ≤ 0) := fun h => h19 h.1
      refine z_iload_n d_Mo_lockOf_40 rfl ?_
      first | rw [show N.2.2.1 4 k = lkN N q (k + 1) by rw [lkN, if_pos hc]] | rw [show lkN N q k = lkN N q (k + 1) by rw [lkN, if_neg hc]]
      refine z_istore_n (i := 2) d_Mo_lockOf_41 rfl (by decide) rfl ?_
      refine z_iinc (v := nI (k + 1)) d_Mo_lockOf_42 rfl (nI_1 k) (by decide) rfl ?_
      refine z_goto (tgt := 4) d_Mo_lockOf_45 (by decide) ?_
      exact ih (k + 1) (by omega)
    · skip
      refine z_aload_n d_Mo_lockOf_22 rfl ?_
      refine z_get d_Mo_lockOf_23 zf_Mo_16 (zmo_m _ _ _ _) rfl ?_
      refine z_iload_n d_Mo_lockOf_26 rfl ?_
      refine z_iald d_Mo_lockOf_27 (rd_4 hA _) rfl (by first | omega | (dsimp only [sI, sL, sS, sN, sW]; omega) | (simp only [sI, sL, sS, sN, sW, va_up_self]; omega) | (simp [sI, sL, sS, sN, sW, va_up]; omega)) (ri_get (by first | omega | (dsimp only [sI, sL, sS, sN, sW]; omega) | (simp only [sI, sL, sS, sN, sW, va_up_self]; omega) | (simp [sI, sL, sS, sN, sW, va_up]; omega))) ?_
      refine z_if_le (tgt := 40) d_Mo_lockOf_28 (by decide) (fun h28 => ?_) (fun h28 => ?_)
      · skip
        have hc : ¬ (N.2.2.1 2 k = q ∧ ¬ N.2.2.1 4 k ≤ 0) := fun h => h.2 h28
        refine z_iload_n d_Mo_lockOf_40 rfl ?_
        first | rw [show N.2.2.1 4 k = lkN N q (k + 1) by rw [lkN, if_pos hc]] | rw [show lkN N q k = lkN N q (k + 1) by rw [lkN, if_neg hc]]
        refine z_istore_n (i := 2) d_Mo_lockOf_41 rfl (by decide) rfl ?_
        refine z_iinc (v := nI (k + 1)) d_Mo_lockOf_42 rfl (nI_1 k) (by decide) rfl ?_
        refine z_goto (tgt := 4) d_Mo_lockOf_45 (by decide) ?_
        exact ih (k + 1) (by omega)
      · skip
        have hc : N.2.2.1 2 k = q ∧ ¬ N.2.2.1 4 k ≤ 0 := ⟨h19, h28⟩
        refine z_aload_n d_Mo_lockOf_31 rfl ?_
        refine z_get d_Mo_lockOf_32 zf_Mo_16 (zmo_m _ _ _ _) rfl ?_
        refine z_iload_n d_Mo_lockOf_35 rfl ?_
        refine z_iald d_Mo_lockOf_36 (rd_4 hA _) rfl (by first | omega | (dsimp only [sI, sL, sS, sN, sW]; omega) | (simp only [sI, sL, sS, sN, sW, va_up_self]; omega) | (simp [sI, sL, sS, sN, sW, va_up]; omega)) (ri_get (by first | omega | (dsimp only [sI, sL, sS, sN, sW]; omega) | (simp only [sI, sL, sS, sN, sW, va_up_self]; omega) | (simp [sI, sL, sS, sN, sW, va_up]; omega))) ?_
        refine z_goto (tgt := 41) d_Mo_lockOf_37 (by decide) ?_
        first | rw [show N.2.2.1 4 k = lkN N q (k + 1) by rw [lkN, if_pos hc]] | rw [show lkN N q k = lkN N q (k + 1) by rw [lkN, if_neg hc]]
        refine z_istore_n (i := 2) d_Mo_lockOf_41 rfl (by decide) rfl ?_
        refine z_iinc (v := nI (k + 1)) d_Mo_lockOf_42 rfl (nI_1 k) (by decide) rfl ?_
        refine z_goto (tgt := 4) d_Mo_lockOf_45 (by decide) ?_
        exact ih (k + 1) (by omega)
set_option maxHeartbeats 4000000 in
set_option maxRecDepth 100000 in
theorem c_Mo_lockOf (l : Launch) (g : ZG) (m : Nat) (ad : Nat → Nat) (N : NS) (q : Int32) (hA : zAd g.2.2.2.1 m ad) (hit : N.2.1 0 ≤ 1100) : ZC vcl tlx GT l g y_Mo_lockOf b_Mo_lockOf 4 (Option.some FieldType.int) (ZRm 0 0 0) [.ref m, .int q] (zmo g.2.2.2.1 m ad N) (fun r M' => r = some (.int (lkN N q (N.2.1 0))) ∧ M' = zmo g.2.2.2.1 m ad (N)) := by
  refine ZC.of (by decide) (Nat.le_of_ble_eq_true rfl) rfl (fun k hz0 => ?_)
  refine z_iconst (v := 0) d_Mo_lockOf_0 (by decide) ?_
  refine z_istore_n (i := 2) d_Mo_lockOf_1 rfl (by decide) rfl ?_
  refine z_iconst (v := 0) d_Mo_lockOf_2 (by decide) ?_
  refine z_istore_n (i := 3) d_Mo_lockOf_3 rfl (by decide) rfl ?_
  exact lp_Mo_lockOf g k m ad N q hA hit (N.2.1 0) 0 (by simp)
set_option maxHeartbeats 4000000 in
set_option maxRecDepth 100000 in
theorem lp_Mo_placeOf (g : ZG) (k0 : ZK) (m : Nat) (ad : Nat → Nat) (N : NS) (q i : Int32) (hA : zAd g.2.2.2.1 m ad)  (hit : N.2.1 0 ≤ 1100) : ∀ (d k n : Nat), k + d = N.2.1 0 → plI N q i = plN N q i d k n → ZW vcl tlx GT "MonitorQueuesModel" b_Mo_placeOf 5 (Option.some FieldType.int) "placeOf" (ZRm 0 0 0) g k0 (fun r M' => r = some (.int (plV (plI N q i))) ∧ M' = zmo g.2.2.2.1 m ad (N)) [some (.ref m), some (.int q), some (.int i), some (.int (nI n)), some (.int (nI k))] 5 [] (zmo g.2.2.2.1 m ad N) 0 0 := by
  intro d
  induction d with
  | zero =>
    intro k n hk hp
    refine z_iload d_Mo_placeOf_5 rfl ?_
    refine z_aload_n d_Mo_placeOf_7 rfl ?_
    refine z_get d_Mo_placeOf_8 zf_Mo_79 (zmo_m _ _ _ _) rfl ?_
    refine z_icmp_ge (tgt := 58) d_Mo_placeOf_11 (by decide) (fun h11 => ?_) (fun h11 => False.elim (h11 (nI_le (show N.2.1 0 ≤ k by omega) (by omega))))
    refine z_iconst (v := (-1)) d_Mo_placeOf_58 (by decide) ?_
    refine z_ireturn d_Mo_placeOf_59 rfl ?_ (by decide) (by decide)
    rw [hp]
    exact ⟨rfl, rfl⟩
  | succ d ih =>
    intro k n hk hp
    refine z_iload d_Mo_placeOf_5 rfl ?_
    refine z_aload_n d_Mo_placeOf_7 rfl ?_
    refine z_get d_Mo_placeOf_8 zf_Mo_79 (zmo_m _ _ _ _) rfl ?_
    refine z_icmp_ge (tgt := 58) d_Mo_placeOf_11 (by decide) (fun h11 => False.elim (nI_ge (show k < N.2.1 0 by omega) (by omega) h11)) (fun h11 => ?_)
    refine z_iload_n d_Mo_placeOf_14 rfl ?_
    refine z_aload_n d_Mo_placeOf_15 rfl ?_
    refine z_get d_Mo_placeOf_16 zf_Mo_7 (zmo_m _ _ _ _) rfl ?_
    refine z_iload d_Mo_placeOf_19 rfl ?_
    refine z_iald d_Mo_placeOf_21 (rd_2 hA _) rfl (by first | omega | (dsimp only [sI, sL, sS, sN, sW]; omega) | (simp only [sI, sL, sS, sN, sW, va_up_self]; omega) | (simp [sI, sL, sS, sN, sW, va_up]; omega)) (ri_get (by first | omega | (dsimp only [sI, sL, sS, sN, sW]; omega) | (simp only [sI, sL, sS, sN, sW, va_up_self]; omega) | (simp [sI, sL, sS, sN, sW, va_up]; omega))) ?_
    refine z_iload_n d_Mo_placeOf_22 rfl ?_
    refine z_icmp_ne (tgt := 30) d_Mo_placeOf_23 (by decide) (fun h23 => ?_) (fun h23 => ?_)
    · skip
      have hc : ¬ N.2.2.1 2 k = q := h23
      refine z_iconst (v := 0) d_Mo_placeOf_30 (by decide) ?_
      refine z_iadd d_Mo_placeOf_31 ?_
      rw [Int32.add_zero]
      refine z_istore_n (i := 3) d_Mo_placeOf_32 rfl (by decide) rfl ?_
      have hp2 : plI N q i = plN N q i d (k + 1) n := by rw [hp, plN, if_neg hc]
      refine z_aload_n d_Mo_placeOf_33 rfl ?_
      refine z_get d_Mo_placeOf_34 zf_Mo_7 (zmo_m _ _ _ _) rfl ?_
      refine z_iload d_Mo_placeOf_37 rfl ?_
      refine z_iald d_Mo_placeOf_39 (rd_2 hA _) rfl (by first | omega | (dsimp only [sI, sL, sS, sN, sW]; omega) | (simp only [sI, sL, sS, sN, sW, va_up_self]; omega) | (simp [sI, sL, sS, sN, sW, va_up]; omega)) (ri_get (by first | omega | (dsimp only [sI, sL, sS, sN, sW]; omega) | (simp only [sI, sL, sS, sN, sW, va_up_self]; omega) | (simp [sI, sL, sS, sN, sW, va_up]; omega))) ?_
      refine z_iload_n d_Mo_placeOf_40 rfl ?_
      refine z_icmp_ne (tgt := 52) d_Mo_placeOf_41 (by decide) (fun h41 => ?_) (fun h41 => False.elim (hc h41))
      refine z_iinc (v := nI (k + 1)) d_Mo_placeOf_52 rfl (nI_1 k) (by decide) rfl ?_
      refine z_goto (tgt := 5) d_Mo_placeOf_55 (by decide) ?_
      exact ih (k + 1) n (by omega) hp2
      skip
    · skip
      have hc : N.2.2.1 2 k = q := h23
      refine z_iconst (v := 1) d_Mo_placeOf_26 (by decide) ?_
      refine z_goto (tgt := 31) d_Mo_placeOf_27 (by decide) ?_
      refine z_iadd d_Mo_placeOf_31 ?_
      rw [nI_1]
      refine z_istore_n (i := 3) d_Mo_placeOf_32 rfl (by decide) rfl ?_
      refine z_aload_n d_Mo_placeOf_33 rfl ?_
      refine z_get d_Mo_placeOf_34 zf_Mo_7 (zmo_m _ _ _ _) rfl ?_
      refine z_iload d_Mo_placeOf_37 rfl ?_
      refine z_iald d_Mo_placeOf_39 (rd_2 hA _) rfl (by first | omega | (dsimp only [sI, sL, sS, sN, sW]; omega) | (simp only [sI, sL, sS, sN, sW, va_up_self]; omega) | (simp [sI, sL, sS, sN, sW, va_up]; omega)) (ri_get (by first | omega | (dsimp only [sI, sL, sS, sN, sW]; omega) | (simp only [sI, sL, sS, sN, sW, va_up_self]; omega) | (simp [sI, sL, sS, sN, sW, va_up]; omega))) ?_
      refine z_iload_n d_Mo_placeOf_40 rfl ?_
      refine z_icmp_ne (tgt := 52) d_Mo_placeOf_41 (by decide) (fun h41 => False.elim (h41 hc)) (fun h41 => ?_)
      refine z_iload_n d_Mo_placeOf_44 rfl ?_
      refine z_iload_n d_Mo_placeOf_45 rfl ?_
      refine z_icmp_ne (tgt := 52) d_Mo_placeOf_46 (by decide) (fun h46 => ?_) (fun h46 => ?_)
      · skip
        have hp2 : plI N q i = plN N q i d (k + 1) (n + 1) := by rw [hp, plN, if_pos hc, if_neg h46]
        refine z_iinc (v := nI (k + 1)) d_Mo_placeOf_52 rfl (nI_1 k) (by decide) rfl ?_
        refine z_goto (tgt := 5) d_Mo_placeOf_55 (by decide) ?_
        exact ih (k + 1) (n + 1) (by omega) hp2
      · skip
        have hp2 : plI N q i = some k := by rw [hp, plN, if_pos hc, if_pos h46]
        refine z_iload d_Mo_placeOf_49 rfl ?_
        refine z_ireturn d_Mo_placeOf_51 rfl ?_ (by decide) (by decide)
        rw [hp2]
        exact ⟨rfl, rfl⟩
      skip
set_option maxHeartbeats 4000000 in
set_option maxRecDepth 100000 in
theorem c_Mo_placeOf (l : Launch) (g : ZG) (m : Nat) (ad : Nat → Nat) (N : NS) (q i : Int32) (hA : zAd g.2.2.2.1 m ad) (hit : N.2.1 0 ≤ 1100) : ZC vcl tlx GT l g y_Mo_placeOf b_Mo_placeOf 5 (Option.some FieldType.int) (ZRm 0 0 0) [.ref m, .int q, .int i] (zmo g.2.2.2.1 m ad N) (fun r M' => r = some (.int (plV (plI N q i))) ∧ M' = zmo g.2.2.2.1 m ad (N)) := by
  refine ZC.of (by decide) (Nat.le_of_ble_eq_true rfl) rfl (fun k hz0 => ?_)
  refine z_iconst (v := 0) d_Mo_placeOf_0 (by decide) ?_
  refine z_istore_n (i := 3) d_Mo_placeOf_1 rfl (by decide) rfl ?_
  refine z_iconst (v := 0) d_Mo_placeOf_2 (by decide) ?_
  refine z_istore d_Mo_placeOf_3 (by decide) rfl ?_
  exact lp_Mo_placeOf g k m ad N q i hA hit (N.2.1 0) 0 0 (by simp) rfl
set_option maxHeartbeats 4000000 in
set_option maxRecDepth 100000 in
theorem c_Mo_task (l : Launch) (g : ZG) (m : Nat) (ad : Nat → Nat) (N : NS) (c : Int32) (hA : zAd g.2.2.2.1 m ad) (hb : N.2.1 1 < 4000) : ZC vcl tlx GT l g y_Mo_task b_Mo_task 2 (Option.some FieldType.int) (ZRm 0 0 0) [.ref m, .int c] (zmo g.2.2.2.1 m ad N) (fun r M' => r = some (.int (nI (N.2.1 1 + 1))) ∧ M' = zmo g.2.2.2.1 m ad (taskS N c)) := by
  refine ZC.of (by decide) (Nat.le_of_ble_eq_true rfl) rfl (fun k hz0 => ?_)
  refine z_aload_n d_Mo_task_0 rfl ?_
  refine z_get d_Mo_task_1 zf_Mo_57 (zmo_m _ _ _ _) rfl ?_
  refine z_aload_n d_Mo_task_4 rfl ?_
  refine z_get d_Mo_task_5 zf_Mo_90 (zmo_m _ _ _ _) rfl ?_
  refine z_iload_n d_Mo_task_8 rfl ?_
  refine z_iast d_Mo_task_9 (rd_18 hA _) rfl (by first | omega | (dsimp only [sI, sL, sS, sN, sW]; omega) | (simp only [sI, sL, sS, sN, sW, va_up_self]; omega) | (simp [sI, sL, sS, sN, sW, va_up]; omega)) (by rw [ri_len]; exact (by first | omega | (dsimp only [sI, sL, sS, sN, sW]; omega) | (simp only [sI, sL, sS, sN, sW, va_up_self]; omega) | (simp [sI, sL, sS, sN, sW, va_up]; omega))) ?_
  rw [wr_18 hA]
  refine z_aload_n d_Mo_task_10 rfl ?_
  refine z_get d_Mo_task_11 zf_Mo_60 (zmo_m _ _ _ _) rfl ?_
  refine z_aload_n d_Mo_task_14 rfl ?_
  refine z_get d_Mo_task_15 zf_Mo_90 (zmo_m _ _ _ _) rfl ?_
  refine z_iconst (v := 1) d_Mo_task_18 (by decide) ?_
  refine z_zast d_Mo_task_19 (rd_19 hA _) rfl (by first | omega | (dsimp only [sI, sL, sS, sN, sW]; omega) | (simp only [sI, sL, sS, sN, sW, va_up_self]; omega) | (simp [sI, sL, sS, sN, sW, va_up]; omega)) (by rw [ri_len]; exact (by first | omega | (dsimp only [sI, sL, sS, sN, sW]; omega) | (simp only [sI, sL, sS, sN, sW, va_up_self]; omega) | (simp [sI, sL, sS, sN, sW, va_up]; omega))) rfl ?_
  rw [wr_19 hA]
  refine z_aload_n d_Mo_task_20 rfl ?_
  refine z_dup d_Mo_task_21 rfl ?_
  refine z_get d_Mo_task_22 zf_Mo_90 (zmo_m _ _ _ _) rfl ?_
  refine z_iconst (v := 1) d_Mo_task_25 (by decide) ?_
  refine z_iadd d_Mo_task_26 ?_
  rw [show ∀ x : Nat, nI x + 1 = nI (x + 1) from nI_1]
  refine z_put d_Mo_task_27 zp_Mo_90 (zmo_m _ _ _ _) rfl rfl ?_
  rw [ws_20]
  refine z_aload_n d_Mo_task_30 rfl ?_
  refine z_dup d_Mo_task_31 rfl ?_
  refine z_get d_Mo_task_32 zf_Mo_93 (zmo_m _ _ _ _) rfl ?_
  refine z_iconst (v := 1) d_Mo_task_35 (by decide) ?_
  refine z_iadd d_Mo_task_36 ?_
  refine z_put d_Mo_task_37 zp_Mo_93 (zmo_m _ _ _ _) rfl rfl ?_
  rw [ws_21]
  refine z_aload_n d_Mo_task_40 rfl ?_
  refine z_get d_Mo_task_41 zf_Mo_90 (zmo_m _ _ _ _) rfl ?_
  refine z_ireturn d_Mo_task_44 rfl ?_ (by decide) (by decide)
  exact ⟨rfl, rfl⟩
set_option maxHeartbeats 4000000 in
set_option maxRecDepth 100000 in
theorem lp_Mo_emptied (g : ZG) (k0 : ZK) (m : Nat) (ad : Nat → Nat) (N : NS) (q : Nat) (hA : zAd g.2.2.2.1 m ad) (hq : q < 32) : ∀ (d r : Nat), r + d = 8 → ZW vcl tlx GT "MonitorQueuesModel" b_Mo_emptied 3 none "emptied" (ZRm 0 0 0) g k0 (fun r M' => r = none ∧ M' = zmo g.2.2.2.1 m ad (emR N q 8)) [some (.ref m), some (.int (nI q)), some (.int (nI r))] 9 [] (zmo g.2.2.2.1 m ad (emR N q r)) 0 0 := by
  intro d
  induction d with
  | zero =>
    intro r hr
    obtain rfl : r = 8 := by omega
    refine z_iload_n d_Mo_emptied_9 rfl ?_
    refine z_bipush (v := 8) d_Mo_emptied_10 (by decide) ?_
    refine z_icmp_ge (tgt := 33) d_Mo_emptied_12 (by decide) (fun h12 => ?_) (fun h12 => False.elim (h12 (by decide)))
    refine z_return d_Mo_emptied_33 rfl ?_ (by decide) (by decide)
    exact ⟨rfl, rfl⟩
  | succ d ih =>
    intro r hr
    refine z_iload_n d_Mo_emptied_9 rfl ?_
    refine z_bipush (v := 8) d_Mo_emptied_10 (by decide) ?_
    refine z_icmp_ge (tgt := 33) d_Mo_emptied_12 (by decide) (fun h12 => False.elim (nI_ge (show r < 8 by omega) (by decide) h12)) (fun h12 => ?_)
    refine z_aload_n d_Mo_emptied_15 rfl ?_
    refine z_get d_Mo_emptied_16 zf_Mo_54 (zmo_m _ _ _ _) rfl ?_
    refine z_bipush (v := 8) d_Mo_emptied_19 (by decide) ?_
    refine z_iload_n d_Mo_emptied_21 rfl ?_
    refine z_imul d_Mo_emptied_22 ?_
    refine z_iload_n d_Mo_emptied_23 rfl ?_
    refine z_iadd d_Mo_emptied_24 ?_
    rw [show (8 : Int32) * nI q + nI r = nI (8 * q + r) by rw [← nI_add, ← nI_mul]; rfl]
    refine z_iconst (v := 0) d_Mo_emptied_25 (by decide) ?_
    refine z_iast d_Mo_emptied_26 (rd_17 hA _) rfl (by first | omega | (dsimp only [sI, sL, sS, sN, sW]; omega) | (simp only [sI, sL, sS, sN, sW, va_up_self]; omega) | (simp [sI, sL, sS, sN, sW, va_up]; omega)) (by rw [ri_len]; exact (by first | omega | (dsimp only [sI, sL, sS, sN, sW]; omega) | (simp only [sI, sL, sS, sN, sW, va_up_self]; omega) | (simp [sI, sL, sS, sN, sW, va_up]; omega))) ?_
    rw [wr_17 hA]
    refine z_iinc (v := nI (r + 1)) d_Mo_emptied_27 rfl (nI_1 r) (by decide) rfl ?_
    refine z_goto (tgt := 9) d_Mo_emptied_30 (by decide) ?_
    exact ih (r + 1) (by omega)
set_option maxHeartbeats 4000000 in
set_option maxRecDepth 100000 in
theorem c_Mo_emptied (l : Launch) (g : ZG) (m : Nat) (ad : Nat → Nat) (N : NS) (q : Nat) (hA : zAd g.2.2.2.1 m ad) (hq : q < 32) : ZC vcl tlx GT l g y_Mo_emptied b_Mo_emptied 3 none (ZRm 0 0 0) [.ref m, .int (nI q)] (zmo g.2.2.2.1 m ad N) (fun r M' => r = none ∧ M' = zmo g.2.2.2.1 m ad (emS N q)) := by
  refine ZC.of (by decide) (Nat.le_of_ble_eq_true rfl) rfl (fun k hz0 => ?_)
  refine z_aload_n d_Mo_emptied_0 rfl ?_
  refine z_get d_Mo_emptied_1 zf_Mo_23 (zmo_m _ _ _ _) rfl ?_
  refine z_iload_n d_Mo_emptied_4 rfl ?_
  refine z_iconst (v := (-1)) d_Mo_emptied_5 (by decide) ?_
  refine z_iast d_Mo_emptied_6 (rd_7 hA _) rfl (by first | omega | (dsimp only [sI, sL, sS, sN, sW]; omega) | (simp only [sI, sL, sS, sN, sW, va_up_self]; omega) | (simp [sI, sL, sS, sN, sW, va_up]; omega)) (by rw [ri_len]; exact (by first | omega | (dsimp only [sI, sL, sS, sN, sW]; omega) | (simp only [sI, sL, sS, sN, sW, va_up_self]; omega) | (simp [sI, sL, sS, sN, sW, va_up]; omega))) ?_
  rw [wr_7 hA]
  refine z_iconst (v := 0) d_Mo_emptied_7 (by decide) ?_
  refine z_istore_n (i := 2) d_Mo_emptied_8 rfl (by decide) rfl ?_
  exact lp_Mo_emptied g k m ad (sI N 7 q (-1)) q hA hq 8 0 rfl
end
