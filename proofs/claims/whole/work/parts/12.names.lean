theorem gw_660 : (Cond.superclass "MonitorQueuesModel" "java/lang/Object") ∈ GT := gt_t (gt_3 145 (by decide +kernel)) rfl
theorem gw_566 : (Cond.superclass "java/util/NoSuchElementException" "java/lang/RuntimeException") ∈ GT := gt_t (gt_3 51 (by decide +kernel)) rfl
theorem gw_558 : (Cond.fieldLink "java/lang/Throwable" 24 "java/lang/Throwable" "suppressedExceptions" "Ljava/util/List;") ∈ GT := gt_t (gt_3 43 (by decide +kernel)) rfl
theorem gw_557 : (Cond.fieldLink "java/lang/Throwable" 17 "java/lang/Throwable" "stackTrace" "[Ljava/lang/StackTraceElement;") ∈ GT := gt_t (gt_3 42 (by decide +kernel)) rfl
theorem gw_556 : (Cond.fieldLink "java/lang/Throwable" 7 "java/lang/Throwable" "cause" "Ljava/lang/Throwable;") ∈ GT := gt_t (gt_3 41 (by decide +kernel)) rfl
theorem gw_555 : (Cond.fieldLink "java/lang/Throwable" 31 "java/lang/Throwable" "detailMessage" "Ljava/lang/String;") ∈ GT := gt_t (gt_3 40 (by decide +kernel)) rfl
theorem gw_538 : (Cond.instanceMethod ⟨"java/lang/Throwable", "fillInStackTrace", "(I)Ljava/lang/Throwable;"⟩) ∈ GT := gt_t (gt_3 23 (by decide +kernel)) rfl
theorem gw_536 : (Cond.methodLink "java/lang/Throwable" 202 ⟨"java/lang/Throwable", "fillInStackTrace", "(I)Ljava/lang/Throwable;"⟩) ∈ GT := gt_t (gt_3 21 (by decide +kernel)) rfl
theorem gw_535 : (Cond.codeSync ⟨"java/lang/Throwable", "fillInStackTrace", "()Ljava/lang/Throwable;"⟩ prog_17_method_18_code 1 (Option.some (FieldType.object "java/lang/Throwable"))) ∈ GT := gt_t (gt_3 20 (by decide +kernel)) rfl
theorem gw_533 : (Cond.instanceMethod ⟨"java/lang/Throwable", "fillInStackTrace", "()Ljava/lang/Throwable;"⟩) ∈ GT := gt_t (gt_3 18 (by decide +kernel)) rfl
theorem gw_532 : (Cond.methodLink "java/lang/Throwable" 27 ⟨"java/lang/Throwable", "fillInStackTrace", "()Ljava/lang/Throwable;"⟩) ∈ GT := gt_t (gt_3 17 (by decide +kernel)) rfl
theorem gw_530 : (Cond.fieldLink "java/lang/Throwable" 20 "java/lang/Throwable" "SUPPRESSED_SENTINEL" "Ljava/util/List;") ∈ GT := gt_t (gt_3 15 (by decide +kernel)) rfl
theorem gw_528 : (Cond.fieldLink "java/lang/Throwable" 13 "java/lang/Throwable" "UNASSIGNED_STACK" "[Ljava/lang/StackTraceElement;") ∈ GT := gt_t (gt_3 13 (by decide +kernel)) rfl
theorem gw_526 : (Cond.code ⟨"java/lang/Throwable", "<init>", "()V"⟩ prog_17_method_1_code 1 none) ∈ GT := gt_t (gt_3 11 (by decide +kernel)) rfl
theorem gw_525 : (Cond.instanceMethod ⟨"java/lang/Throwable", "<init>", "()V"⟩) ∈ GT := gt_t (gt_3 10 (by decide +kernel)) rfl
theorem gw_524 : (Cond.superclass "java/lang/Throwable" "java/lang/Object") ∈ GT := gt_t (gt_3 9 (by decide +kernel)) rfl
theorem gw_523 : (Cond.fieldLink "java/lang/Throwable" 198 "java/lang/Throwable" "backtrace" "Ljava/lang/Object;") ∈ GT := gt_t (gt_3 8 (by decide +kernel)) rfl
theorem gw_512 : (Cond.selects "java/util/NoSuchElementException" ⟨"java/lang/Throwable", "fillInStackTrace", "()Ljava/lang/Throwable;"⟩ ⟨"java/lang/Throwable", "fillInStackTrace", "()Ljava/lang/Throwable;"⟩) ∈ GT := gt_t (gt_2 237 (by decide +kernel)) rfl
theorem gw_511 : (Cond.selects "java/util/NoSuchElementException" ⟨"java/lang/Throwable", "fillInStackTrace", "(I)Ljava/lang/Throwable;"⟩ ⟨"java/lang/Throwable", "fillInStackTrace", "(I)Ljava/lang/Throwable;"⟩) ∈ GT := gt_t (gt_2 236 (by decide +kernel)) rfl
theorem gw_496 : (Cond.codeWith ⟨"MonitorQueuesLaw", "get", "(LMonitorQueues;II[J)I"⟩ method_3_code 5 (Option.some FieldType.int) [(0, 9, 12, 13)]) ∈ GT := gt_t (gt_2 221 (by decide +kernel)) rfl
theorem gw_495 : (Cond.static ⟨"MonitorQueuesLaw", "get", "(LMonitorQueues;II[J)I"⟩) ∈ GT := gt_t (gt_2 220 (by decide +kernel)) rfl
theorem gw_494 : (Cond.methodLink "MonitorQueuesLaw" 34 ⟨"MonitorQueuesLaw", "get", "(LMonitorQueues;II[J)I"⟩) ∈ GT := gt_t (gt_2 219 (by decide +kernel)) rfl
theorem gw_444 : (Cond.superclass "MonitorQueues$Delay" "java/lang/Object") ∈ GT := gt_t (gt_2 169 (by decide +kernel)) rfl
theorem gw_399 : (Cond.superclass "MonitorQueues$Trigger" "java/lang/Object") ∈ GT := gt_t (gt_2 124 (by decide +kernel)) rfl
theorem gw_308 : (Cond.superclass "MonitorQueues$Task" "java/lang/Object") ∈ GT := gt_t (gt_2 33 (by decide +kernel)) rfl
theorem gw_213 : (Cond.superclass "MonitorQueues$Item" "java/lang/Object") ∈ GT := gt_t (gt_1 178 (by decide +kernel)) rfl
theorem gw_166 : (Cond.superclass "MonitorQueues" "java/lang/Object") ∈ GT := gt_t (gt_1 131 (by decide +kernel)) rfl
theorem gw_141 : (Cond.superclass "MonitorQueues$Queue" "java/lang/Object") ∈ GT := gt_t (gt_1 106 (by decide +kernel)) rfl
theorem gw_102 : (Cond.superclass "java/util/ArrayList" "java/util/AbstractList") ∈ GT := gt_t (gt_1 67 (by decide +kernel)) rfl
theorem gw_89 : (Cond.fieldLink "java/util/ArrayList" 39 "java/util/ArrayList" "DEFAULTCAPACITY_EMPTY_ELEMENTDATA" "[Ljava/lang/Object;") ∈ GT := gt_t (gt_1 54 (by decide +kernel)) rfl
theorem gw_15 : (Cond.selects "java/lang/Throwable" ⟨"java/lang/Throwable", "fillInStackTrace", "(I)Ljava/lang/Throwable;"⟩ ⟨"java/lang/Throwable", "fillInStackTrace", "(I)Ljava/lang/Throwable;"⟩) ∈ GT := gt_s 15 (by decide +kernel) rfl
def T_MQ : u_T := fun k => match k with
  | 0 => ("MonitorQueues", "room", "I", true)
  | 1 => ("MonitorQueues", "queues", "[LMonitorQueues$Queue;", true)
  | 2 => ("MonitorQueues", "tasks", "Ljava/util/ArrayList;", true)
  | 3 => ("MonitorQueues", "waiting", "Ljava/util/ArrayList;", true)
  | 4 => ("MonitorQueues", "tasksGoing", "I", false)
  | 5 => ("MonitorQueues", "lastDelay", "I", false)
  | _ => ("MonitorQueues", "now", "J", false)
def ty_MQ : Nat → FieldType := fun k => match k with
  | 0 => .int
  | 1 => .array (.object "MonitorQueues$Queue")
  | 2 => .object "java/util/ArrayList"
  | 3 => .object "java/util/ArrayList"
  | 4 => .int
  | 5 => .int
  | _ => .long
def T_Qu : u_T := fun k => match k with
  | 0 => ("MonitorQueues$Queue", "items", "Ljava/util/ArrayList;", true)
  | 1 => ("MonitorQueues$Queue", "places", "[I", true)
  | 2 => ("MonitorQueues$Queue", "kind", "I", false)
  | 3 => ("MonitorQueues$Queue", "pending", "I", false)
  | 4 => ("MonitorQueues$Queue", "holder", "I", false)
  | 5 => ("MonitorQueues$Queue", "lastUse", "J", false)
  | 6 => ("MonitorQueues$Queue", "lastNumber", "I", false)
  | 7 => ("MonitorQueues$Queue", "takenNumber", "I", false)
  | 8 => ("MonitorQueues$Queue", "takenValue", "J", false)
  | _ => ("MonitorQueues$Queue", "trigger", "LMonitorQueues$Trigger;", false)
def ty_Qu : Nat → FieldType := fun k => match k with
  | 0 => .object "java/util/ArrayList"
  | 1 => .array .int
  | 2 => .int
  | 3 => .int
  | 4 => .int
  | 5 => .long
  | 6 => .int
  | 7 => .int
  | 8 => .long
  | _ => .object "MonitorQueues$Trigger"
def T_It : u_T := fun k => match k with
  | _ => ("MonitorQueues$Item", "value", "J", false)
def ty_It : Nat → FieldType := fun k => match k with
  | _ => .long
def T_Ta : u_T := fun k => match k with
  | 0 => ("MonitorQueues$Task", "code", "I", true)
  | _ => ("MonitorQueues$Task", "goes", "Z", false)
def ty_Ta : Nat → FieldType := fun k => match k with
  | 0 => .int
  | _ => .boolean
def T_Tr : u_T := fun k => match k with
  | 0 => ("MonitorQueues$Trigger", "needed", "I", true)
  | 1 => ("MonitorQueues$Trigger", "code", "I", true)
  | 2 => ("MonitorQueues$Trigger", "ready", "Z", false)
  | 3 => ("MonitorQueues$Trigger", "task", "I", false)
  | _ => ("MonitorQueues$Trigger", "takenSince", "Z", false)
def ty_Tr : Nat → FieldType := fun k => match k with
  | 0 => .int
  | 1 => .int
  | 2 => .boolean
  | 3 => .int
  | _ => .boolean
def T_De : u_T := fun k => match k with
  | 0 => ("MonitorQueues$Delay", "number", "I", true)
  | 1 => ("MonitorQueues$Delay", "code", "I", true)
  | _ => ("MonitorQueues$Delay", "until", "J", true)
def ty_De : Nat → FieldType := fun k => match k with
  | 0 => .int
  | 1 => .int
  | _ => .long
def T_AL : u_T := fun k => match k with
  | 0 => ("java/util/ArrayList", "elementData", "[Ljava/lang/Object;", false)
  | 1 => ("java/util/ArrayList", "size", "I", false)
  | _ => ("java/util/AbstractList", "modCount", "I", false)
def ty_AL : Nat → FieldType := fun k => match k with
  | 0 => .array (.object "java/lang/Object")
  | 1 => .int
  | _ => .int
def T_Mo : u_T := fun k => match k with
  | 0 => ("MonitorQueuesModel", "code", "I", false)
  | 1 => ("MonitorQueuesModel", "room", "I", true)
  | 2 => ("MonitorQueuesModel", "queueOf", "[I", true)
  | 3 => ("MonitorQueuesModel", "numberOf", "[I", true)
  | 4 => ("MonitorQueuesModel", "unitOf", "[I", true)
  | 5 => ("MonitorQueuesModel", "valueOf", "[J", true)
  | 6 => ("MonitorQueuesModel", "items", "I", false)
  | 7 => ("MonitorQueuesModel", "kind", "[I", true)
  | 8 => ("MonitorQueuesModel", "last", "[I", true)
  | 9 => ("MonitorQueuesModel", "least", "[I", true)
  | 10 => ("MonitorQueuesModel", "codes", "[I", true)
  | 11 => ("MonitorQueuesModel", "going", "[I", true)
  | 12 => ("MonitorQueuesModel", "takenNumber", "[I", true)
  | 13 => ("MonitorQueuesModel", "ready", "[Z", true)
  | 14 => ("MonitorQueuesModel", "took", "[Z", true)
  | 15 => ("MonitorQueuesModel", "used", "[J", true)
  | 16 => ("MonitorQueuesModel", "taken", "[J", true)
  | 17 => ("MonitorQueuesModel", "places", "[I", true)
  | 18 => ("MonitorQueuesModel", "tasks", "[I", true)
  | 19 => ("MonitorQueuesModel", "goes", "[Z", true)
  | 20 => ("MonitorQueuesModel", "begun", "I", false)
  | 21 => ("MonitorQueuesModel", "running", "I", false)
  | 22 => ("MonitorQueuesModel", "now", "J", false)
  | 23 => ("MonitorQueuesModel", "delayNumber", "[I", true)
  | 24 => ("MonitorQueuesModel", "delayCode", "[I", true)
  | 25 => ("MonitorQueuesModel", "delayTime", "[J", true)
  | 26 => ("MonitorQueuesModel", "delays", "I", false)
  | _ => ("MonitorQueuesModel", "delayed", "I", false)
def ty_Mo : Nat → FieldType := fun k => match k with
  | 0 => .int
  | 1 => .int
  | 2 => .array .int
  | 3 => .array .int
  | 4 => .array .int
  | 5 => .array .long
  | 6 => .int
  | 7 => .array .int
  | 8 => .array .int
  | 9 => .array .int
  | 10 => .array .int
  | 11 => .array .int
  | 12 => .array .int
  | 13 => .array .boolean
  | 14 => .array .boolean
  | 15 => .array .long
  | 16 => .array .long
  | 17 => .array .int
  | 18 => .array .int
  | 19 => .array .boolean
  | 20 => .int
  | 21 => .int
  | 22 => .long
  | 23 => .array .int
  | 24 => .array .int
  | 25 => .array .long
  | 26 => .int
  | _ => .int
abbrev vcl : List vw_C := [("MonitorQueues", T_MQ, 7), ("MonitorQueues$Queue", T_Qu, 10), ("MonitorQueues$Item", T_It, 1), ("MonitorQueues$Task", T_Ta, 2), ("MonitorQueues$Trigger", T_Tr, 5), ("MonitorQueues$Delay", T_De, 3), ("java/util/ArrayList", T_AL, 3), ("MonitorQueuesModel", T_Mo, 28)]
abbrev tlx : List FieldType := [.object "java/lang/Object", .int, .long, .boolean, .object "MonitorQueues$Queue"]
theorem zl_MQ : ZL T_MQ 7 ty_MQ := ⟨by decide +kernel, by decide +kernel⟩
theorem in_MQ : ∀ w ∈ u_ws "MonitorQueues" T_MQ 7, w ∈ GT := by
  intro w hw
  obtain ⟨k, hk, rfl⟩ := List.mem_map.mp hw
  have hk := List.mem_range.mp hk
  match k, hk with
  | 0, _ => exact gw_152
  | 1, _ => exact gw_154
  | 2, _ => exact gw_156
  | 3, _ => exact gw_158
  | 4, _ => exact gw_160
  | 5, _ => exact gw_162
  | 6, _ => exact gw_164
  | k + 7, h => exact absurd h (by omega)
theorem zl_Qu : ZL T_Qu 10 ty_Qu := ⟨by decide +kernel, by decide +kernel⟩
theorem in_Qu : ∀ w ∈ u_ws "MonitorQueues$Queue" T_Qu 10, w ∈ GT := by
  intro w hw
  obtain ⟨k, hk, rfl⟩ := List.mem_map.mp hw
  have hk := List.mem_range.mp hk
  match k, hk with
  | 0, _ => exact gw_121
  | 1, _ => exact gw_123
  | 2, _ => exact gw_125
  | 3, _ => exact gw_127
  | 4, _ => exact gw_129
  | 5, _ => exact gw_131
  | 6, _ => exact gw_133
  | 7, _ => exact gw_135
  | 8, _ => exact gw_137
  | 9, _ => exact gw_139
  | k + 10, h => exact absurd h (by omega)
theorem zl_It : ZL T_It 1 ty_It := ⟨by decide +kernel, by decide +kernel⟩
theorem in_It : ∀ w ∈ u_ws "MonitorQueues$Item" T_It 1, w ∈ GT := by
  intro w hw
  obtain ⟨k, hk, rfl⟩ := List.mem_map.mp hw
  have hk := List.mem_range.mp hk
  match k, hk with
  | 0, _ => exact gw_211
  | k + 1, h => exact absurd h (by omega)
theorem zl_Ta : ZL T_Ta 2 ty_Ta := ⟨by decide +kernel, by decide +kernel⟩
theorem in_Ta : ∀ w ∈ u_ws "MonitorQueues$Task" T_Ta 2, w ∈ GT := by
  intro w hw
  obtain ⟨k, hk, rfl⟩ := List.mem_map.mp hw
  have hk := List.mem_range.mp hk
  match k, hk with
  | 0, _ => exact gw_304
  | 1, _ => exact gw_306
  | k + 2, h => exact absurd h (by omega)
theorem zl_Tr : ZL T_Tr 5 ty_Tr := ⟨by decide +kernel, by decide +kernel⟩
theorem in_Tr : ∀ w ∈ u_ws "MonitorQueues$Trigger" T_Tr 5, w ∈ GT := by
  intro w hw
  obtain ⟨k, hk, rfl⟩ := List.mem_map.mp hw
  have hk := List.mem_range.mp hk
  match k, hk with
  | 0, _ => exact gw_389
  | 1, _ => exact gw_391
  | 2, _ => exact gw_393
  | 3, _ => exact gw_395
  | 4, _ => exact gw_397
  | k + 5, h => exact absurd h (by omega)
theorem zl_De : ZL T_De 3 ty_De := ⟨by decide +kernel, by decide +kernel⟩
theorem in_De : ∀ w ∈ u_ws "MonitorQueues$Delay" T_De 3, w ∈ GT := by
  intro w hw
  obtain ⟨k, hk, rfl⟩ := List.mem_map.mp hw
  have hk := List.mem_range.mp hk
  match k, hk with
  | 0, _ => exact gw_438
  | 1, _ => exact gw_440
  | 2, _ => exact gw_442
  | k + 3, h => exact absurd h (by omega)
theorem zl_AL : ZL T_AL 3 ty_AL := ⟨by decide +kernel, by decide +kernel⟩
theorem in_AL : ∀ w ∈ u_ws "java/util/ArrayList" T_AL 3, w ∈ GT := by
  intro w hw
  obtain ⟨k, hk, rfl⟩ := List.mem_map.mp hw
  have hk := List.mem_range.mp hk
  match k, hk with
  | 0, _ => exact gw_96
  | 1, _ => exact gw_98
  | 2, _ => exact gw_100
  | k + 3, h => exact absurd h (by omega)
theorem zl_Mo : ZL T_Mo 28 ty_Mo := ⟨by decide +kernel, by decide +kernel⟩
theorem in_Mo : ∀ w ∈ u_ws "MonitorQueuesModel" T_Mo 28, w ∈ GT := by
  intro w hw
  obtain ⟨k, hk, rfl⟩ := List.mem_map.mp hw
  have hk := List.mem_range.mp hk
  match k, hk with
  | 0, _ => exact gw_604
  | 1, _ => exact gw_606
  | 2, _ => exact gw_608
  | 3, _ => exact gw_610
  | 4, _ => exact gw_612
  | 5, _ => exact gw_614
  | 6, _ => exact gw_616
  | 7, _ => exact gw_618
  | 8, _ => exact gw_620
  | 9, _ => exact gw_622
  | 10, _ => exact gw_624
  | 11, _ => exact gw_626
  | 12, _ => exact gw_628
  | 13, _ => exact gw_630
  | 14, _ => exact gw_632
  | 15, _ => exact gw_634
  | 16, _ => exact gw_636
  | 17, _ => exact gw_638
  | 18, _ => exact gw_640
  | 19, _ => exact gw_642
  | 20, _ => exact gw_644
  | 21, _ => exact gw_646
  | 22, _ => exact gw_648
  | 23, _ => exact gw_650
  | 24, _ => exact gw_652
  | 25, _ => exact gw_654
  | 26, _ => exact gw_656
  | 27, _ => exact gw_658
  | k + 28, h => exact absurd h (by omega)
theorem zf_AL_9 : ZF vcl GT "java/util/ArrayList" 9 6 0 := ⟨_, T_AL, 3, "java/util/ArrayList", rfl, by decide, in_AL, gw_91, Or.inl rfl⟩
theorem zp_AL_9 : ZFp vcl GT "java/util/ArrayList" 9 6 0 false (.array (.object "java/lang/Object")) := ⟨_, T_AL, 3, "java/util/ArrayList", ty_AL, rfl, by decide, in_AL, gw_91, Or.inl rfl, zl_AL, rfl, rfl, fun _ => by simp_all⟩
theorem zf_AL_48 : ZF vcl GT "java/util/ArrayList" 48 6 1 := ⟨_, T_AL, 3, "java/util/ArrayList", rfl, by decide, in_AL, gw_92, Or.inl rfl⟩
theorem zp_AL_48 : ZFp vcl GT "java/util/ArrayList" 48 6 1 false (.int) := ⟨_, T_AL, 3, "java/util/ArrayList", ty_AL, rfl, by decide, in_AL, gw_92, Or.inl rfl, zl_AL, rfl, rfl, fun _ => by simp_all⟩
theorem zf_AB_7 : ZF vcl GT "java/util/AbstractList" 7 6 2 := ⟨_, T_AL, 3, "java/util/AbstractList", rfl, by decide, in_AL, gw_93, Or.inl rfl⟩
theorem zp_AB_7 : ZFp vcl GT "java/util/AbstractList" 7 6 2 false (.int) := ⟨_, T_AL, 3, "java/util/AbstractList", ty_AL, rfl, by decide, in_AL, gw_93, Or.inl rfl, zl_AL, rfl, rfl, fun _ => by simp_all⟩
theorem zf_AL_63 : ZF vcl GT "java/util/ArrayList" 63 6 2 := ⟨_, T_AL, 3, "java/util/ArrayList", rfl, by decide, in_AL, gw_94, Or.inr gw_95⟩
theorem zp_AL_63 : ZFp vcl GT "java/util/ArrayList" 63 6 2 false (.int) := ⟨_, T_AL, 3, "java/util/ArrayList", ty_AL, rfl, by decide, in_AL, gw_94, Or.inr gw_95, zl_AL, rfl, rfl, fun _ => by simp_all⟩
theorem zf_Qu_12 : ZF vcl GT "MonitorQueues$Queue" 12 1 0 := ⟨_, T_Qu, 10, "MonitorQueues$Queue", rfl, by decide, in_Qu, gw_103, Or.inl rfl⟩
theorem zp_Qu_12 : ZFp vcl GT "MonitorQueues$Queue" 12 1 0 true (.object "java/util/ArrayList") := ⟨_, T_Qu, 10, "MonitorQueues$Queue", ty_Qu, rfl, by decide, in_Qu, gw_103, Or.inl rfl, zl_Qu, rfl, rfl, fun _ => rfl⟩
theorem zf_MQ_87 : ZF vcl GT "MonitorQueues" 87 1 0 := ⟨_, T_Qu, 10, "MonitorQueues$Queue", rfl, by decide, in_Qu, gw_104, Or.inl rfl⟩
theorem zf_Qu_18 : ZF vcl GT "MonitorQueues$Queue" 18 1 1 := ⟨_, T_Qu, 10, "MonitorQueues$Queue", rfl, by decide, in_Qu, gw_105, Or.inl rfl⟩
theorem zp_Qu_18 : ZFp vcl GT "MonitorQueues$Queue" 18 1 1 true (.array .int) := ⟨_, T_Qu, 10, "MonitorQueues$Queue", ty_Qu, rfl, by decide, in_Qu, gw_105, Or.inl rfl, zl_Qu, rfl, rfl, fun _ => rfl⟩
theorem zf_MQ_110 : ZF vcl GT "MonitorQueues" 110 1 1 := ⟨_, T_Qu, 10, "MonitorQueues$Queue", rfl, by decide, in_Qu, gw_106, Or.inl rfl⟩
theorem zf_Qu_22 : ZF vcl GT "MonitorQueues$Queue" 22 1 2 := ⟨_, T_Qu, 10, "MonitorQueues$Queue", rfl, by decide, in_Qu, gw_107, Or.inl rfl⟩
theorem zp_Qu_22 : ZFp vcl GT "MonitorQueues$Queue" 22 1 2 false (.int) := ⟨_, T_Qu, 10, "MonitorQueues$Queue", ty_Qu, rfl, by decide, in_Qu, gw_107, Or.inl rfl, zl_Qu, rfl, rfl, fun _ => by simp_all⟩
theorem zf_MQ_185 : ZF vcl GT "MonitorQueues" 185 1 2 := ⟨_, T_Qu, 10, "MonitorQueues$Queue", rfl, by decide, in_Qu, gw_108, Or.inl rfl⟩
theorem zp_MQ_185 : ZFp vcl GT "MonitorQueues" 185 1 2 false (.int) := ⟨_, T_Qu, 10, "MonitorQueues$Queue", ty_Qu, rfl, by decide, in_Qu, gw_108, Or.inl rfl, zl_Qu, rfl, rfl, fun _ => by simp_all⟩
theorem zf_Qu_30 : ZF vcl GT "MonitorQueues$Queue" 30 1 3 := ⟨_, T_Qu, 10, "MonitorQueues$Queue", rfl, by decide, in_Qu, gw_109, Or.inl rfl⟩
theorem zp_Qu_30 : ZFp vcl GT "MonitorQueues$Queue" 30 1 3 false (.int) := ⟨_, T_Qu, 10, "MonitorQueues$Queue", ty_Qu, rfl, by decide, in_Qu, gw_109, Or.inl rfl, zl_Qu, rfl, rfl, fun _ => by simp_all⟩
theorem zf_MQ_50 : ZF vcl GT "MonitorQueues" 50 1 4 := ⟨_, T_Qu, 10, "MonitorQueues$Queue", rfl, by decide, in_Qu, gw_110, Or.inl rfl⟩
theorem zp_MQ_50 : ZFp vcl GT "MonitorQueues" 50 1 4 false (.int) := ⟨_, T_Qu, 10, "MonitorQueues$Queue", ty_Qu, rfl, by decide, in_Qu, gw_110, Or.inl rfl, zl_Qu, rfl, rfl, fun _ => by simp_all⟩
theorem zf_Qu_57 : ZF vcl GT "MonitorQueues$Queue" 57 1 4 := ⟨_, T_Qu, 10, "MonitorQueues$Queue", rfl, by decide, in_Qu, gw_111, Or.inl rfl⟩
theorem zp_Qu_57 : ZFp vcl GT "MonitorQueues$Queue" 57 1 4 false (.int) := ⟨_, T_Qu, 10, "MonitorQueues$Queue", ty_Qu, rfl, by decide, in_Qu, gw_111, Or.inl rfl, zl_Qu, rfl, rfl, fun _ => by simp_all⟩
theorem zf_Qu_41 : ZF vcl GT "MonitorQueues$Queue" 41 1 5 := ⟨_, T_Qu, 10, "MonitorQueues$Queue", rfl, by decide, in_Qu, gw_112, Or.inl rfl⟩
theorem zp_Qu_41 : ZFp vcl GT "MonitorQueues$Queue" 41 1 5 false (.long) := ⟨_, T_Qu, 10, "MonitorQueues$Queue", ty_Qu, rfl, by decide, in_Qu, gw_112, Or.inl rfl, zl_Qu, rfl, rfl, fun _ => by simp_all⟩
theorem zf_MQ_179 : ZF vcl GT "MonitorQueues" 179 1 5 := ⟨_, T_Qu, 10, "MonitorQueues$Queue", rfl, by decide, in_Qu, gw_113, Or.inl rfl⟩
theorem zp_MQ_179 : ZFp vcl GT "MonitorQueues" 179 1 5 false (.long) := ⟨_, T_Qu, 10, "MonitorQueues$Queue", ty_Qu, rfl, by decide, in_Qu, gw_113, Or.inl rfl, zl_Qu, rfl, rfl, fun _ => by simp_all⟩
theorem zf_Qu_64 : ZF vcl GT "MonitorQueues$Queue" 64 1 6 := ⟨_, T_Qu, 10, "MonitorQueues$Queue", rfl, by decide, in_Qu, gw_114, Or.inl rfl⟩
theorem zp_Qu_64 : ZFp vcl GT "MonitorQueues$Queue" 64 1 6 false (.int) := ⟨_, T_Qu, 10, "MonitorQueues$Queue", ty_Qu, rfl, by decide, in_Qu, gw_114, Or.inl rfl, zl_Qu, rfl, rfl, fun _ => by simp_all⟩
theorem zf_MQ_99 : ZF vcl GT "MonitorQueues" 99 1 7 := ⟨_, T_Qu, 10, "MonitorQueues$Queue", rfl, by decide, in_Qu, gw_115, Or.inl rfl⟩
theorem zp_MQ_99 : ZFp vcl GT "MonitorQueues" 99 1 7 false (.int) := ⟨_, T_Qu, 10, "MonitorQueues$Queue", ty_Qu, rfl, by decide, in_Qu, gw_115, Or.inl rfl, zl_Qu, rfl, rfl, fun _ => by simp_all⟩
theorem zf_Qu_70 : ZF vcl GT "MonitorQueues$Queue" 70 1 7 := ⟨_, T_Qu, 10, "MonitorQueues$Queue", rfl, by decide, in_Qu, gw_116, Or.inl rfl⟩
theorem zp_Qu_70 : ZFp vcl GT "MonitorQueues$Queue" 70 1 7 false (.int) := ⟨_, T_Qu, 10, "MonitorQueues$Queue", ty_Qu, rfl, by decide, in_Qu, gw_116, Or.inl rfl, zl_Qu, rfl, rfl, fun _ => by simp_all⟩
theorem zf_MQ_104 : ZF vcl GT "MonitorQueues" 104 1 8 := ⟨_, T_Qu, 10, "MonitorQueues$Queue", rfl, by decide, in_Qu, gw_117, Or.inl rfl⟩
theorem zp_MQ_104 : ZFp vcl GT "MonitorQueues" 104 1 8 false (.long) := ⟨_, T_Qu, 10, "MonitorQueues$Queue", ty_Qu, rfl, by decide, in_Qu, gw_117, Or.inl rfl, zl_Qu, rfl, rfl, fun _ => by simp_all⟩
theorem zf_Qu_80 : ZF vcl GT "MonitorQueues$Queue" 80 1 8 := ⟨_, T_Qu, 10, "MonitorQueues$Queue", rfl, by decide, in_Qu, gw_118, Or.inl rfl⟩
theorem zp_Qu_80 : ZFp vcl GT "MonitorQueues$Queue" 80 1 8 false (.long) := ⟨_, T_Qu, 10, "MonitorQueues$Queue", ty_Qu, rfl, by decide, in_Qu, gw_118, Or.inl rfl, zl_Qu, rfl, rfl, fun _ => by simp_all⟩
theorem zf_MQ_128 : ZF vcl GT "MonitorQueues" 128 1 9 := ⟨_, T_Qu, 10, "MonitorQueues$Queue", rfl, by decide, in_Qu, gw_119, Or.inl rfl⟩
theorem zp_MQ_128 : ZFp vcl GT "MonitorQueues" 128 1 9 false (.object "MonitorQueues$Trigger") := ⟨_, T_Qu, 10, "MonitorQueues$Queue", ty_Qu, rfl, by decide, in_Qu, gw_119, Or.inl rfl, zl_Qu, rfl, rfl, fun _ => by simp_all⟩
theorem zf_Qu_37 : ZF vcl GT "MonitorQueues$Queue" 37 1 9 := ⟨_, T_Qu, 10, "MonitorQueues$Queue", rfl, by decide, in_Qu, gw_120, Or.inl rfl⟩
theorem zp_Qu_37 : ZFp vcl GT "MonitorQueues$Queue" 37 1 9 false (.object "MonitorQueues$Trigger") := ⟨_, T_Qu, 10, "MonitorQueues$Queue", ty_Qu, rfl, by decide, in_Qu, gw_120, Or.inl rfl, zl_Qu, rfl, rfl, fun _ => by simp_all⟩
theorem zf_MQ_18 : ZF vcl GT "MonitorQueues" 18 0 0 := ⟨_, T_MQ, 7, "MonitorQueues", rfl, by decide, in_MQ, gw_145, Or.inl rfl⟩
theorem zp_MQ_18 : ZFp vcl GT "MonitorQueues" 18 0 0 true (.int) := ⟨_, T_MQ, 7, "MonitorQueues", ty_MQ, rfl, by decide, in_MQ, gw_145, Or.inl rfl, zl_MQ, rfl, rfl, fun _ => rfl⟩
theorem zf_MQ_24 : ZF vcl GT "MonitorQueues" 24 0 1 := ⟨_, T_MQ, 7, "MonitorQueues", rfl, by decide, in_MQ, gw_146, Or.inl rfl⟩
theorem zp_MQ_24 : ZFp vcl GT "MonitorQueues" 24 0 1 true (.array (.object "MonitorQueues$Queue")) := ⟨_, T_MQ, 7, "MonitorQueues", ty_MQ, rfl, by decide, in_MQ, gw_146, Or.inl rfl, zl_MQ, rfl, rfl, fun _ => rfl⟩
theorem zf_MQ_32 : ZF vcl GT "MonitorQueues" 32 0 2 := ⟨_, T_MQ, 7, "MonitorQueues", rfl, by decide, in_MQ, gw_147, Or.inl rfl⟩
theorem zp_MQ_32 : ZFp vcl GT "MonitorQueues" 32 0 2 true (.object "java/util/ArrayList") := ⟨_, T_MQ, 7, "MonitorQueues", ty_MQ, rfl, by decide, in_MQ, gw_147, Or.inl rfl, zl_MQ, rfl, rfl, fun _ => rfl⟩
theorem zf_MQ_36 : ZF vcl GT "MonitorQueues" 36 0 3 := ⟨_, T_MQ, 7, "MonitorQueues", rfl, by decide, in_MQ, gw_148, Or.inl rfl⟩
theorem zp_MQ_36 : ZFp vcl GT "MonitorQueues" 36 0 3 true (.object "java/util/ArrayList") := ⟨_, T_MQ, 7, "MonitorQueues", ty_MQ, rfl, by decide, in_MQ, gw_148, Or.inl rfl, zl_MQ, rfl, rfl, fun _ => rfl⟩
theorem zf_MQ_144 : ZF vcl GT "MonitorQueues" 144 0 4 := ⟨_, T_MQ, 7, "MonitorQueues", rfl, by decide, in_MQ, gw_149, Or.inl rfl⟩
theorem zp_MQ_144 : ZFp vcl GT "MonitorQueues" 144 0 4 false (.int) := ⟨_, T_MQ, 7, "MonitorQueues", ty_MQ, rfl, by decide, in_MQ, gw_149, Or.inl rfl, zl_MQ, rfl, rfl, fun _ => by simp_all⟩
theorem zf_MQ_154 : ZF vcl GT "MonitorQueues" 154 0 5 := ⟨_, T_MQ, 7, "MonitorQueues", rfl, by decide, in_MQ, gw_150, Or.inl rfl⟩
theorem zp_MQ_154 : ZFp vcl GT "MonitorQueues" 154 0 5 false (.int) := ⟨_, T_MQ, 7, "MonitorQueues", ty_MQ, rfl, by decide, in_MQ, gw_150, Or.inl rfl, zl_MQ, rfl, rfl, fun _ => by simp_all⟩
theorem zf_MQ_57 : ZF vcl GT "MonitorQueues" 57 0 6 := ⟨_, T_MQ, 7, "MonitorQueues", rfl, by decide, in_MQ, gw_151, Or.inl rfl⟩
theorem zp_MQ_57 : ZFp vcl GT "MonitorQueues" 57 0 6 false (.long) := ⟨_, T_MQ, 7, "MonitorQueues", ty_MQ, rfl, by decide, in_MQ, gw_151, Or.inl rfl, zl_MQ, rfl, rfl, fun _ => by simp_all⟩
theorem zf_It_7 : ZF vcl GT "MonitorQueues$Item" 7 2 0 := ⟨_, T_It, 1, "MonitorQueues$Item", rfl, by decide, in_It, gw_208, Or.inl rfl⟩
theorem zp_It_7 : ZFp vcl GT "MonitorQueues$Item" 7 2 0 false (.long) := ⟨_, T_It, 1, "MonitorQueues$Item", ty_It, rfl, by decide, in_It, gw_208, Or.inl rfl, zl_It, rfl, rfl, fun _ => by simp_all⟩
theorem zf_MQ_96 : ZF vcl GT "MonitorQueues" 96 2 0 := ⟨_, T_It, 1, "MonitorQueues$Item", rfl, by decide, in_It, gw_209, Or.inl rfl⟩
theorem zp_MQ_96 : ZFp vcl GT "MonitorQueues" 96 2 0 false (.long) := ⟨_, T_It, 1, "MonitorQueues$Item", ty_It, rfl, by decide, in_It, gw_209, Or.inl rfl, zl_It, rfl, rfl, fun _ => by simp_all⟩
theorem zf_Qu_77 : ZF vcl GT "MonitorQueues$Queue" 77 2 0 := ⟨_, T_It, 1, "MonitorQueues$Item", rfl, by decide, in_It, gw_210, Or.inl rfl⟩
theorem zp_Qu_77 : ZFp vcl GT "MonitorQueues$Queue" 77 2 0 false (.long) := ⟨_, T_It, 1, "MonitorQueues$Item", ty_It, rfl, by decide, in_It, gw_210, Or.inl rfl, zl_It, rfl, rfl, fun _ => by simp_all⟩
theorem zf_Ta_7 : ZF vcl GT "MonitorQueues$Task" 7 3 0 := ⟨_, T_Ta, 2, "MonitorQueues$Task", rfl, by decide, in_Ta, gw_300, Or.inl rfl⟩
theorem zp_Ta_7 : ZFp vcl GT "MonitorQueues$Task" 7 3 0 true (.int) := ⟨_, T_Ta, 2, "MonitorQueues$Task", ty_Ta, rfl, by decide, in_Ta, gw_300, Or.inl rfl, zl_Ta, rfl, rfl, fun _ => rfl⟩
theorem zf_MQ_137 : ZF vcl GT "MonitorQueues" 137 3 0 := ⟨_, T_Ta, 2, "MonitorQueues$Task", rfl, by decide, in_Ta, gw_301, Or.inl rfl⟩
theorem zf_Ta_13 : ZF vcl GT "MonitorQueues$Task" 13 3 1 := ⟨_, T_Ta, 2, "MonitorQueues$Task", rfl, by decide, in_Ta, gw_302, Or.inl rfl⟩
theorem zp_Ta_13 : ZFp vcl GT "MonitorQueues$Task" 13 3 1 false (.boolean) := ⟨_, T_Ta, 2, "MonitorQueues$Task", ty_Ta, rfl, by decide, in_Ta, gw_302, Or.inl rfl, zl_Ta, rfl, rfl, fun _ => by simp_all⟩
theorem zf_MQ_140 : ZF vcl GT "MonitorQueues" 140 3 1 := ⟨_, T_Ta, 2, "MonitorQueues$Task", rfl, by decide, in_Ta, gw_303, Or.inl rfl⟩
theorem zp_MQ_140 : ZFp vcl GT "MonitorQueues" 140 3 1 false (.boolean) := ⟨_, T_Ta, 2, "MonitorQueues$Task", ty_Ta, rfl, by decide, in_Ta, gw_303, Or.inl rfl, zl_Ta, rfl, rfl, fun _ => by simp_all⟩
theorem zf_Tr_7 : ZF vcl GT "MonitorQueues$Trigger" 7 4 0 := ⟨_, T_Tr, 5, "MonitorQueues$Trigger", rfl, by decide, in_Tr, gw_380, Or.inl rfl⟩
theorem zp_Tr_7 : ZFp vcl GT "MonitorQueues$Trigger" 7 4 0 true (.int) := ⟨_, T_Tr, 5, "MonitorQueues$Trigger", ty_Tr, rfl, by decide, in_Tr, gw_380, Or.inl rfl, zl_Tr, rfl, rfl, fun _ => rfl⟩
theorem zf_MQ_209 : ZF vcl GT "MonitorQueues" 209 4 0 := ⟨_, T_Tr, 5, "MonitorQueues$Trigger", rfl, by decide, in_Tr, gw_381, Or.inl rfl⟩
theorem zf_Tr_13 : ZF vcl GT "MonitorQueues$Trigger" 13 4 1 := ⟨_, T_Tr, 5, "MonitorQueues$Trigger", rfl, by decide, in_Tr, gw_382, Or.inl rfl⟩
theorem zp_Tr_13 : ZFp vcl GT "MonitorQueues$Trigger" 13 4 1 true (.int) := ⟨_, T_Tr, 5, "MonitorQueues$Trigger", ty_Tr, rfl, by decide, in_Tr, gw_382, Or.inl rfl, zl_Tr, rfl, rfl, fun _ => rfl⟩
theorem zf_MQ_195 : ZF vcl GT "MonitorQueues" 195 4 1 := ⟨_, T_Tr, 5, "MonitorQueues$Trigger", rfl, by decide, in_Tr, gw_383, Or.inl rfl⟩
theorem zf_Tr_16 : ZF vcl GT "MonitorQueues$Trigger" 16 4 2 := ⟨_, T_Tr, 5, "MonitorQueues$Trigger", rfl, by decide, in_Tr, gw_384, Or.inl rfl⟩
theorem zp_Tr_16 : ZFp vcl GT "MonitorQueues$Trigger" 16 4 2 false (.boolean) := ⟨_, T_Tr, 5, "MonitorQueues$Trigger", ty_Tr, rfl, by decide, in_Tr, gw_384, Or.inl rfl, zl_Tr, rfl, rfl, fun _ => by simp_all⟩
theorem zf_MQ_212 : ZF vcl GT "MonitorQueues" 212 4 2 := ⟨_, T_Tr, 5, "MonitorQueues$Trigger", rfl, by decide, in_Tr, gw_385, Or.inl rfl⟩
theorem zp_MQ_212 : ZFp vcl GT "MonitorQueues" 212 4 2 false (.boolean) := ⟨_, T_Tr, 5, "MonitorQueues$Trigger", ty_Tr, rfl, by decide, in_Tr, gw_385, Or.inl rfl, zl_Tr, rfl, rfl, fun _ => by simp_all⟩
theorem zf_MQ_199 : ZF vcl GT "MonitorQueues" 199 4 3 := ⟨_, T_Tr, 5, "MonitorQueues$Trigger", rfl, by decide, in_Tr, gw_386, Or.inl rfl⟩
theorem zp_MQ_199 : ZFp vcl GT "MonitorQueues" 199 4 3 false (.int) := ⟨_, T_Tr, 5, "MonitorQueues$Trigger", ty_Tr, rfl, by decide, in_Tr, gw_386, Or.inl rfl, zl_Tr, rfl, rfl, fun _ => by simp_all⟩
theorem zf_Qu_86 : ZF vcl GT "MonitorQueues$Queue" 86 4 4 := ⟨_, T_Tr, 5, "MonitorQueues$Trigger", rfl, by decide, in_Tr, gw_387, Or.inl rfl⟩
theorem zp_Qu_86 : ZFp vcl GT "MonitorQueues$Queue" 86 4 4 false (.boolean) := ⟨_, T_Tr, 5, "MonitorQueues$Trigger", ty_Tr, rfl, by decide, in_Tr, gw_387, Or.inl rfl, zl_Tr, rfl, rfl, fun _ => by simp_all⟩
theorem zf_MQ_202 : ZF vcl GT "MonitorQueues" 202 4 4 := ⟨_, T_Tr, 5, "MonitorQueues$Trigger", rfl, by decide, in_Tr, gw_388, Or.inl rfl⟩
theorem zp_MQ_202 : ZFp vcl GT "MonitorQueues" 202 4 4 false (.boolean) := ⟨_, T_Tr, 5, "MonitorQueues$Trigger", ty_Tr, rfl, by decide, in_Tr, gw_388, Or.inl rfl, zl_Tr, rfl, rfl, fun _ => by simp_all⟩
theorem zf_De_7 : ZF vcl GT "MonitorQueues$Delay" 7 5 0 := ⟨_, T_De, 3, "MonitorQueues$Delay", rfl, by decide, in_De, gw_432, Or.inl rfl⟩
theorem zp_De_7 : ZFp vcl GT "MonitorQueues$Delay" 7 5 0 true (.int) := ⟨_, T_De, 3, "MonitorQueues$Delay", ty_De, rfl, by decide, in_De, gw_432, Or.inl rfl, zl_De, rfl, rfl, fun _ => rfl⟩
theorem zf_MQ_169 : ZF vcl GT "MonitorQueues" 169 5 0 := ⟨_, T_De, 3, "MonitorQueues$Delay", rfl, by decide, in_De, gw_433, Or.inl rfl⟩
theorem zf_De_13 : ZF vcl GT "MonitorQueues$Delay" 13 5 1 := ⟨_, T_De, 3, "MonitorQueues$Delay", rfl, by decide, in_De, gw_434, Or.inl rfl⟩
theorem zp_De_13 : ZFp vcl GT "MonitorQueues$Delay" 13 5 1 true (.int) := ⟨_, T_De, 3, "MonitorQueues$Delay", ty_De, rfl, by decide, in_De, gw_434, Or.inl rfl, zl_De, rfl, rfl, fun _ => rfl⟩
theorem zf_MQ_225 : ZF vcl GT "MonitorQueues" 225 5 1 := ⟨_, T_De, 3, "MonitorQueues$Delay", rfl, by decide, in_De, gw_435, Or.inl rfl⟩
theorem zf_De_16 : ZF vcl GT "MonitorQueues$Delay" 16 5 2 := ⟨_, T_De, 3, "MonitorQueues$Delay", rfl, by decide, in_De, gw_436, Or.inl rfl⟩
theorem zp_De_16 : ZFp vcl GT "MonitorQueues$Delay" 16 5 2 true (.long) := ⟨_, T_De, 3, "MonitorQueues$Delay", ty_De, rfl, by decide, in_De, gw_436, Or.inl rfl, zl_De, rfl, rfl, fun _ => rfl⟩
theorem zf_MQ_219 : ZF vcl GT "MonitorQueues" 219 5 2 := ⟨_, T_De, 3, "MonitorQueues$Delay", rfl, by decide, in_De, gw_437, Or.inl rfl⟩
theorem zf_Mo_76 : ZF vcl GT "MonitorQueuesModel" 76 7 0 := ⟨_, T_Mo, 28, "MonitorQueuesModel", rfl, by decide, in_Mo, gw_576, Or.inl rfl⟩
theorem zp_Mo_76 : ZFp vcl GT "MonitorQueuesModel" 76 7 0 false (.int) := ⟨_, T_Mo, 28, "MonitorQueuesModel", ty_Mo, rfl, by decide, in_Mo, gw_576, Or.inl rfl, zl_Mo, rfl, rfl, fun _ => by simp_all⟩
theorem zf_Mo_72 : ZF vcl GT "MonitorQueuesModel" 72 7 1 := ⟨_, T_Mo, 28, "MonitorQueuesModel", rfl, by decide, in_Mo, gw_577, Or.inl rfl⟩
theorem zp_Mo_72 : ZFp vcl GT "MonitorQueuesModel" 72 7 1 true (.int) := ⟨_, T_Mo, 28, "MonitorQueuesModel", ty_Mo, rfl, by decide, in_Mo, gw_577, Or.inl rfl, zl_Mo, rfl, rfl, fun _ => rfl⟩
theorem zf_Mo_7 : ZF vcl GT "MonitorQueuesModel" 7 7 2 := ⟨_, T_Mo, 28, "MonitorQueuesModel", rfl, by decide, in_Mo, gw_578, Or.inl rfl⟩
theorem zp_Mo_7 : ZFp vcl GT "MonitorQueuesModel" 7 7 2 true (.array .int) := ⟨_, T_Mo, 28, "MonitorQueuesModel", ty_Mo, rfl, by decide, in_Mo, gw_578, Or.inl rfl, zl_Mo, rfl, rfl, fun _ => rfl⟩
theorem zf_Mo_13 : ZF vcl GT "MonitorQueuesModel" 13 7 3 := ⟨_, T_Mo, 28, "MonitorQueuesModel", rfl, by decide, in_Mo, gw_579, Or.inl rfl⟩
theorem zp_Mo_13 : ZFp vcl GT "MonitorQueuesModel" 13 7 3 true (.array .int) := ⟨_, T_Mo, 28, "MonitorQueuesModel", ty_Mo, rfl, by decide, in_Mo, gw_579, Or.inl rfl, zl_Mo, rfl, rfl, fun _ => rfl⟩
theorem zf_Mo_16 : ZF vcl GT "MonitorQueuesModel" 16 7 4 := ⟨_, T_Mo, 28, "MonitorQueuesModel", rfl, by decide, in_Mo, gw_580, Or.inl rfl⟩
theorem zp_Mo_16 : ZFp vcl GT "MonitorQueuesModel" 16 7 4 true (.array .int) := ⟨_, T_Mo, 28, "MonitorQueuesModel", ty_Mo, rfl, by decide, in_Mo, gw_580, Or.inl rfl, zl_Mo, rfl, rfl, fun _ => rfl⟩
theorem zf_Mo_19 : ZF vcl GT "MonitorQueuesModel" 19 7 5 := ⟨_, T_Mo, 28, "MonitorQueuesModel", rfl, by decide, in_Mo, gw_581, Or.inl rfl⟩
theorem zp_Mo_19 : ZFp vcl GT "MonitorQueuesModel" 19 7 5 true (.array .long) := ⟨_, T_Mo, 28, "MonitorQueuesModel", ty_Mo, rfl, by decide, in_Mo, gw_581, Or.inl rfl, zl_Mo, rfl, rfl, fun _ => rfl⟩
theorem zf_Mo_79 : ZF vcl GT "MonitorQueuesModel" 79 7 6 := ⟨_, T_Mo, 28, "MonitorQueuesModel", rfl, by decide, in_Mo, gw_582, Or.inl rfl⟩
theorem zp_Mo_79 : ZFp vcl GT "MonitorQueuesModel" 79 7 6 false (.int) := ⟨_, T_Mo, 28, "MonitorQueuesModel", ty_Mo, rfl, by decide, in_Mo, gw_582, Or.inl rfl, zl_Mo, rfl, rfl, fun _ => by simp_all⟩
theorem zf_Mo_23 : ZF vcl GT "MonitorQueuesModel" 23 7 7 := ⟨_, T_Mo, 28, "MonitorQueuesModel", rfl, by decide, in_Mo, gw_583, Or.inl rfl⟩
theorem zp_Mo_23 : ZFp vcl GT "MonitorQueuesModel" 23 7 7 true (.array .int) := ⟨_, T_Mo, 28, "MonitorQueuesModel", ty_Mo, rfl, by decide, in_Mo, gw_583, Or.inl rfl, zl_Mo, rfl, rfl, fun _ => rfl⟩
theorem zf_Mo_26 : ZF vcl GT "MonitorQueuesModel" 26 7 8 := ⟨_, T_Mo, 28, "MonitorQueuesModel", rfl, by decide, in_Mo, gw_584, Or.inl rfl⟩
theorem zp_Mo_26 : ZFp vcl GT "MonitorQueuesModel" 26 7 8 true (.array .int) := ⟨_, T_Mo, 28, "MonitorQueuesModel", ty_Mo, rfl, by decide, in_Mo, gw_584, Or.inl rfl, zl_Mo, rfl, rfl, fun _ => rfl⟩
theorem zf_Mo_29 : ZF vcl GT "MonitorQueuesModel" 29 7 9 := ⟨_, T_Mo, 28, "MonitorQueuesModel", rfl, by decide, in_Mo, gw_585, Or.inl rfl⟩
theorem zp_Mo_29 : ZFp vcl GT "MonitorQueuesModel" 29 7 9 true (.array .int) := ⟨_, T_Mo, 28, "MonitorQueuesModel", ty_Mo, rfl, by decide, in_Mo, gw_585, Or.inl rfl, zl_Mo, rfl, rfl, fun _ => rfl⟩
theorem zf_Mo_32 : ZF vcl GT "MonitorQueuesModel" 32 7 10 := ⟨_, T_Mo, 28, "MonitorQueuesModel", rfl, by decide, in_Mo, gw_586, Or.inl rfl⟩
theorem zp_Mo_32 : ZFp vcl GT "MonitorQueuesModel" 32 7 10 true (.array .int) := ⟨_, T_Mo, 28, "MonitorQueuesModel", ty_Mo, rfl, by decide, in_Mo, gw_586, Or.inl rfl, zl_Mo, rfl, rfl, fun _ => rfl⟩
theorem zf_Mo_35 : ZF vcl GT "MonitorQueuesModel" 35 7 11 := ⟨_, T_Mo, 28, "MonitorQueuesModel", rfl, by decide, in_Mo, gw_587, Or.inl rfl⟩
theorem zp_Mo_35 : ZFp vcl GT "MonitorQueuesModel" 35 7 11 true (.array .int) := ⟨_, T_Mo, 28, "MonitorQueuesModel", ty_Mo, rfl, by decide, in_Mo, gw_587, Or.inl rfl, zl_Mo, rfl, rfl, fun _ => rfl⟩
theorem zf_Mo_38 : ZF vcl GT "MonitorQueuesModel" 38 7 12 := ⟨_, T_Mo, 28, "MonitorQueuesModel", rfl, by decide, in_Mo, gw_588, Or.inl rfl⟩
theorem zp_Mo_38 : ZFp vcl GT "MonitorQueuesModel" 38 7 12 true (.array .int) := ⟨_, T_Mo, 28, "MonitorQueuesModel", ty_Mo, rfl, by decide, in_Mo, gw_588, Or.inl rfl, zl_Mo, rfl, rfl, fun _ => rfl⟩
theorem zf_Mo_41 : ZF vcl GT "MonitorQueuesModel" 41 7 13 := ⟨_, T_Mo, 28, "MonitorQueuesModel", rfl, by decide, in_Mo, gw_589, Or.inl rfl⟩
theorem zp_Mo_41 : ZFp vcl GT "MonitorQueuesModel" 41 7 13 true (.array .boolean) := ⟨_, T_Mo, 28, "MonitorQueuesModel", ty_Mo, rfl, by decide, in_Mo, gw_589, Or.inl rfl, zl_Mo, rfl, rfl, fun _ => rfl⟩
theorem zf_Mo_45 : ZF vcl GT "MonitorQueuesModel" 45 7 14 := ⟨_, T_Mo, 28, "MonitorQueuesModel", rfl, by decide, in_Mo, gw_590, Or.inl rfl⟩
theorem zp_Mo_45 : ZFp vcl GT "MonitorQueuesModel" 45 7 14 true (.array .boolean) := ⟨_, T_Mo, 28, "MonitorQueuesModel", ty_Mo, rfl, by decide, in_Mo, gw_590, Or.inl rfl, zl_Mo, rfl, rfl, fun _ => rfl⟩
theorem zf_Mo_48 : ZF vcl GT "MonitorQueuesModel" 48 7 15 := ⟨_, T_Mo, 28, "MonitorQueuesModel", rfl, by decide, in_Mo, gw_591, Or.inl rfl⟩
theorem zp_Mo_48 : ZFp vcl GT "MonitorQueuesModel" 48 7 15 true (.array .long) := ⟨_, T_Mo, 28, "MonitorQueuesModel", ty_Mo, rfl, by decide, in_Mo, gw_591, Or.inl rfl, zl_Mo, rfl, rfl, fun _ => rfl⟩
theorem zf_Mo_51 : ZF vcl GT "MonitorQueuesModel" 51 7 16 := ⟨_, T_Mo, 28, "MonitorQueuesModel", rfl, by decide, in_Mo, gw_592, Or.inl rfl⟩
theorem zp_Mo_51 : ZFp vcl GT "MonitorQueuesModel" 51 7 16 true (.array .long) := ⟨_, T_Mo, 28, "MonitorQueuesModel", ty_Mo, rfl, by decide, in_Mo, gw_592, Or.inl rfl, zl_Mo, rfl, rfl, fun _ => rfl⟩
theorem zf_Mo_54 : ZF vcl GT "MonitorQueuesModel" 54 7 17 := ⟨_, T_Mo, 28, "MonitorQueuesModel", rfl, by decide, in_Mo, gw_593, Or.inl rfl⟩
theorem zp_Mo_54 : ZFp vcl GT "MonitorQueuesModel" 54 7 17 true (.array .int) := ⟨_, T_Mo, 28, "MonitorQueuesModel", ty_Mo, rfl, by decide, in_Mo, gw_593, Or.inl rfl, zl_Mo, rfl, rfl, fun _ => rfl⟩
theorem zf_Mo_57 : ZF vcl GT "MonitorQueuesModel" 57 7 18 := ⟨_, T_Mo, 28, "MonitorQueuesModel", rfl, by decide, in_Mo, gw_594, Or.inl rfl⟩
theorem zp_Mo_57 : ZFp vcl GT "MonitorQueuesModel" 57 7 18 true (.array .int) := ⟨_, T_Mo, 28, "MonitorQueuesModel", ty_Mo, rfl, by decide, in_Mo, gw_594, Or.inl rfl, zl_Mo, rfl, rfl, fun _ => rfl⟩
theorem zf_Mo_60 : ZF vcl GT "MonitorQueuesModel" 60 7 19 := ⟨_, T_Mo, 28, "MonitorQueuesModel", rfl, by decide, in_Mo, gw_595, Or.inl rfl⟩
theorem zp_Mo_60 : ZFp vcl GT "MonitorQueuesModel" 60 7 19 true (.array .boolean) := ⟨_, T_Mo, 28, "MonitorQueuesModel", ty_Mo, rfl, by decide, in_Mo, gw_595, Or.inl rfl, zl_Mo, rfl, rfl, fun _ => rfl⟩
theorem zf_Mo_90 : ZF vcl GT "MonitorQueuesModel" 90 7 20 := ⟨_, T_Mo, 28, "MonitorQueuesModel", rfl, by decide, in_Mo, gw_596, Or.inl rfl⟩
theorem zp_Mo_90 : ZFp vcl GT "MonitorQueuesModel" 90 7 20 false (.int) := ⟨_, T_Mo, 28, "MonitorQueuesModel", ty_Mo, rfl, by decide, in_Mo, gw_596, Or.inl rfl, zl_Mo, rfl, rfl, fun _ => by simp_all⟩
theorem zf_Mo_93 : ZF vcl GT "MonitorQueuesModel" 93 7 21 := ⟨_, T_Mo, 28, "MonitorQueuesModel", rfl, by decide, in_Mo, gw_597, Or.inl rfl⟩
theorem zp_Mo_93 : ZFp vcl GT "MonitorQueuesModel" 93 7 21 false (.int) := ⟨_, T_Mo, 28, "MonitorQueuesModel", ty_Mo, rfl, by decide, in_Mo, gw_597, Or.inl rfl, zl_Mo, rfl, rfl, fun _ => by simp_all⟩
theorem zf_Mo_112 : ZF vcl GT "MonitorQueuesModel" 112 7 22 := ⟨_, T_Mo, 28, "MonitorQueuesModel", rfl, by decide, in_Mo, gw_598, Or.inl rfl⟩
theorem zp_Mo_112 : ZFp vcl GT "MonitorQueuesModel" 112 7 22 false (.long) := ⟨_, T_Mo, 28, "MonitorQueuesModel", ty_Mo, rfl, by decide, in_Mo, gw_598, Or.inl rfl, zl_Mo, rfl, rfl, fun _ => by simp_all⟩
theorem zf_Mo_63 : ZF vcl GT "MonitorQueuesModel" 63 7 23 := ⟨_, T_Mo, 28, "MonitorQueuesModel", rfl, by decide, in_Mo, gw_599, Or.inl rfl⟩
theorem zp_Mo_63 : ZFp vcl GT "MonitorQueuesModel" 63 7 23 true (.array .int) := ⟨_, T_Mo, 28, "MonitorQueuesModel", ty_Mo, rfl, by decide, in_Mo, gw_599, Or.inl rfl, zl_Mo, rfl, rfl, fun _ => rfl⟩
theorem zf_Mo_66 : ZF vcl GT "MonitorQueuesModel" 66 7 24 := ⟨_, T_Mo, 28, "MonitorQueuesModel", rfl, by decide, in_Mo, gw_600, Or.inl rfl⟩
theorem zp_Mo_66 : ZFp vcl GT "MonitorQueuesModel" 66 7 24 true (.array .int) := ⟨_, T_Mo, 28, "MonitorQueuesModel", ty_Mo, rfl, by decide, in_Mo, gw_600, Or.inl rfl, zl_Mo, rfl, rfl, fun _ => rfl⟩
theorem zf_Mo_69 : ZF vcl GT "MonitorQueuesModel" 69 7 25 := ⟨_, T_Mo, 28, "MonitorQueuesModel", rfl, by decide, in_Mo, gw_601, Or.inl rfl⟩
theorem zp_Mo_69 : ZFp vcl GT "MonitorQueuesModel" 69 7 25 true (.array .long) := ⟨_, T_Mo, 28, "MonitorQueuesModel", ty_Mo, rfl, by decide, in_Mo, gw_601, Or.inl rfl, zl_Mo, rfl, rfl, fun _ => rfl⟩
theorem zf_Mo_153 : ZF vcl GT "MonitorQueuesModel" 153 7 26 := ⟨_, T_Mo, 28, "MonitorQueuesModel", rfl, by decide, in_Mo, gw_602, Or.inl rfl⟩
theorem zp_Mo_153 : ZFp vcl GT "MonitorQueuesModel" 153 7 26 false (.int) := ⟨_, T_Mo, 28, "MonitorQueuesModel", ty_Mo, rfl, by decide, in_Mo, gw_602, Or.inl rfl, zl_Mo, rfl, rfl, fun _ => by simp_all⟩
theorem zf_Mo_156 : ZF vcl GT "MonitorQueuesModel" 156 7 27 := ⟨_, T_Mo, 28, "MonitorQueuesModel", rfl, by decide, in_Mo, gw_603, Or.inl rfl⟩
theorem zp_Mo_156 : ZFp vcl GT "MonitorQueuesModel" 156 7 27 false (.int) := ⟨_, T_Mo, 28, "MonitorQueuesModel", ty_Mo, rfl, by decide, in_Mo, gw_603, Or.inl rfl, zl_Mo, rfl, rfl, fun _ => by simp_all⟩
theorem zi_La_21 : ZI GT "MonitorQueuesLaw" 21 y_MQ_init b_MQ_init 3 1 := ⟨gw_58, gw_59, gw_36, gw_60, rfl, by decide +kernel, by decide +kernel, by decide +kernel⟩
theorem zs_MQ_9 : ZS GT "MonitorQueues" 9 y_Ma_min b_Ma_min 2 (Option.some FieldType.int) 2 := ⟨gw_64, gw_65, gw_37, gw_66, by decide +kernel, by decide +kernel, by decide +kernel⟩
theorem zs_MQ_15 : ZS GT "MonitorQueues" 15 y_Ma_max b_Ma_max 2 (Option.some FieldType.int) 2 := ⟨gw_67, gw_68, gw_37, gw_69, by decide +kernel, by decide +kernel, by decide +kernel⟩
theorem zi_MQ_28 : ZI GT "MonitorQueues" 28 y_Qu_init b_Qu_init 1 0 := ⟨gw_73, gw_74, gw_38, gw_75, rfl, by decide +kernel, by decide +kernel, by decide +kernel⟩
theorem zi_Qu_11 : ZI GT "MonitorQueues$Queue" 11 y_AL_init b_AL_init 1 0 := ⟨gw_79, gw_80, gw_41, gw_81, rfl, by decide +kernel, by decide +kernel, by decide +kernel⟩
theorem zi_AL_1 : ZI GT "java/util/ArrayList" 1 y_AB_init b_AB_init 1 0 := ⟨gw_82, gw_83, gw_40, gw_84, rfl, by decide +kernel, by decide +kernel, by decide +kernel⟩
theorem zi_AB_1 : ZI GT "java/util/AbstractList" 1 y_AC_init b_AC_init 1 0 := ⟨gw_85, gw_86, gw_39, gw_87, rfl, by decide +kernel, by decide +kernel, by decide +kernel⟩
theorem zi_MQ_31 : ZI GT "MonitorQueues" 31 y_AL_init b_AL_init 1 0 := ⟨gw_144, gw_80, gw_41, gw_81, rfl, by decide +kernel, by decide +kernel, by decide +kernel⟩
theorem zv_La_29 : ZV GT "MonitorQueuesLaw" 29 "MonitorQueues" y_MQ_put b_MQ_put 8 (Option.some FieldType.int) 4 := ⟨gw_167, gw_168, gw_169, gw_36, gw_170, rfl, by decide +kernel, by decide +kernel, by decide +kernel⟩
theorem zv_MQ_39 : ZV GT "MonitorQueues" 39 "MonitorQueues" y_MQ_isQueue b_MQ_isQueue 2 (Option.some FieldType.boolean) 1 := ⟨gw_171, gw_173, gw_0, gw_36, gw_174, rfl, by decide +kernel, by decide +kernel, by decide +kernel⟩
theorem zv_MQ_43 : ZV GT "MonitorQueues" 43 "MonitorQueues$Queue" y_Qu_admits b_Qu_admits 2 (Option.some FieldType.boolean) 1 := ⟨gw_175, gw_176, gw_177, gw_38, gw_178, rfl, by decide +kernel, by decide +kernel, by decide +kernel⟩
theorem zs_Qu_26 : ZS GT "MonitorQueues$Queue" 26 y_Qu_isTransientKind b_Qu_isTransientKind 1 (Option.some FieldType.boolean) 1 := ⟨gw_179, gw_180, gw_38, gw_181, by decide +kernel, by decide +kernel, by decide +kernel⟩
theorem zv_MQ_46 : ZV GT "MonitorQueues" 46 "MonitorQueues$Queue" y_Qu_isLocked b_Qu_isLocked 1 (Option.some FieldType.boolean) 0 := ⟨gw_182, gw_183, gw_184, gw_38, gw_185, rfl, by decide +kernel, by decide +kernel, by decide +kernel⟩
theorem zv_MQ_53 : ZV GT "MonitorQueues" 53 "MonitorQueues" y_MQ_allItems b_MQ_allItems 3 (Option.some FieldType.int) 0 := ⟨gw_186, gw_188, gw_1, gw_36, gw_189, rfl, by decide +kernel, by decide +kernel, by decide +kernel⟩
theorem zv_MQ_151 : ZV GT "MonitorQueues" 151 "java/util/ArrayList" y_AL_size b_AL_size 1 (Option.some FieldType.int) 0 := ⟨gw_190, gw_191, gw_192, gw_41, gw_193, rfl, by decide +kernel, by decide +kernel, by decide +kernel⟩
theorem zv_MQ_61 : ZV GT "MonitorQueues" 61 "MonitorQueues$Queue" y_Qu_touch b_Qu_touch 3 none 1 := ⟨gw_194, gw_195, gw_196, gw_38, gw_197, rfl, by decide +kernel, by decide +kernel, by decide +kernel⟩
theorem zv_MQ_65 : ZV GT "MonitorQueues" 65 "MonitorQueues$Queue" y_Qu_append b_Qu_append 5 (Option.some FieldType.int) 3 := ⟨gw_198, gw_199, gw_200, gw_38, gw_201, rfl, by decide +kernel, by decide +kernel, by decide +kernel⟩
theorem zi_Qu_47 : ZI GT "MonitorQueues$Queue" 47 y_It_init b_It_init 3 1 := ⟨gw_204, gw_205, gw_43, gw_206, rfl, by decide +kernel, by decide +kernel, by decide +kernel⟩
theorem zv_Qu_50 : ZV GT "MonitorQueues$Queue" 50 "java/util/ArrayList" y_AL_add b_AL_add 2 (Option.some FieldType.boolean) 1 := ⟨gw_214, gw_215, gw_216, gw_41, gw_217, rfl, by decide +kernel, by decide +kernel, by decide +kernel⟩
theorem zv_AL_131 : ZV GT "java/util/ArrayList" 131 "java/util/ArrayList" y_AL_add2 b_AL_add2 4 none 3 := ⟨gw_218, gw_220, gw_2, gw_41, gw_221, rfl, by decide +kernel, by decide +kernel, by decide +kernel⟩
theorem zv_AL_129 : ZV GT "java/util/ArrayList" 129 "java/util/ArrayList" y_AL_grow b_AL_grow 1 (Option.some (FieldType.array (FieldType.object "java/lang/Object"))) 0 := ⟨gw_222, gw_224, gw_3, gw_41, gw_225, rfl, by decide +kernel, by decide +kernel, by decide +kernel⟩
theorem zv_AL_69 : ZV GT "java/util/ArrayList" 69 "java/util/ArrayList" y_AL_grow2 b_AL_grow2 4 (Option.some (FieldType.array (FieldType.object "java/lang/Object"))) 1 := ⟨gw_226, gw_228, gw_4, gw_41, gw_229, rfl, by decide +kernel, by decide +kernel, by decide +kernel⟩
theorem zs_AL_73 : ZS GT "java/util/ArrayList" 73 y_AS_newLength b_AS_newLength 4 (Option.some FieldType.int) 3 := ⟨gw_230, gw_231, gw_44, gw_232, by decide +kernel, by decide +kernel, by decide +kernel⟩
theorem zs_AS_194 : ZS GT "jdk/internal/util/ArraysSupport" 194 y_Ma_max b_Ma_max 2 (Option.some FieldType.int) 2 := ⟨gw_233, gw_68, gw_37, gw_69, by decide +kernel, by decide +kernel, by decide +kernel⟩
theorem zs_AS_201 : ZS GT "jdk/internal/util/ArraysSupport" 201 y_AS_hugeLength b_AS_hugeLength 3 (Option.some FieldType.int) 2 := ⟨gw_235, gw_236, gw_44, gw_237, by decide +kernel, by decide +kernel, by decide +kernel⟩
theorem zs_AL_66 : ZS GT "java/util/ArrayList" 66 y_Ar_copyOf b_Ar_copyOf 2 (Option.some (FieldType.array (FieldType.object "java/lang/Object"))) 2 := ⟨gw_238, gw_239, gw_45, gw_240, by decide +kernel, by decide +kernel, by decide +kernel⟩
theorem zs_Ar_300 : ZS GT "java/util/Arrays" 300 y_Ar_copyOf2 b_Ar_copyOf2 4 (Option.some (FieldType.array (FieldType.object "java/lang/Object"))) 3 := ⟨gw_254, gw_255, gw_45, gw_256, by decide +kernel, by decide +kernel, by decide +kernel⟩
theorem zs_Ar_304 : ZS GT "java/util/Arrays" 304 y_Ma_min b_Ma_min 2 (Option.some FieldType.int) 2 := ⟨gw_260, gw_65, gw_37, gw_66, by decide +kernel, by decide +kernel, by decide +kernel⟩
theorem zs_AL_79 : ZS GT "java/util/ArrayList" 79 y_Ma_max b_Ma_max 2 (Option.some FieldType.int) 2 := ⟨gw_264, gw_68, gw_37, gw_69, by decide +kernel, by decide +kernel, by decide +kernel⟩
theorem zs_Qu_54 : ZS GT "MonitorQueues$Queue" 54 y_Qu_isProtectedKind b_Qu_isProtectedKind 1 (Option.some FieldType.boolean) 1 := ⟨gw_266, gw_267, gw_38, gw_268, by decide +kernel, by decide +kernel, by decide +kernel⟩
theorem zv_Qu_60 : ZV GT "MonitorQueues$Queue" 60 "MonitorQueues$Queue" y_Qu_isTransient b_Qu_isTransient 1 (Option.some FieldType.boolean) 0 := ⟨gw_269, gw_270, gw_271, gw_38, gw_272, rfl, by decide +kernel, by decide +kernel, by decide +kernel⟩
theorem zv_Qu_33 : ZV GT "MonitorQueues$Queue" 33 "java/util/ArrayList" y_AL_size b_AL_size 1 (Option.some FieldType.int) 0 := ⟨gw_273, gw_191, gw_192, gw_41, gw_193, rfl, by decide +kernel, by decide +kernel, by decide +kernel⟩
theorem zv_MQ_69 : ZV GT "MonitorQueues" 69 "MonitorQueues" y_MQ_lookAtTriggers b_MQ_lookAtTriggers 3 none 0 := ⟨gw_274, gw_276, gw_5, gw_36, gw_277, rfl, by decide +kernel, by decide +kernel, by decide +kernel⟩
theorem zv_MQ_117 : ZV GT "MonitorQueues" 117 "MonitorQueues$Queue" y_Qu_standing b_Qu_standing 1 (Option.some FieldType.int) 0 := ⟨gw_278, gw_279, gw_280, gw_38, gw_281, rfl, by decide +kernel, by decide +kernel, by decide +kernel⟩
theorem zv_MQ_205 : ZV GT "MonitorQueues" 205 "MonitorQueues" y_MQ_look b_MQ_look 3 none 2 := ⟨gw_282, gw_284, gw_6, gw_36, gw_285, rfl, by decide +kernel, by decide +kernel, by decide +kernel⟩
theorem zv_MQ_215 : ZV GT "MonitorQueues" 215 "MonitorQueues" y_MQ_beginFor b_MQ_beginFor 2 (Option.some FieldType.int) 1 := ⟨gw_286, gw_288, gw_7, gw_36, gw_289, rfl, by decide +kernel, by decide +kernel, by decide +kernel⟩
theorem zv_MQ_196 : ZV GT "MonitorQueues" 196 "MonitorQueues" y_MQ_begin b_MQ_begin 2 (Option.some FieldType.int) 1 := ⟨gw_290, gw_292, gw_8, gw_36, gw_293, rfl, by decide +kernel, by decide +kernel, by decide +kernel⟩
theorem zi_MQ_188 : ZI GT "MonitorQueues" 188 y_Ta_init b_Ta_init 2 1 := ⟨gw_296, gw_297, gw_47, gw_298, rfl, by decide +kernel, by decide +kernel, by decide +kernel⟩
theorem zv_MQ_191 : ZV GT "MonitorQueues" 191 "java/util/ArrayList" y_AL_add b_AL_add 2 (Option.some FieldType.boolean) 1 := ⟨gw_309, gw_215, gw_216, gw_41, gw_217, rfl, by decide +kernel, by decide +kernel, by decide +kernel⟩
theorem zv_La_42 : ZV GT "MonitorQueuesLaw" 42 "MonitorQueues" y_MQ_next b_MQ_next 5 (Option.some FieldType.int) 2 := ⟨gw_310, gw_311, gw_312, gw_36, gw_313, rfl, by decide +kernel, by decide +kernel, by decide +kernel⟩
theorem zv_MQ_107 : ZV GT "MonitorQueues" 107 "MonitorQueues$Queue" y_Qu_isTransient b_Qu_isTransient 1 (Option.some FieldType.boolean) 0 := ⟨gw_314, gw_270, gw_271, gw_38, gw_272, rfl, by decide +kernel, by decide +kernel, by decide +kernel⟩
theorem zv_MQ_82 : ZV GT "MonitorQueues" 82 "MonitorQueues$Queue" y_Qu_holds b_Qu_holds 2 (Option.some FieldType.boolean) 1 := ⟨gw_315, gw_316, gw_317, gw_38, gw_318, rfl, by decide +kernel, by decide +kernel, by decide +kernel⟩
theorem zv_La_47 : ZV GT "MonitorQueuesLaw" 47 "MonitorQueues" y_MQ_take b_MQ_take 4 (Option.some FieldType.int) 1 := ⟨gw_319, gw_320, gw_321, gw_36, gw_322, rfl, by decide +kernel, by decide +kernel, by decide +kernel⟩
theorem zv_MQ_79 : ZV GT "MonitorQueues" 79 "MonitorQueues$Queue" y_Qu_isTemporary b_Qu_isTemporary 1 (Option.some FieldType.boolean) 0 := ⟨gw_323, gw_324, gw_325, gw_38, gw_326, rfl, by decide +kernel, by decide +kernel, by decide +kernel⟩
theorem zv_MQ_114 : ZV GT "MonitorQueues" 114 "java/util/ArrayList" y_AL_isEmpty b_AL_isEmpty 1 (Option.some FieldType.boolean) 0 := ⟨gw_327, gw_328, gw_329, gw_41, gw_330, rfl, by decide +kernel, by decide +kernel, by decide +kernel⟩
theorem zv_MQ_120 : ZV GT "MonitorQueues" 120 "MonitorQueues$Queue" y_Qu_removeFirst b_Qu_removeFirst 1 (Option.some FieldType.int) 0 := ⟨gw_331, gw_332, gw_333, gw_38, gw_334, rfl, by decide +kernel, by decide +kernel, by decide +kernel⟩
theorem zv_Qu_67 : ZV GT "MonitorQueues$Queue" 67 "java/util/ArrayList" y_AL_isEmpty b_AL_isEmpty 1 (Option.some FieldType.boolean) 0 := ⟨gw_335, gw_328, gw_329, gw_41, gw_330, rfl, by decide +kernel, by decide +kernel, by decide +kernel⟩
theorem zv_Qu_73 : ZV GT "MonitorQueues$Queue" 73 "java/util/ArrayList" y_AL_get b_AL_get 2 (Option.some (FieldType.object "java/lang/Object")) 1 := ⟨gw_336, gw_337, gw_338, gw_41, gw_339, rfl, by decide +kernel, by decide +kernel, by decide +kernel⟩
theorem zs_AL_118 : ZS GT "java/util/ArrayList" 118 y_Ob_checkIndex b_Ob_checkIndex 2 (Option.some FieldType.int) 2 := ⟨gw_340, gw_341, gw_52, gw_342, by decide +kernel, by decide +kernel, by decide +kernel⟩
theorem zs_Ob_105 : ZS GT "java/util/Objects" 105 y_Pr_checkIndex b_Pr_checkIndex 3 (Option.some FieldType.int) 3 := ⟨gw_343, gw_344, gw_53, gw_345, by decide +kernel, by decide +kernel, by decide +kernel⟩
theorem zv_AL_123 : ZV GT "java/util/ArrayList" 123 "java/util/ArrayList" y_AL_elementData b_AL_elementData 2 (Option.some (FieldType.object "java/lang/Object")) 1 := ⟨gw_346, gw_347, gw_348, gw_41, gw_349, rfl, by decide +kernel, by decide +kernel, by decide +kernel⟩
theorem zv_Qu_83 : ZV GT "MonitorQueues$Queue" 83 "java/util/ArrayList" y_AL_remove b_AL_remove 4 (Option.some (FieldType.object "java/lang/Object")) 1 := ⟨gw_350, gw_351, gw_352, gw_41, gw_353, rfl, by decide +kernel, by decide +kernel, by decide +kernel⟩
theorem zv_AL_144 : ZV GT "java/util/ArrayList" 144 "java/util/ArrayList" y_AL_fastRemove b_AL_fastRemove 4 none 2 := ⟨gw_354, gw_356, gw_9, gw_41, gw_357, rfl, by decide +kernel, by decide +kernel, by decide +kernel⟩
theorem zv_Qu_92 : ZV GT "MonitorQueues$Queue" 92 "MonitorQueues$Queue" y_Qu_becomeEmpty b_Qu_becomeEmpty 1 none 0 := ⟨gw_359, gw_360, gw_361, gw_38, gw_362, rfl, by decide +kernel, by decide +kernel, by decide +kernel⟩
theorem zv_Qu_99 : ZV GT "MonitorQueues$Queue" 99 "java/util/ArrayList" y_AL_clear b_AL_clear 4 none 0 := ⟨gw_363, gw_364, gw_365, gw_41, gw_366, rfl, by decide +kernel, by decide +kernel, by decide +kernel⟩
theorem zs_Qu_102 : ZS GT "MonitorQueues$Queue" 102 y_Ar_fill b_Ar_fill 4 none 2 := ⟨gw_367, gw_368, gw_45, gw_369, by decide +kernel, by decide +kernel, by decide +kernel⟩
theorem zv_La_52 : ZV GT "MonitorQueuesLaw" 52 "MonitorQueues" y_MQ_trigger b_MQ_trigger 5 (Option.some FieldType.int) 3 := ⟨gw_370, gw_371, gw_372, gw_36, gw_373, rfl, by decide +kernel, by decide +kernel, by decide +kernel⟩
theorem zi_MQ_125 : ZI GT "MonitorQueues" 125 y_Tr_init b_Tr_init 3 2 := ⟨gw_376, gw_377, gw_54, gw_378, rfl, by decide +kernel, by decide +kernel, by decide +kernel⟩
theorem zv_La_57 : ZV GT "MonitorQueuesLaw" 57 "MonitorQueues" y_MQ_started b_MQ_started 2 (Option.some FieldType.int) 1 := ⟨gw_400, gw_401, gw_402, gw_36, gw_403, rfl, by decide +kernel, by decide +kernel, by decide +kernel⟩
theorem zv_MQ_132 : ZV GT "MonitorQueues" 132 "MonitorQueues" y_MQ_isTask b_MQ_isTask 2 (Option.some FieldType.boolean) 1 := ⟨gw_404, gw_406, gw_10, gw_36, gw_407, rfl, by decide +kernel, by decide +kernel, by decide +kernel⟩
theorem zv_MQ_90 : ZV GT "MonitorQueues" 90 "java/util/ArrayList" y_AL_get b_AL_get 2 (Option.some (FieldType.object "java/lang/Object")) 1 := ⟨gw_408, gw_337, gw_338, gw_41, gw_339, rfl, by decide +kernel, by decide +kernel, by decide +kernel⟩
theorem zv_La_61 : ZV GT "MonitorQueuesLaw" 61 "MonitorQueues" y_MQ_end b_MQ_end 4 (Option.some FieldType.int) 1 := ⟨gw_409, gw_410, gw_411, gw_36, gw_412, rfl, by decide +kernel, by decide +kernel, by decide +kernel⟩
theorem zv_MQ_147 : ZV GT "MonitorQueues" 147 "MonitorQueues" y_MQ_beginAgain b_MQ_beginAgain 5 (Option.some FieldType.int) 1 := ⟨gw_413, gw_415, gw_11, gw_36, gw_416, rfl, by decide +kernel, by decide +kernel, by decide +kernel⟩
theorem zv_La_65 : ZV GT "MonitorQueuesLaw" 65 "MonitorQueues" y_MQ_rewrite b_MQ_rewrite 6 (Option.some FieldType.int) 3 := ⟨gw_417, gw_418, gw_419, gw_36, gw_420, rfl, by decide +kernel, by decide +kernel, by decide +kernel⟩
theorem zv_La_70 : ZV GT "MonitorQueuesLaw" 70 "MonitorQueues" y_MQ_delay b_MQ_delay 4 (Option.some FieldType.int) 2 := ⟨gw_422, gw_423, gw_424, gw_36, gw_425, rfl, by decide +kernel, by decide +kernel, by decide +kernel⟩
theorem zi_MQ_159 : ZI GT "MonitorQueues" 159 y_De_init b_De_init 5 3 := ⟨gw_428, gw_429, gw_55, gw_430, rfl, by decide +kernel, by decide +kernel, by decide +kernel⟩
theorem zv_MQ_162 : ZV GT "MonitorQueues" 162 "MonitorQueues" y_MQ_keepWaiting b_MQ_keepWaiting 3 none 1 := ⟨gw_445, gw_447, gw_12, gw_36, gw_448, rfl, by decide +kernel, by decide +kernel, by decide +kernel⟩
theorem zv_MQ_222 : ZV GT "MonitorQueues" 222 "java/util/ArrayList" y_AL_add3 b_AL_add3 5 none 2 := ⟨gw_449, gw_450, gw_451, gw_41, gw_452, rfl, by decide +kernel, by decide +kernel, by decide +kernel⟩
theorem zv_AL_135 : ZV GT "java/util/ArrayList" 135 "java/util/ArrayList" y_AL_rangeCheckForAdd b_AL_rangeCheckForAdd 2 none 1 := ⟨gw_453, gw_455, gw_13, gw_41, gw_456, rfl, by decide +kernel, by decide +kernel, by decide +kernel⟩
theorem zv_MQ_166 : ZV GT "MonitorQueues" 166 "MonitorQueues" y_MQ_postDue b_MQ_postDue 2 (Option.some FieldType.int) 0 := ⟨gw_457, gw_459, gw_14, gw_36, gw_460, rfl, by decide +kernel, by decide +kernel, by decide +kernel⟩
theorem zv_MQ_172 : ZV GT "MonitorQueues" 172 "java/util/ArrayList" y_AL_remove b_AL_remove 4 (Option.some (FieldType.object "java/lang/Object")) 1 := ⟨gw_461, gw_351, gw_352, gw_41, gw_353, rfl, by decide +kernel, by decide +kernel, by decide +kernel⟩
theorem zv_La_75 : ZV GT "MonitorQueuesLaw" 75 "MonitorQueues" y_MQ_cancel b_MQ_cancel 3 (Option.some FieldType.int) 1 := ⟨gw_462, gw_463, gw_464, gw_36, gw_465, rfl, by decide +kernel, by decide +kernel, by decide +kernel⟩
theorem zv_La_79 : ZV GT "MonitorQueuesLaw" 79 "MonitorQueues" y_MQ_tick b_MQ_tick 3 (Option.some FieldType.int) 1 := ⟨gw_466, gw_467, gw_468, gw_36, gw_469, rfl, by decide +kernel, by decide +kernel, by decide +kernel⟩
theorem zv_La_84 : ZV GT "MonitorQueuesLaw" 84 "MonitorQueues" y_MQ_unit b_MQ_unit 6 (Option.some FieldType.int) 2 := ⟨gw_470, gw_471, gw_472, gw_36, gw_473, rfl, by decide +kernel, by decide +kernel, by decide +kernel⟩
theorem zv_MQ_175 : ZV GT "MonitorQueues" 175 "MonitorQueues$Queue" y_Qu_endPending b_Qu_endPending 3 (Option.some FieldType.int) 1 := ⟨gw_474, gw_475, gw_476, gw_38, gw_477, rfl, by decide +kernel, by decide +kernel, by decide +kernel⟩
theorem zv_Qu_95 : ZV GT "MonitorQueues$Queue" 95 "MonitorQueues$Queue" y_Qu_dropLast b_Qu_dropLast 3 none 1 := ⟨gw_478, gw_479, gw_480, gw_38, gw_481, rfl, by decide +kernel, by decide +kernel, by decide +kernel⟩
theorem zv_La_89 : ZV GT "MonitorQueuesLaw" 89 "MonitorQueues" y_MQ_age b_MQ_age 6 (Option.some FieldType.int) 1 := ⟨gw_482, gw_483, gw_484, gw_36, gw_485, rfl, by decide +kernel, by decide +kernel, by decide +kernel⟩
theorem zv_MQ_182 : ZV GT "MonitorQueues" 182 "MonitorQueues$Queue" y_Qu_becomeEmpty b_Qu_becomeEmpty 1 none 0 := ⟨gw_486, gw_360, gw_361, gw_38, gw_362, rfl, by decide +kernel, by decide +kernel, by decide +kernel⟩
theorem zv_La_93 : ZV GT "MonitorQueuesLaw" 93 "MonitorQueues" y_MQ_count b_MQ_count 2 (Option.some FieldType.int) 1 := ⟨gw_487, gw_488, gw_489, gw_36, gw_490, rfl, by decide +kernel, by decide +kernel, by decide +kernel⟩
theorem zs_La_15 : ZS GT "MonitorQueuesLaw" 15 y_La_cell b_La_cell 2 (Option.some FieldType.int) 2 := ⟨gw_491, gw_492, gw_35, gw_493, by decide +kernel, by decide +kernel, by decide +kernel⟩
theorem zv_La_7 : ZV GT "MonitorQueuesLaw" 7 "MonitorQueues" y_MQ_get b_MQ_get 4 (Option.some FieldType.long) 2 := ⟨gw_498, gw_499, gw_500, gw_36, gw_501, rfl, by decide +kernel, by decide +kernel, by decide +kernel⟩
theorem zi_MQ_76 : ZI GT "MonitorQueues" 76 y_Ne_init b_Ne_init 2 1 := ⟨gw_542, gw_543, gw_51, gw_544, rfl, by decide +kernel, by decide +kernel, by decide +kernel⟩
theorem zi_Ne_13 : ZI GT "java/util/NoSuchElementException" 13 y_Re_init b_Re_init 2 1 := ⟨gw_545, gw_546, gw_50, gw_547, rfl, by decide +kernel, by decide +kernel, by decide +kernel⟩
theorem zi_Re_7 : ZI GT "java/lang/RuntimeException" 7 y_Ex_init b_Ex_init 2 1 := ⟨gw_548, gw_549, gw_49, gw_550, rfl, by decide +kernel, by decide +kernel, by decide +kernel⟩
theorem zi_Ex_7 : ZI GT "java/lang/Exception" 7 y_Th_init2 b_Th_init2 2 1 := ⟨gw_551, gw_552, gw_48, gw_553, rfl, by decide +kernel, by decide +kernel, by decide +kernel⟩
theorem zi_La_26 : ZI GT "MonitorQueuesLaw" 26 y_Mo_init b_Mo_init 3 1 := ⟨gw_572, gw_573, gw_42, gw_574, rfl, by decide +kernel, by decide +kernel, by decide +kernel⟩
theorem zv_La_38 : ZV GT "MonitorQueuesLaw" 38 "MonitorQueuesModel" y_Mo_thrown b_Mo_thrown 1 (Option.some FieldType.int) 0 := ⟨gw_663, gw_664, gw_665, gw_42, gw_666, rfl, by decide +kernel, by decide +kernel, by decide +kernel⟩
theorem zv_La_33 : ZV GT "MonitorQueuesLaw" 33 "MonitorQueuesModel" y_Mo_put b_Mo_put 6 (Option.some FieldType.int) 4 := ⟨gw_667, gw_668, gw_669, gw_42, gw_670, rfl, by decide +kernel, by decide +kernel, by decide +kernel⟩
theorem zv_Mo_116 : ZV GT "MonitorQueuesModel" 116 "MonitorQueuesModel" y_Mo_putting b_Mo_putting 7 (Option.some FieldType.int) 4 := ⟨gw_671, gw_673, gw_16, gw_42, gw_674, rfl, by decide +kernel, by decide +kernel, by decide +kernel⟩
theorem zs_Mo_105 : ZS GT "MonitorQueuesModel" 105 y_Mo_isQueue b_Mo_isQueue 1 (Option.some FieldType.boolean) 1 := ⟨gw_675, gw_676, gw_42, gw_677, by decide +kernel, by decide +kernel, by decide +kernel⟩
theorem zv_Mo_109 : ZV GT "MonitorQueuesModel" 109 "MonitorQueuesModel" y_Mo_lockOf b_Mo_lockOf 4 (Option.some FieldType.int) 1 := ⟨gw_678, gw_680, gw_17, gw_42, gw_681, rfl, by decide +kernel, by decide +kernel, by decide +kernel⟩
theorem zv_Mo_82 : ZV GT "MonitorQueuesModel" 82 "MonitorQueuesModel" y_Mo_many b_Mo_many 4 (Option.some FieldType.int) 1 := ⟨gw_682, gw_684, gw_18, gw_42, gw_685, rfl, by decide +kernel, by decide +kernel, by decide +kernel⟩
theorem zv_Mo_120 : ZV GT "MonitorQueuesModel" 120 "MonitorQueuesModel" y_Mo_answer b_Mo_answer 2 (Option.some FieldType.int) 1 := ⟨gw_686, gw_688, gw_19, gw_42, gw_689, rfl, by decide +kernel, by decide +kernel, by decide +kernel⟩
theorem zv_Mo_102 : ZV GT "MonitorQueuesModel" 102 "MonitorQueuesModel" y_Mo_look b_Mo_look 3 none 0 := ⟨gw_690, gw_692, gw_20, gw_42, gw_693, rfl, by decide +kernel, by decide +kernel, by decide +kernel⟩
theorem zv_Mo_96 : ZV GT "MonitorQueuesModel" 96 "MonitorQueuesModel" y_Mo_standing b_Mo_standing 4 (Option.some FieldType.int) 1 := ⟨gw_694, gw_696, gw_21, gw_42, gw_697, rfl, by decide +kernel, by decide +kernel, by decide +kernel⟩
theorem zv_Mo_99 : ZV GT "MonitorQueuesModel" 99 "MonitorQueuesModel" y_Mo_task b_Mo_task 2 (Option.some FieldType.int) 1 := ⟨gw_698, gw_700, gw_22, gw_42, gw_701, rfl, by decide +kernel, by decide +kernel, by decide +kernel⟩
theorem zv_La_37 : ZV GT "MonitorQueuesLaw" 37 "MonitorQueuesModel" y_Mo_get b_Mo_get 4 (Option.some FieldType.long) 2 := ⟨gw_702, gw_703, gw_704, gw_42, gw_705, rfl, by decide +kernel, by decide +kernel, by decide +kernel⟩
theorem zv_Mo_123 : ZV GT "MonitorQueuesModel" 123 "MonitorQueuesModel" y_Mo_isTemporary b_Mo_isTemporary 2 (Option.some FieldType.boolean) 1 := ⟨gw_706, gw_708, gw_23, gw_42, gw_709, rfl, by decide +kernel, by decide +kernel, by decide +kernel⟩
theorem zv_Mo_126 : ZV GT "MonitorQueuesModel" 126 "MonitorQueuesModel" y_Mo_placeOf b_Mo_placeOf 5 (Option.some FieldType.int) 2 := ⟨gw_710, gw_712, gw_24, gw_42, gw_713, rfl, by decide +kernel, by decide +kernel, by decide +kernel⟩
theorem zv_La_46 : ZV GT "MonitorQueuesLaw" 46 "MonitorQueuesModel" y_Mo_next b_Mo_next 3 (Option.some FieldType.int) 2 := ⟨gw_714, gw_715, gw_716, gw_42, gw_717, rfl, by decide +kernel, by decide +kernel, by decide +kernel⟩
theorem zv_Mo_133 : ZV GT "MonitorQueuesModel" 133 "MonitorQueuesModel" y_Mo_nexting b_Mo_nexting 4 (Option.some FieldType.int) 2 := ⟨gw_718, gw_720, gw_25, gw_42, gw_721, rfl, by decide +kernel, by decide +kernel, by decide +kernel⟩
theorem zv_Mo_130 : ZV GT "MonitorQueuesModel" 130 "MonitorQueuesModel" y_Mo_isTransient b_Mo_isTransient 2 (Option.some FieldType.boolean) 1 := ⟨gw_722, gw_724, gw_26, gw_42, gw_725, rfl, by decide +kernel, by decide +kernel, by decide +kernel⟩
theorem zv_La_51 : ZV GT "MonitorQueuesLaw" 51 "MonitorQueuesModel" y_Mo_take b_Mo_take 2 (Option.some FieldType.int) 1 := ⟨gw_726, gw_727, gw_728, gw_42, gw_729, rfl, by decide +kernel, by decide +kernel, by decide +kernel⟩
theorem zv_Mo_139 : ZV GT "MonitorQueuesModel" 139 "MonitorQueuesModel" y_Mo_taking b_Mo_taking 3 (Option.some FieldType.int) 1 := ⟨gw_730, gw_732, gw_27, gw_42, gw_733, rfl, by decide +kernel, by decide +kernel, by decide +kernel⟩
theorem zv_Mo_136 : ZV GT "MonitorQueuesModel" 136 "MonitorQueuesModel" y_Mo_remove b_Mo_remove 4 none 1 := ⟨gw_734, gw_736, gw_28, gw_42, gw_737, rfl, by decide +kernel, by decide +kernel, by decide +kernel⟩
theorem zv_Mo_86 : ZV GT "MonitorQueuesModel" 86 "MonitorQueuesModel" y_Mo_emptied b_Mo_emptied 3 none 1 := ⟨gw_738, gw_740, gw_29, gw_42, gw_741, rfl, by decide +kernel, by decide +kernel, by decide +kernel⟩
theorem zv_La_56 : ZV GT "MonitorQueuesLaw" 56 "MonitorQueuesModel" y_Mo_trigger b_Mo_trigger 4 (Option.some FieldType.int) 3 := ⟨gw_742, gw_743, gw_744, gw_42, gw_745, rfl, by decide +kernel, by decide +kernel, by decide +kernel⟩
theorem zv_Mo_142 : ZV GT "MonitorQueuesModel" 142 "MonitorQueuesModel" y_Mo_triggers b_Mo_triggers 4 (Option.some FieldType.int) 3 := ⟨gw_746, gw_748, gw_30, gw_42, gw_749, rfl, by decide +kernel, by decide +kernel, by decide +kernel⟩
theorem zv_La_60 : ZV GT "MonitorQueuesLaw" 60 "MonitorQueuesModel" y_Mo_started b_Mo_started 2 (Option.some FieldType.int) 1 := ⟨gw_750, gw_751, gw_752, gw_42, gw_753, rfl, by decide +kernel, by decide +kernel, by decide +kernel⟩
theorem zv_La_64 : ZV GT "MonitorQueuesLaw" 64 "MonitorQueuesModel" y_Mo_end b_Mo_end 2 (Option.some FieldType.int) 1 := ⟨gw_754, gw_755, gw_756, gw_42, gw_757, rfl, by decide +kernel, by decide +kernel, by decide +kernel⟩
theorem zv_Mo_146 : ZV GT "MonitorQueuesModel" 146 "MonitorQueuesModel" y_Mo_ending b_Mo_ending 4 (Option.some FieldType.int) 1 := ⟨gw_758, gw_760, gw_31, gw_42, gw_761, rfl, by decide +kernel, by decide +kernel, by decide +kernel⟩
theorem zv_La_69 : ZV GT "MonitorQueuesLaw" 69 "MonitorQueuesModel" y_Mo_rewrite b_Mo_rewrite 5 (Option.some FieldType.int) 3 := ⟨gw_762, gw_763, gw_764, gw_42, gw_765, rfl, by decide +kernel, by decide +kernel, by decide +kernel⟩
theorem zv_Mo_149 : ZV GT "MonitorQueuesModel" 149 "MonitorQueuesModel" y_Mo_rewriting b_Mo_rewriting 6 (Option.some FieldType.int) 3 := ⟨gw_766, gw_768, gw_32, gw_42, gw_769, rfl, by decide +kernel, by decide +kernel, by decide +kernel⟩
theorem zv_La_74 : ZV GT "MonitorQueuesLaw" 74 "MonitorQueuesModel" y_Mo_delay b_Mo_delay 4 (Option.some FieldType.int) 2 := ⟨gw_770, gw_771, gw_772, gw_42, gw_773, rfl, by decide +kernel, by decide +kernel, by decide +kernel⟩
theorem zv_La_78 : ZV GT "MonitorQueuesLaw" 78 "MonitorQueuesModel" y_Mo_cancel b_Mo_cancel 4 (Option.some FieldType.int) 1 := ⟨gw_774, gw_775, gw_776, gw_42, gw_777, rfl, by decide +kernel, by decide +kernel, by decide +kernel⟩
theorem zv_Mo_159 : ZV GT "MonitorQueuesModel" 159 "MonitorQueuesModel" y_Mo_drop b_Mo_drop 3 none 1 := ⟨gw_778, gw_780, gw_33, gw_42, gw_781, rfl, by decide +kernel, by decide +kernel, by decide +kernel⟩
theorem zv_La_83 : ZV GT "MonitorQueuesLaw" 83 "MonitorQueuesModel" y_Mo_tick b_Mo_tick 7 (Option.some FieldType.int) 1 := ⟨gw_782, gw_783, gw_784, gw_42, gw_785, rfl, by decide +kernel, by decide +kernel, by decide +kernel⟩
theorem zv_La_88 : ZV GT "MonitorQueuesLaw" 88 "MonitorQueuesModel" y_Mo_unit b_Mo_unit 3 (Option.some FieldType.int) 2 := ⟨gw_786, gw_787, gw_788, gw_42, gw_789, rfl, by decide +kernel, by decide +kernel, by decide +kernel⟩
theorem zv_Mo_162 : ZV GT "MonitorQueuesModel" 162 "MonitorQueuesModel" y_Mo_unitEnds b_Mo_unitEnds 6 (Option.some FieldType.int) 2 := ⟨gw_790, gw_792, gw_34, gw_42, gw_793, rfl, by decide +kernel, by decide +kernel, by decide +kernel⟩
theorem zv_La_92 : ZV GT "MonitorQueuesLaw" 92 "MonitorQueuesModel" y_Mo_age b_Mo_age 5 (Option.some FieldType.int) 1 := ⟨gw_794, gw_795, gw_796, gw_42, gw_797, rfl, by decide +kernel, by decide +kernel, by decide +kernel⟩
theorem zv_La_96 : ZV GT "MonitorQueuesLaw" 96 "MonitorQueuesModel" y_Mo_count b_Mo_count 2 (Option.some FieldType.int) 1 := ⟨gw_798, gw_799, gw_800, gw_42, gw_801, rfl, by decide +kernel, by decide +kernel, by decide +kernel⟩
