theorem d_Qu_init_0 : decode b_Qu_init 0 = .ok (.aload_n 0, 1) := by decide +kernel
theorem d_Qu_init_1 : decode b_Qu_init 1 = .ok (.invokespecial 3, 3) := by decide +kernel
theorem d_Qu_init_4 : decode b_Qu_init 4 = .ok (.aload_n 0, 1) := by decide +kernel
theorem d_Qu_init_5 : decode b_Qu_init 5 = .ok (.new 9, 3) := by decide +kernel
theorem d_Qu_init_8 : decode b_Qu_init 8 = .ok (.dup, 1) := by decide +kernel
theorem d_Qu_init_9 : decode b_Qu_init 9 = .ok (.invokespecial 11, 3) := by decide +kernel
theorem d_Qu_init_12 : decode b_Qu_init 12 = .ok (.putfield 12, 3) := by decide +kernel
theorem d_Qu_init_15 : decode b_Qu_init 15 = .ok (.aload_n 0, 1) := by decide +kernel
theorem d_Qu_init_16 : decode b_Qu_init 16 = .ok (.bipush 8, 2) := by decide +kernel
theorem d_Qu_init_18 : decode b_Qu_init 18 = .ok (.newarray .int, 2) := by decide +kernel
theorem d_Qu_init_20 : decode b_Qu_init 20 = .ok (.putfield 18, 3) := by decide +kernel
theorem d_Qu_init_23 : decode b_Qu_init 23 = .ok (.aload_n 0, 1) := by decide +kernel
theorem d_Qu_init_24 : decode b_Qu_init 24 = .ok (.iconst (-1), 1) := by decide +kernel
theorem d_Qu_init_25 : decode b_Qu_init 25 = .ok (.putfield 22, 3) := by decide +kernel
theorem d_Qu_init_28 : decode b_Qu_init 28 = .ok (.return_, 1) := by decide +kernel
theorem d_Qu_admits_0 : decode b_Qu_admits 0 = .ok (.aload_n 0, 1) := by decide +kernel
theorem d_Qu_admits_1 : decode b_Qu_admits 1 = .ok (.getfield 22, 3) := by decide +kernel
theorem d_Qu_admits_4 : decode b_Qu_admits 4 = .ok (.iconst (-1), 1) := by decide +kernel
theorem d_Qu_admits_5 : decode b_Qu_admits 5 = .ok (.if_icmp .eq 17, 3) := by decide +kernel
theorem d_Qu_admits_8 : decode b_Qu_admits 8 = .ok (.aload_n 0, 1) := by decide +kernel
theorem d_Qu_admits_9 : decode b_Qu_admits 9 = .ok (.getfield 22, 3) := by decide +kernel
theorem d_Qu_admits_12 : decode b_Qu_admits 12 = .ok (.iload_n 1, 1) := by decide +kernel
theorem d_Qu_admits_13 : decode b_Qu_admits 13 = .ok (.if_icmp .ne 7, 3) := by decide +kernel
theorem d_Qu_admits_16 : decode b_Qu_admits 16 = .ok (.iconst 1, 1) := by decide +kernel
theorem d_Qu_admits_17 : decode b_Qu_admits 17 = .ok (.goto 4, 3) := by decide +kernel
theorem d_Qu_admits_20 : decode b_Qu_admits 20 = .ok (.iconst 0, 1) := by decide +kernel
theorem d_Qu_admits_21 : decode b_Qu_admits 21 = .ok (.ireturn, 1) := by decide +kernel
theorem d_Qu_admits_22 : decode b_Qu_admits 22 = .ok (.aload_n 0, 1) := by decide +kernel
theorem d_Qu_admits_23 : decode b_Qu_admits 23 = .ok (.getfield 37, 3) := by decide +kernel
theorem d_Qu_admits_26 : decode b_Qu_admits 26 = .ok (.ifnull 10, 3) := by decide +kernel
theorem d_Qu_admits_29 : decode b_Qu_admits 29 = .ok (.iload_n 1, 1) := by decide +kernel
theorem d_Qu_admits_30 : decode b_Qu_admits 30 = .ok (.invokestatic 26, 3) := by decide +kernel
theorem d_Qu_admits_33 : decode b_Qu_admits 33 = .ok (.ifCond .eq 7, 3) := by decide +kernel
theorem d_Qu_admits_36 : decode b_Qu_admits 36 = .ok (.iconst 1, 1) := by decide +kernel
theorem d_Qu_admits_37 : decode b_Qu_admits 37 = .ok (.goto 4, 3) := by decide +kernel
theorem d_Qu_admits_40 : decode b_Qu_admits 40 = .ok (.iconst 0, 1) := by decide +kernel
theorem d_Qu_admits_41 : decode b_Qu_admits 41 = .ok (.ireturn, 1) := by decide +kernel
theorem d_Qu_isTransientKind_0 : decode b_Qu_isTransientKind 0 = .ok (.iload_n 0, 1) := by decide +kernel
theorem d_Qu_isTransientKind_1 : decode b_Qu_isTransientKind 1 = .ok (.iconst 2, 1) := by decide +kernel
theorem d_Qu_isTransientKind_2 : decode b_Qu_isTransientKind 2 = .ok (.if_icmp .lt 7, 3) := by decide +kernel
theorem d_Qu_isTransientKind_5 : decode b_Qu_isTransientKind 5 = .ok (.iconst 1, 1) := by decide +kernel
theorem d_Qu_isTransientKind_6 : decode b_Qu_isTransientKind 6 = .ok (.goto 4, 3) := by decide +kernel
theorem d_Qu_isTransientKind_9 : decode b_Qu_isTransientKind 9 = .ok (.iconst 0, 1) := by decide +kernel
theorem d_Qu_isTransientKind_10 : decode b_Qu_isTransientKind 10 = .ok (.ireturn, 1) := by decide +kernel
theorem d_Qu_isLocked_0 : decode b_Qu_isLocked 0 = .ok (.aload_n 0, 1) := by decide +kernel
theorem d_Qu_isLocked_1 : decode b_Qu_isLocked 1 = .ok (.getfield 30, 3) := by decide +kernel
theorem d_Qu_isLocked_4 : decode b_Qu_isLocked 4 = .ok (.ifCond .le 7, 3) := by decide +kernel
theorem d_Qu_isLocked_7 : decode b_Qu_isLocked 7 = .ok (.iconst 1, 1) := by decide +kernel
theorem d_Qu_isLocked_8 : decode b_Qu_isLocked 8 = .ok (.goto 4, 3) := by decide +kernel
theorem d_Qu_isLocked_11 : decode b_Qu_isLocked 11 = .ok (.iconst 0, 1) := by decide +kernel
theorem d_Qu_isLocked_12 : decode b_Qu_isLocked 12 = .ok (.ireturn, 1) := by decide +kernel
theorem d_Qu_touch_0 : decode b_Qu_touch 0 = .ok (.aload_n 0, 1) := by decide +kernel
theorem d_Qu_touch_1 : decode b_Qu_touch 1 = .ok (.lload_n 1, 1) := by decide +kernel
theorem d_Qu_touch_2 : decode b_Qu_touch 2 = .ok (.putfield 41, 3) := by decide +kernel
theorem d_Qu_touch_5 : decode b_Qu_touch 5 = .ok (.return_, 1) := by decide +kernel
theorem d_Qu_append_0 : decode b_Qu_append 0 = .ok (.aload_n 0, 1) := by decide +kernel
theorem d_Qu_append_1 : decode b_Qu_append 1 = .ok (.iload_n 1, 1) := by decide +kernel
theorem d_Qu_append_2 : decode b_Qu_append 2 = .ok (.putfield 22, 3) := by decide +kernel
theorem d_Qu_append_5 : decode b_Qu_append 5 = .ok (.aload_n 0, 1) := by decide +kernel
theorem d_Qu_append_6 : decode b_Qu_append 6 = .ok (.getfield 12, 3) := by decide +kernel
theorem d_Qu_append_9 : decode b_Qu_append 9 = .ok (.new 45, 3) := by decide +kernel
theorem d_Qu_append_12 : decode b_Qu_append 12 = .ok (.dup, 1) := by decide +kernel
theorem d_Qu_append_13 : decode b_Qu_append 13 = .ok (.lload_n 2, 1) := by decide +kernel
theorem d_Qu_append_14 : decode b_Qu_append 14 = .ok (.invokespecial 47, 3) := by decide +kernel
theorem d_Qu_append_17 : decode b_Qu_append 17 = .ok (.invokevirtual 50, 3) := by decide +kernel
theorem d_Qu_append_20 : decode b_Qu_append 20 = .ok (.pop, 1) := by decide +kernel
theorem d_Qu_append_21 : decode b_Qu_append 21 = .ok (.aload_n 0, 1) := by decide +kernel
theorem d_Qu_append_22 : decode b_Qu_append 22 = .ok (.getfield 22, 3) := by decide +kernel
theorem d_Qu_append_25 : decode b_Qu_append 25 = .ok (.invokestatic 54, 3) := by decide +kernel
theorem d_Qu_append_28 : decode b_Qu_append 28 = .ok (.ifCond .eq 24, 3) := by decide +kernel
theorem d_Qu_append_31 : decode b_Qu_append 31 = .ok (.iload 4, 2) := by decide +kernel
theorem d_Qu_append_33 : decode b_Qu_append 33 = .ok (.ifCond .eq 19, 3) := by decide +kernel
theorem d_Qu_append_36 : decode b_Qu_append 36 = .ok (.aload_n 0, 1) := by decide +kernel
theorem d_Qu_append_37 : decode b_Qu_append 37 = .ok (.iload 4, 2) := by decide +kernel
theorem d_Qu_append_39 : decode b_Qu_append 39 = .ok (.putfield 57, 3) := by decide +kernel
theorem d_Qu_append_42 : decode b_Qu_append 42 = .ok (.aload_n 0, 1) := by decide +kernel
theorem d_Qu_append_43 : decode b_Qu_append 43 = .ok (.dup, 1) := by decide +kernel
theorem d_Qu_append_44 : decode b_Qu_append 44 = .ok (.getfield 30, 3) := by decide +kernel
theorem d_Qu_append_47 : decode b_Qu_append 47 = .ok (.iconst 1, 1) := by decide +kernel
theorem d_Qu_append_48 : decode b_Qu_append 48 = .ok (.iadd, 1) := by decide +kernel
theorem d_Qu_append_49 : decode b_Qu_append 49 = .ok (.putfield 30, 3) := by decide +kernel
theorem d_Qu_append_52 : decode b_Qu_append 52 = .ok (.aload_n 0, 1) := by decide +kernel
theorem d_Qu_append_53 : decode b_Qu_append 53 = .ok (.invokevirtual 60, 3) := by decide +kernel
theorem d_Qu_append_56 : decode b_Qu_append 56 = .ok (.ifCond .ne 11, 3) := by decide +kernel
theorem d_Qu_append_59 : decode b_Qu_append 59 = .ok (.aload_n 0, 1) := by decide +kernel
theorem d_Qu_append_60 : decode b_Qu_append 60 = .ok (.getfield 12, 3) := by decide +kernel
theorem d_Qu_append_63 : decode b_Qu_append 63 = .ok (.invokevirtual 33, 3) := by decide +kernel
theorem d_Qu_append_66 : decode b_Qu_append 66 = .ok (.ireturn, 1) := by decide +kernel
theorem d_Qu_append_67 : decode b_Qu_append 67 = .ok (.aload_n 0, 1) := by decide +kernel
theorem d_Qu_append_68 : decode b_Qu_append 68 = .ok (.dup, 1) := by decide +kernel
theorem d_Qu_append_69 : decode b_Qu_append 69 = .ok (.getfield 64, 3) := by decide +kernel
theorem d_Qu_append_72 : decode b_Qu_append 72 = .ok (.iconst 1, 1) := by decide +kernel
theorem d_Qu_append_73 : decode b_Qu_append 73 = .ok (.iadd, 1) := by decide +kernel
theorem d_Qu_append_74 : decode b_Qu_append 74 = .ok (.putfield 64, 3) := by decide +kernel
theorem d_Qu_append_77 : decode b_Qu_append 77 = .ok (.aload_n 0, 1) := by decide +kernel
theorem d_Qu_append_78 : decode b_Qu_append 78 = .ok (.getfield 64, 3) := by decide +kernel
theorem d_Qu_append_81 : decode b_Qu_append 81 = .ok (.ireturn, 1) := by decide +kernel
theorem d_It_init_0 : decode b_It_init 0 = .ok (.aload_n 0, 1) := by decide +kernel
theorem d_It_init_1 : decode b_It_init 1 = .ok (.invokespecial 1, 3) := by decide +kernel
theorem d_It_init_4 : decode b_It_init 4 = .ok (.aload_n 0, 1) := by decide +kernel
theorem d_It_init_5 : decode b_It_init 5 = .ok (.lload_n 1, 1) := by decide +kernel
theorem d_It_init_6 : decode b_It_init 6 = .ok (.putfield 7, 3) := by decide +kernel
theorem d_It_init_9 : decode b_It_init 9 = .ok (.return_, 1) := by decide +kernel
theorem d_Qu_isProtectedKind_0 : decode b_Qu_isProtectedKind 0 = .ok (.iload_n 0, 1) := by decide +kernel
theorem d_Qu_isProtectedKind_1 : decode b_Qu_isProtectedKind 1 = .ok (.iconst 1, 1) := by decide +kernel
theorem d_Qu_isProtectedKind_2 : decode b_Qu_isProtectedKind 2 = .ok (.if_icmp .eq 8, 3) := by decide +kernel
theorem d_Qu_isProtectedKind_5 : decode b_Qu_isProtectedKind 5 = .ok (.iload_n 0, 1) := by decide +kernel
theorem d_Qu_isProtectedKind_6 : decode b_Qu_isProtectedKind 6 = .ok (.iconst 3, 1) := by decide +kernel
theorem d_Qu_isProtectedKind_7 : decode b_Qu_isProtectedKind 7 = .ok (.if_icmp .ne 7, 3) := by decide +kernel
theorem d_Qu_isProtectedKind_10 : decode b_Qu_isProtectedKind 10 = .ok (.iconst 1, 1) := by decide +kernel
theorem d_Qu_isProtectedKind_11 : decode b_Qu_isProtectedKind 11 = .ok (.goto 4, 3) := by decide +kernel
theorem d_Qu_isProtectedKind_14 : decode b_Qu_isProtectedKind 14 = .ok (.iconst 0, 1) := by decide +kernel
theorem d_Qu_isProtectedKind_15 : decode b_Qu_isProtectedKind 15 = .ok (.ireturn, 1) := by decide +kernel
theorem d_Qu_isTransient_0 : decode b_Qu_isTransient 0 = .ok (.aload_n 0, 1) := by decide +kernel
theorem d_Qu_isTransient_1 : decode b_Qu_isTransient 1 = .ok (.getfield 22, 3) := by decide +kernel
theorem d_Qu_isTransient_4 : decode b_Qu_isTransient 4 = .ok (.iconst (-1), 1) := by decide +kernel
theorem d_Qu_isTransient_5 : decode b_Qu_isTransient 5 = .ok (.if_icmp .eq 17, 3) := by decide +kernel
theorem d_Qu_isTransient_8 : decode b_Qu_isTransient 8 = .ok (.aload_n 0, 1) := by decide +kernel
theorem d_Qu_isTransient_9 : decode b_Qu_isTransient 9 = .ok (.getfield 22, 3) := by decide +kernel
theorem d_Qu_isTransient_12 : decode b_Qu_isTransient 12 = .ok (.invokestatic 26, 3) := by decide +kernel
theorem d_Qu_isTransient_15 : decode b_Qu_isTransient 15 = .ok (.ifCond .eq 7, 3) := by decide +kernel
theorem d_Qu_isTransient_18 : decode b_Qu_isTransient 18 = .ok (.iconst 1, 1) := by decide +kernel
theorem d_Qu_isTransient_19 : decode b_Qu_isTransient 19 = .ok (.goto 4, 3) := by decide +kernel
theorem d_Qu_isTransient_22 : decode b_Qu_isTransient 22 = .ok (.iconst 0, 1) := by decide +kernel
theorem d_Qu_isTransient_23 : decode b_Qu_isTransient 23 = .ok (.ireturn, 1) := by decide +kernel
theorem d_Qu_standing_0 : decode b_Qu_standing 0 = .ok (.aload_n 0, 1) := by decide +kernel
theorem d_Qu_standing_1 : decode b_Qu_standing 1 = .ok (.getfield 12, 3) := by decide +kernel
theorem d_Qu_standing_4 : decode b_Qu_standing 4 = .ok (.invokevirtual 33, 3) := by decide +kernel
theorem d_Qu_standing_7 : decode b_Qu_standing 7 = .ok (.aload_n 0, 1) := by decide +kernel
theorem d_Qu_standing_8 : decode b_Qu_standing 8 = .ok (.getfield 30, 3) := by decide +kernel
theorem d_Qu_standing_11 : decode b_Qu_standing 11 = .ok (.isub, 1) := by decide +kernel
theorem d_Qu_standing_12 : decode b_Qu_standing 12 = .ok (.ireturn, 1) := by decide +kernel
theorem d_Ta_init_0 : decode b_Ta_init 0 = .ok (.aload_n 0, 1) := by decide +kernel
theorem d_Ta_init_1 : decode b_Ta_init 1 = .ok (.invokespecial 1, 3) := by decide +kernel
theorem d_Ta_init_4 : decode b_Ta_init 4 = .ok (.aload_n 0, 1) := by decide +kernel
theorem d_Ta_init_5 : decode b_Ta_init 5 = .ok (.iload_n 1, 1) := by decide +kernel
theorem d_Ta_init_6 : decode b_Ta_init 6 = .ok (.putfield 7, 3) := by decide +kernel
theorem d_Ta_init_9 : decode b_Ta_init 9 = .ok (.aload_n 0, 1) := by decide +kernel
theorem d_Ta_init_10 : decode b_Ta_init 10 = .ok (.iconst 1, 1) := by decide +kernel
theorem d_Ta_init_11 : decode b_Ta_init 11 = .ok (.putfield 13, 3) := by decide +kernel
theorem d_Ta_init_14 : decode b_Ta_init 14 = .ok (.return_, 1) := by decide +kernel
theorem d_Qu_holds_0 : decode b_Qu_holds 0 = .ok (.iload_n 1, 1) := by decide +kernel
theorem d_Qu_holds_1 : decode b_Qu_holds 1 = .ok (.iconst 1, 1) := by decide +kernel
theorem d_Qu_holds_2 : decode b_Qu_holds 2 = .ok (.if_icmp .lt 18, 3) := by decide +kernel
theorem d_Qu_holds_5 : decode b_Qu_holds 5 = .ok (.iload_n 1, 1) := by decide +kernel
theorem d_Qu_holds_6 : decode b_Qu_holds 6 = .ok (.aload_n 0, 1) := by decide +kernel
theorem d_Qu_holds_7 : decode b_Qu_holds 7 = .ok (.getfield 12, 3) := by decide +kernel
theorem d_Qu_holds_10 : decode b_Qu_holds 10 = .ok (.invokevirtual 33, 3) := by decide +kernel
theorem d_Qu_holds_13 : decode b_Qu_holds 13 = .ok (.if_icmp .gt 7, 3) := by decide +kernel
theorem d_Qu_holds_16 : decode b_Qu_holds 16 = .ok (.iconst 1, 1) := by decide +kernel
theorem d_Qu_holds_17 : decode b_Qu_holds 17 = .ok (.goto 4, 3) := by decide +kernel
theorem d_Qu_holds_20 : decode b_Qu_holds 20 = .ok (.iconst 0, 1) := by decide +kernel
theorem d_Qu_holds_21 : decode b_Qu_holds 21 = .ok (.ireturn, 1) := by decide +kernel
theorem d_Qu_isTemporary_0 : decode b_Qu_isTemporary 0 = .ok (.aload_n 0, 1) := by decide +kernel
theorem d_Qu_isTemporary_1 : decode b_Qu_isTemporary 1 = .ok (.getfield 22, 3) := by decide +kernel
theorem d_Qu_isTemporary_4 : decode b_Qu_isTemporary 4 = .ok (.iconst (-1), 1) := by decide +kernel
theorem d_Qu_isTemporary_5 : decode b_Qu_isTemporary 5 = .ok (.if_icmp .eq 17, 3) := by decide +kernel
theorem d_Qu_isTemporary_8 : decode b_Qu_isTemporary 8 = .ok (.aload_n 0, 1) := by decide +kernel
theorem d_Qu_isTemporary_9 : decode b_Qu_isTemporary 9 = .ok (.getfield 22, 3) := by decide +kernel
theorem d_Qu_isTemporary_12 : decode b_Qu_isTemporary 12 = .ok (.invokestatic 26, 3) := by decide +kernel
theorem d_Qu_isTemporary_15 : decode b_Qu_isTemporary 15 = .ok (.ifCond .ne 7, 3) := by decide +kernel
theorem d_Qu_isTemporary_18 : decode b_Qu_isTemporary 18 = .ok (.iconst 1, 1) := by decide +kernel
theorem d_Qu_isTemporary_19 : decode b_Qu_isTemporary 19 = .ok (.goto 4, 3) := by decide +kernel
theorem d_Qu_isTemporary_22 : decode b_Qu_isTemporary 22 = .ok (.iconst 0, 1) := by decide +kernel
theorem d_Qu_isTemporary_23 : decode b_Qu_isTemporary 23 = .ok (.ireturn, 1) := by decide +kernel
theorem d_Qu_removeFirst_0 : decode b_Qu_removeFirst 0 = .ok (.aload_n 0, 1) := by decide +kernel
theorem d_Qu_removeFirst_1 : decode b_Qu_removeFirst 1 = .ok (.getfield 12, 3) := by decide +kernel
theorem d_Qu_removeFirst_4 : decode b_Qu_removeFirst 4 = .ok (.invokevirtual 67, 3) := by decide +kernel
theorem d_Qu_removeFirst_7 : decode b_Qu_removeFirst 7 = .ok (.ifCond .eq 6, 3) := by decide +kernel
theorem d_Qu_removeFirst_10 : decode b_Qu_removeFirst 10 = .ok (.bipush (-4), 2) := by decide +kernel
theorem d_Qu_removeFirst_12 : decode b_Qu_removeFirst 12 = .ok (.ireturn, 1) := by decide +kernel
theorem d_Qu_removeFirst_13 : decode b_Qu_removeFirst 13 = .ok (.aload_n 0, 1) := by decide +kernel
theorem d_Qu_removeFirst_14 : decode b_Qu_removeFirst 14 = .ok (.aload_n 0, 1) := by decide +kernel
theorem d_Qu_removeFirst_15 : decode b_Qu_removeFirst 15 = .ok (.getfield 64, 3) := by decide +kernel
theorem d_Qu_removeFirst_18 : decode b_Qu_removeFirst 18 = .ok (.aload_n 0, 1) := by decide +kernel
theorem d_Qu_removeFirst_19 : decode b_Qu_removeFirst 19 = .ok (.getfield 12, 3) := by decide +kernel
theorem d_Qu_removeFirst_22 : decode b_Qu_removeFirst 22 = .ok (.invokevirtual 33, 3) := by decide +kernel
theorem d_Qu_removeFirst_25 : decode b_Qu_removeFirst 25 = .ok (.isub, 1) := by decide +kernel
theorem d_Qu_removeFirst_26 : decode b_Qu_removeFirst 26 = .ok (.iconst 1, 1) := by decide +kernel
theorem d_Qu_removeFirst_27 : decode b_Qu_removeFirst 27 = .ok (.iadd, 1) := by decide +kernel
theorem d_Qu_removeFirst_28 : decode b_Qu_removeFirst 28 = .ok (.putfield 70, 3) := by decide +kernel
theorem d_Qu_removeFirst_31 : decode b_Qu_removeFirst 31 = .ok (.aload_n 0, 1) := by decide +kernel
theorem d_Qu_removeFirst_32 : decode b_Qu_removeFirst 32 = .ok (.aload_n 0, 1) := by decide +kernel
theorem d_Qu_removeFirst_33 : decode b_Qu_removeFirst 33 = .ok (.getfield 12, 3) := by decide +kernel
theorem d_Qu_removeFirst_36 : decode b_Qu_removeFirst 36 = .ok (.iconst 0, 1) := by decide +kernel
theorem d_Qu_removeFirst_37 : decode b_Qu_removeFirst 37 = .ok (.invokevirtual 73, 3) := by decide +kernel
theorem d_Qu_removeFirst_40 : decode b_Qu_removeFirst 40 = .ok (.checkcast 45, 3) := by decide +kernel
theorem d_Qu_removeFirst_43 : decode b_Qu_removeFirst 43 = .ok (.getfield 77, 3) := by decide +kernel
theorem d_Qu_removeFirst_46 : decode b_Qu_removeFirst 46 = .ok (.putfield 80, 3) := by decide +kernel
theorem d_Qu_removeFirst_49 : decode b_Qu_removeFirst 49 = .ok (.aload_n 0, 1) := by decide +kernel
theorem d_Qu_removeFirst_50 : decode b_Qu_removeFirst 50 = .ok (.getfield 12, 3) := by decide +kernel
theorem d_Qu_removeFirst_53 : decode b_Qu_removeFirst 53 = .ok (.iconst 0, 1) := by decide +kernel
theorem d_Qu_removeFirst_54 : decode b_Qu_removeFirst 54 = .ok (.invokevirtual 83, 3) := by decide +kernel
theorem d_Qu_removeFirst_57 : decode b_Qu_removeFirst 57 = .ok (.pop, 1) := by decide +kernel
theorem d_Qu_removeFirst_58 : decode b_Qu_removeFirst 58 = .ok (.aload_n 0, 1) := by decide +kernel
theorem d_Qu_removeFirst_59 : decode b_Qu_removeFirst 59 = .ok (.getfield 37, 3) := by decide +kernel
theorem d_Qu_removeFirst_62 : decode b_Qu_removeFirst 62 = .ok (.ifnull 11, 3) := by decide +kernel
theorem d_Qu_removeFirst_65 : decode b_Qu_removeFirst 65 = .ok (.aload_n 0, 1) := by decide +kernel
theorem d_Qu_removeFirst_66 : decode b_Qu_removeFirst 66 = .ok (.getfield 37, 3) := by decide +kernel
theorem d_Qu_removeFirst_69 : decode b_Qu_removeFirst 69 = .ok (.iconst 1, 1) := by decide +kernel
theorem d_Qu_removeFirst_70 : decode b_Qu_removeFirst 70 = .ok (.putfield 86, 3) := by decide +kernel
theorem d_Qu_removeFirst_73 : decode b_Qu_removeFirst 73 = .ok (.aload_n 0, 1) := by decide +kernel
theorem d_Qu_removeFirst_74 : decode b_Qu_removeFirst 74 = .ok (.getfield 12, 3) := by decide +kernel
theorem d_Qu_removeFirst_77 : decode b_Qu_removeFirst 77 = .ok (.invokevirtual 67, 3) := by decide +kernel
theorem d_Qu_removeFirst_80 : decode b_Qu_removeFirst 80 = .ok (.ifCond .eq 7, 3) := by decide +kernel
theorem d_Qu_removeFirst_83 : decode b_Qu_removeFirst 83 = .ok (.aload_n 0, 1) := by decide +kernel
theorem d_Qu_removeFirst_84 : decode b_Qu_removeFirst 84 = .ok (.invokevirtual 92, 3) := by decide +kernel
theorem d_Qu_removeFirst_87 : decode b_Qu_removeFirst 87 = .ok (.aload_n 0, 1) := by decide +kernel
theorem d_Qu_removeFirst_88 : decode b_Qu_removeFirst 88 = .ok (.getfield 70, 3) := by decide +kernel
theorem d_Qu_removeFirst_91 : decode b_Qu_removeFirst 91 = .ok (.ireturn, 1) := by decide +kernel
theorem d_Qu_becomeEmpty_0 : decode b_Qu_becomeEmpty 0 = .ok (.aload_n 0, 1) := by decide +kernel
theorem d_Qu_becomeEmpty_1 : decode b_Qu_becomeEmpty 1 = .ok (.getfield 12, 3) := by decide +kernel
theorem d_Qu_becomeEmpty_4 : decode b_Qu_becomeEmpty 4 = .ok (.invokevirtual 99, 3) := by decide +kernel
theorem d_Qu_becomeEmpty_7 : decode b_Qu_becomeEmpty 7 = .ok (.aload_n 0, 1) := by decide +kernel
theorem d_Qu_becomeEmpty_8 : decode b_Qu_becomeEmpty 8 = .ok (.getfield 18, 3) := by decide +kernel
theorem d_Qu_becomeEmpty_11 : decode b_Qu_becomeEmpty 11 = .ok (.iconst 0, 1) := by decide +kernel
theorem d_Qu_becomeEmpty_12 : decode b_Qu_becomeEmpty 12 = .ok (.invokestatic 102, 3) := by decide +kernel
theorem d_Qu_becomeEmpty_15 : decode b_Qu_becomeEmpty 15 = .ok (.aload_n 0, 1) := by decide +kernel
theorem d_Qu_becomeEmpty_16 : decode b_Qu_becomeEmpty 16 = .ok (.iconst (-1), 1) := by decide +kernel
theorem d_Qu_becomeEmpty_17 : decode b_Qu_becomeEmpty 17 = .ok (.putfield 22, 3) := by decide +kernel
theorem d_Qu_becomeEmpty_20 : decode b_Qu_becomeEmpty 20 = .ok (.return_, 1) := by decide +kernel
theorem d_Tr_init_0 : decode b_Tr_init 0 = .ok (.aload_n 0, 1) := by decide +kernel
theorem d_Tr_init_1 : decode b_Tr_init 1 = .ok (.invokespecial 1, 3) := by decide +kernel
theorem d_Tr_init_4 : decode b_Tr_init 4 = .ok (.aload_n 0, 1) := by decide +kernel
theorem d_Tr_init_5 : decode b_Tr_init 5 = .ok (.iload_n 1, 1) := by decide +kernel
theorem d_Tr_init_6 : decode b_Tr_init 6 = .ok (.putfield 7, 3) := by decide +kernel
theorem d_Tr_init_9 : decode b_Tr_init 9 = .ok (.aload_n 0, 1) := by decide +kernel
theorem d_Tr_init_10 : decode b_Tr_init 10 = .ok (.iload_n 2, 1) := by decide +kernel
theorem d_Tr_init_11 : decode b_Tr_init 11 = .ok (.putfield 13, 3) := by decide +kernel
theorem d_Tr_init_14 : decode b_Tr_init 14 = .ok (.aload_n 0, 1) := by decide +kernel
theorem d_Tr_init_15 : decode b_Tr_init 15 = .ok (.iconst 1, 1) := by decide +kernel
theorem d_Tr_init_16 : decode b_Tr_init 16 = .ok (.putfield 16, 3) := by decide +kernel
theorem d_Tr_init_19 : decode b_Tr_init 19 = .ok (.return_, 1) := by decide +kernel
theorem d_De_init_0 : decode b_De_init 0 = .ok (.aload_n 0, 1) := by decide +kernel
theorem d_De_init_1 : decode b_De_init 1 = .ok (.invokespecial 1, 3) := by decide +kernel
theorem d_De_init_4 : decode b_De_init 4 = .ok (.aload_n 0, 1) := by decide +kernel
theorem d_De_init_5 : decode b_De_init 5 = .ok (.iload_n 1, 1) := by decide +kernel
theorem d_De_init_6 : decode b_De_init 6 = .ok (.putfield 7, 3) := by decide +kernel
theorem d_De_init_9 : decode b_De_init 9 = .ok (.aload_n 0, 1) := by decide +kernel
theorem d_De_init_10 : decode b_De_init 10 = .ok (.iload_n 2, 1) := by decide +kernel
theorem d_De_init_11 : decode b_De_init 11 = .ok (.putfield 13, 3) := by decide +kernel
theorem d_De_init_14 : decode b_De_init 14 = .ok (.aload_n 0, 1) := by decide +kernel
theorem d_De_init_15 : decode b_De_init 15 = .ok (.lload_n 3, 1) := by decide +kernel
theorem d_De_init_16 : decode b_De_init 16 = .ok (.putfield 16, 3) := by decide +kernel
theorem d_De_init_19 : decode b_De_init 19 = .ok (.return_, 1) := by decide +kernel
theorem d_Qu_endPending_0 : decode b_Qu_endPending 0 = .ok (.aload_n 0, 1) := by decide +kernel
theorem d_Qu_endPending_1 : decode b_Qu_endPending 1 = .ok (.getfield 30, 3) := by decide +kernel
theorem d_Qu_endPending_4 : decode b_Qu_endPending 4 = .ok (.istore_n 2, 1) := by decide +kernel
theorem d_Qu_endPending_5 : decode b_Qu_endPending 5 = .ok (.aload_n 0, 1) := by decide +kernel
theorem d_Qu_endPending_6 : decode b_Qu_endPending 6 = .ok (.iconst 0, 1) := by decide +kernel
theorem d_Qu_endPending_7 : decode b_Qu_endPending 7 = .ok (.putfield 30, 3) := by decide +kernel
theorem d_Qu_endPending_10 : decode b_Qu_endPending 10 = .ok (.iload_n 1, 1) := by decide +kernel
theorem d_Qu_endPending_11 : decode b_Qu_endPending 11 = .ok (.ifCond .ne 8, 3) := by decide +kernel
theorem d_Qu_endPending_14 : decode b_Qu_endPending 14 = .ok (.aload_n 0, 1) := by decide +kernel
theorem d_Qu_endPending_15 : decode b_Qu_endPending 15 = .ok (.iload_n 2, 1) := by decide +kernel
theorem d_Qu_endPending_16 : decode b_Qu_endPending 16 = .ok (.invokevirtual 95, 3) := by decide +kernel
theorem d_Qu_endPending_19 : decode b_Qu_endPending 19 = .ok (.iload_n 2, 1) := by decide +kernel
theorem d_Qu_endPending_20 : decode b_Qu_endPending 20 = .ok (.ireturn, 1) := by decide +kernel
theorem d_Qu_dropLast_0 : decode b_Qu_dropLast 0 = .ok (.aload_n 0, 1) := by decide +kernel
theorem d_Qu_dropLast_1 : decode b_Qu_dropLast 1 = .ok (.invokevirtual 60, 3) := by decide +kernel
theorem d_Qu_dropLast_4 : decode b_Qu_dropLast 4 = .ok (.ifCond .eq 13, 3) := by decide +kernel
theorem d_Qu_dropLast_7 : decode b_Qu_dropLast 7 = .ok (.aload_n 0, 1) := by decide +kernel
theorem d_Qu_dropLast_8 : decode b_Qu_dropLast 8 = .ok (.dup, 1) := by decide +kernel
theorem d_Qu_dropLast_9 : decode b_Qu_dropLast 9 = .ok (.getfield 64, 3) := by decide +kernel
theorem d_Qu_dropLast_12 : decode b_Qu_dropLast 12 = .ok (.iload_n 1, 1) := by decide +kernel
theorem d_Qu_dropLast_13 : decode b_Qu_dropLast 13 = .ok (.isub, 1) := by decide +kernel
theorem d_Qu_dropLast_14 : decode b_Qu_dropLast 14 = .ok (.putfield 64, 3) := by decide +kernel
theorem d_Qu_dropLast_17 : decode b_Qu_dropLast 17 = .ok (.iload_n 1, 1) := by decide +kernel
theorem d_Qu_dropLast_18 : decode b_Qu_dropLast 18 = .ok (.istore_n 2, 1) := by decide +kernel
theorem d_Qu_dropLast_19 : decode b_Qu_dropLast 19 = .ok (.iload_n 2, 1) := by decide +kernel
theorem d_Qu_dropLast_20 : decode b_Qu_dropLast 20 = .ok (.ifCond .le 36, 3) := by decide +kernel
theorem d_Qu_dropLast_23 : decode b_Qu_dropLast 23 = .ok (.aload_n 0, 1) := by decide +kernel
theorem d_Qu_dropLast_24 : decode b_Qu_dropLast 24 = .ok (.getfield 12, 3) := by decide +kernel
theorem d_Qu_dropLast_27 : decode b_Qu_dropLast 27 = .ok (.invokevirtual 67, 3) := by decide +kernel
theorem d_Qu_dropLast_30 : decode b_Qu_dropLast 30 = .ok (.ifCond .ne 26, 3) := by decide +kernel
theorem d_Qu_dropLast_33 : decode b_Qu_dropLast 33 = .ok (.aload_n 0, 1) := by decide +kernel
theorem d_Qu_dropLast_34 : decode b_Qu_dropLast 34 = .ok (.getfield 12, 3) := by decide +kernel
theorem d_Qu_dropLast_37 : decode b_Qu_dropLast 37 = .ok (.aload_n 0, 1) := by decide +kernel
theorem d_Qu_dropLast_38 : decode b_Qu_dropLast 38 = .ok (.getfield 12, 3) := by decide +kernel
theorem d_Qu_dropLast_41 : decode b_Qu_dropLast 41 = .ok (.invokevirtual 33, 3) := by decide +kernel
theorem d_Qu_dropLast_44 : decode b_Qu_dropLast 44 = .ok (.iconst 1, 1) := by decide +kernel
theorem d_Qu_dropLast_45 : decode b_Qu_dropLast 45 = .ok (.isub, 1) := by decide +kernel
theorem d_Qu_dropLast_46 : decode b_Qu_dropLast 46 = .ok (.invokevirtual 83, 3) := by decide +kernel
theorem d_Qu_dropLast_49 : decode b_Qu_dropLast 49 = .ok (.pop, 1) := by decide +kernel
theorem d_Qu_dropLast_50 : decode b_Qu_dropLast 50 = .ok (.iinc 2 (-1), 3) := by decide +kernel
theorem d_Qu_dropLast_53 : decode b_Qu_dropLast 53 = .ok (.goto (-34), 3) := by decide +kernel
theorem d_Qu_dropLast_56 : decode b_Qu_dropLast 56 = .ok (.aload_n 0, 1) := by decide +kernel
theorem d_Qu_dropLast_57 : decode b_Qu_dropLast 57 = .ok (.getfield 12, 3) := by decide +kernel
theorem d_Qu_dropLast_60 : decode b_Qu_dropLast 60 = .ok (.invokevirtual 67, 3) := by decide +kernel
theorem d_Qu_dropLast_63 : decode b_Qu_dropLast 63 = .ok (.ifCond .eq 7, 3) := by decide +kernel
theorem d_Qu_dropLast_66 : decode b_Qu_dropLast 66 = .ok (.aload_n 0, 1) := by decide +kernel
theorem d_Qu_dropLast_67 : decode b_Qu_dropLast 67 = .ok (.invokevirtual 92, 3) := by decide +kernel
theorem d_Qu_dropLast_70 : decode b_Qu_dropLast 70 = .ok (.return_, 1) := by decide +kernel
