theorem d_MQ_init_0 : decode b_MQ_init 0 = .ok (.aload_n 0, 1) := by decide +kernel
theorem d_MQ_init_1 : decode b_MQ_init 1 = .ok (.invokespecial 3, 3) := by decide +kernel
theorem d_MQ_init_4 : decode b_MQ_init 4 = .ok (.aload_n 0, 1) := by decide +kernel
theorem d_MQ_init_5 : decode b_MQ_init 5 = .ok (.iconst 1, 1) := by decide +kernel
theorem d_MQ_init_6 : decode b_MQ_init 6 = .ok (.iload_n 1, 1) := by decide +kernel
theorem d_MQ_init_7 : decode b_MQ_init 7 = .ok (.sipush 4096, 3) := by decide +kernel
theorem d_MQ_init_10 : decode b_MQ_init 10 = .ok (.invokestatic 9, 3) := by decide +kernel
theorem d_MQ_init_13 : decode b_MQ_init 13 = .ok (.invokestatic 15, 3) := by decide +kernel
theorem d_MQ_init_16 : decode b_MQ_init 16 = .ok (.putfield 18, 3) := by decide +kernel
theorem d_MQ_init_19 : decode b_MQ_init 19 = .ok (.aload_n 0, 1) := by decide +kernel
theorem d_MQ_init_20 : decode b_MQ_init 20 = .ok (.bipush 32, 2) := by decide +kernel
theorem d_MQ_init_22 : decode b_MQ_init 22 = .ok (.anewarray 22, 3) := by decide +kernel
theorem d_MQ_init_25 : decode b_MQ_init 25 = .ok (.putfield 24, 3) := by decide +kernel
theorem d_MQ_init_28 : decode b_MQ_init 28 = .ok (.iconst 0, 1) := by decide +kernel
theorem d_MQ_init_29 : decode b_MQ_init 29 = .ok (.istore_n 2, 1) := by decide +kernel
theorem d_MQ_init_30 : decode b_MQ_init 30 = .ok (.iload_n 2, 1) := by decide +kernel
theorem d_MQ_init_31 : decode b_MQ_init 31 = .ok (.bipush 32, 2) := by decide +kernel
theorem d_MQ_init_33 : decode b_MQ_init 33 = .ok (.if_icmp .ge 22, 3) := by decide +kernel
theorem d_MQ_init_36 : decode b_MQ_init 36 = .ok (.aload_n 0, 1) := by decide +kernel
theorem d_MQ_init_37 : decode b_MQ_init 37 = .ok (.getfield 24, 3) := by decide +kernel
theorem d_MQ_init_40 : decode b_MQ_init 40 = .ok (.iload_n 2, 1) := by decide +kernel
theorem d_MQ_init_41 : decode b_MQ_init 41 = .ok (.new 22, 3) := by decide +kernel
theorem d_MQ_init_44 : decode b_MQ_init 44 = .ok (.dup, 1) := by decide +kernel
theorem d_MQ_init_45 : decode b_MQ_init 45 = .ok (.invokespecial 28, 3) := by decide +kernel
theorem d_MQ_init_48 : decode b_MQ_init 48 = .ok (.aastore, 1) := by decide +kernel
theorem d_MQ_init_49 : decode b_MQ_init 49 = .ok (.iinc 2 1, 3) := by decide +kernel
theorem d_MQ_init_52 : decode b_MQ_init 52 = .ok (.goto (-22), 3) := by decide +kernel
theorem d_MQ_init_55 : decode b_MQ_init 55 = .ok (.aload_n 0, 1) := by decide +kernel
theorem d_MQ_init_56 : decode b_MQ_init 56 = .ok (.new 29, 3) := by decide +kernel
theorem d_MQ_init_59 : decode b_MQ_init 59 = .ok (.dup, 1) := by decide +kernel
theorem d_MQ_init_60 : decode b_MQ_init 60 = .ok (.invokespecial 31, 3) := by decide +kernel
theorem d_MQ_init_63 : decode b_MQ_init 63 = .ok (.putfield 32, 3) := by decide +kernel
theorem d_MQ_init_66 : decode b_MQ_init 66 = .ok (.aload_n 0, 1) := by decide +kernel
theorem d_MQ_init_67 : decode b_MQ_init 67 = .ok (.new 29, 3) := by decide +kernel
theorem d_MQ_init_70 : decode b_MQ_init 70 = .ok (.dup, 1) := by decide +kernel
theorem d_MQ_init_71 : decode b_MQ_init 71 = .ok (.invokespecial 31, 3) := by decide +kernel
theorem d_MQ_init_74 : decode b_MQ_init 74 = .ok (.putfield 36, 3) := by decide +kernel
theorem d_MQ_init_77 : decode b_MQ_init 77 = .ok (.return_, 1) := by decide +kernel
theorem d_MQ_put_0 : decode b_MQ_put 0 = .ok (.aload_n 0, 1) := by decide +kernel
theorem d_MQ_put_1 : decode b_MQ_put 1 = .ok (.iload_n 1, 1) := by decide +kernel
theorem d_MQ_put_2 : decode b_MQ_put 2 = .ok (.invokevirtual 39, 3) := by decide +kernel
theorem d_MQ_put_5 : decode b_MQ_put 5 = .ok (.ifCond .eq 24, 3) := by decide +kernel
theorem d_MQ_put_8 : decode b_MQ_put 8 = .ok (.iload_n 2, 1) := by decide +kernel
theorem d_MQ_put_9 : decode b_MQ_put 9 = .ok (.ifCond .lt 20, 3) := by decide +kernel
theorem d_MQ_put_12 : decode b_MQ_put 12 = .ok (.iload_n 2, 1) := by decide +kernel
theorem d_MQ_put_13 : decode b_MQ_put 13 = .ok (.iconst 4, 1) := by decide +kernel
theorem d_MQ_put_14 : decode b_MQ_put 14 = .ok (.if_icmp .ge 15, 3) := by decide +kernel
theorem d_MQ_put_17 : decode b_MQ_put 17 = .ok (.iload 5, 2) := by decide +kernel
theorem d_MQ_put_19 : decode b_MQ_put 19 = .ok (.ifCond .lt 10, 3) := by decide +kernel
theorem d_MQ_put_22 : decode b_MQ_put 22 = .ok (.iload 5, 2) := by decide +kernel
theorem d_MQ_put_24 : decode b_MQ_put 24 = .ok (.bipush 9, 2) := by decide +kernel
theorem d_MQ_put_26 : decode b_MQ_put 26 = .ok (.if_icmp .le 6, 3) := by decide +kernel
theorem d_MQ_put_29 : decode b_MQ_put 29 = .ok (.bipush (-2), 2) := by decide +kernel
theorem d_MQ_put_31 : decode b_MQ_put 31 = .ok (.ireturn, 1) := by decide +kernel
theorem d_MQ_put_32 : decode b_MQ_put 32 = .ok (.aload_n 0, 1) := by decide +kernel
theorem d_MQ_put_33 : decode b_MQ_put 33 = .ok (.getfield 24, 3) := by decide +kernel
theorem d_MQ_put_36 : decode b_MQ_put 36 = .ok (.iload_n 1, 1) := by decide +kernel
theorem d_MQ_put_37 : decode b_MQ_put 37 = .ok (.aaload, 1) := by decide +kernel
theorem d_MQ_put_38 : decode b_MQ_put 38 = .ok (.astore 6, 2) := by decide +kernel
theorem d_MQ_put_40 : decode b_MQ_put 40 = .ok (.aload 6, 2) := by decide +kernel
theorem d_MQ_put_42 : decode b_MQ_put 42 = .ok (.iload_n 2, 1) := by decide +kernel
theorem d_MQ_put_43 : decode b_MQ_put 43 = .ok (.invokevirtual 43, 3) := by decide +kernel
theorem d_MQ_put_46 : decode b_MQ_put 46 = .ok (.ifCond .ne 6, 3) := by decide +kernel
theorem d_MQ_put_49 : decode b_MQ_put 49 = .ok (.bipush (-3), 2) := by decide +kernel
theorem d_MQ_put_51 : decode b_MQ_put 51 = .ok (.ireturn, 1) := by decide +kernel
theorem d_MQ_put_52 : decode b_MQ_put 52 = .ok (.aload 6, 2) := by decide +kernel
theorem d_MQ_put_54 : decode b_MQ_put 54 = .ok (.invokevirtual 46, 3) := by decide +kernel
theorem d_MQ_put_57 : decode b_MQ_put 57 = .ok (.ifCond .eq 16, 3) := by decide +kernel
theorem d_MQ_put_60 : decode b_MQ_put 60 = .ok (.aload 6, 2) := by decide +kernel
theorem d_MQ_put_62 : decode b_MQ_put 62 = .ok (.getfield 50, 3) := by decide +kernel
theorem d_MQ_put_65 : decode b_MQ_put 65 = .ok (.iload 5, 2) := by decide +kernel
theorem d_MQ_put_67 : decode b_MQ_put 67 = .ok (.if_icmp .eq 6, 3) := by decide +kernel
theorem d_MQ_put_70 : decode b_MQ_put 70 = .ok (.bipush (-5), 2) := by decide +kernel
theorem d_MQ_put_72 : decode b_MQ_put 72 = .ok (.ireturn, 1) := by decide +kernel
theorem d_MQ_put_73 : decode b_MQ_put 73 = .ok (.aload_n 0, 1) := by decide +kernel
theorem d_MQ_put_74 : decode b_MQ_put 74 = .ok (.invokevirtual 53, 3) := by decide +kernel
theorem d_MQ_put_77 : decode b_MQ_put 77 = .ok (.aload_n 0, 1) := by decide +kernel
theorem d_MQ_put_78 : decode b_MQ_put 78 = .ok (.getfield 18, 3) := by decide +kernel
theorem d_MQ_put_81 : decode b_MQ_put 81 = .ok (.if_icmp .lt 5, 3) := by decide +kernel
theorem d_MQ_put_84 : decode b_MQ_put 84 = .ok (.iconst (-1), 1) := by decide +kernel
theorem d_MQ_put_85 : decode b_MQ_put 85 = .ok (.ireturn, 1) := by decide +kernel
theorem d_MQ_put_86 : decode b_MQ_put 86 = .ok (.aload 6, 2) := by decide +kernel
theorem d_MQ_put_88 : decode b_MQ_put 88 = .ok (.aload_n 0, 1) := by decide +kernel
theorem d_MQ_put_89 : decode b_MQ_put 89 = .ok (.getfield 57, 3) := by decide +kernel
theorem d_MQ_put_92 : decode b_MQ_put 92 = .ok (.invokevirtual 61, 3) := by decide +kernel
theorem d_MQ_put_95 : decode b_MQ_put 95 = .ok (.aload 6, 2) := by decide +kernel
theorem d_MQ_put_97 : decode b_MQ_put 97 = .ok (.iload_n 2, 1) := by decide +kernel
theorem d_MQ_put_98 : decode b_MQ_put 98 = .ok (.lload_n 3, 1) := by decide +kernel
theorem d_MQ_put_99 : decode b_MQ_put 99 = .ok (.iload 5, 2) := by decide +kernel
theorem d_MQ_put_101 : decode b_MQ_put 101 = .ok (.invokevirtual 65, 3) := by decide +kernel
theorem d_MQ_put_104 : decode b_MQ_put 104 = .ok (.istore 7, 2) := by decide +kernel
theorem d_MQ_put_106 : decode b_MQ_put 106 = .ok (.aload_n 0, 1) := by decide +kernel
theorem d_MQ_put_107 : decode b_MQ_put 107 = .ok (.invokevirtual 69, 3) := by decide +kernel
theorem d_MQ_put_110 : decode b_MQ_put 110 = .ok (.iload 7, 2) := by decide +kernel
theorem d_MQ_put_112 : decode b_MQ_put 112 = .ok (.ireturn, 1) := by decide +kernel
theorem d_MQ_isQueue_0 : decode b_MQ_isQueue 0 = .ok (.iload_n 1, 1) := by decide +kernel
theorem d_MQ_isQueue_1 : decode b_MQ_isQueue 1 = .ok (.ifCond .lt 16, 3) := by decide +kernel
theorem d_MQ_isQueue_4 : decode b_MQ_isQueue 4 = .ok (.iload_n 1, 1) := by decide +kernel
theorem d_MQ_isQueue_5 : decode b_MQ_isQueue 5 = .ok (.aload_n 0, 1) := by decide +kernel
theorem d_MQ_isQueue_6 : decode b_MQ_isQueue 6 = .ok (.getfield 24, 3) := by decide +kernel
theorem d_MQ_isQueue_9 : decode b_MQ_isQueue 9 = .ok (.arraylength, 1) := by decide +kernel
theorem d_MQ_isQueue_10 : decode b_MQ_isQueue 10 = .ok (.if_icmp .ge 7, 3) := by decide +kernel
theorem d_MQ_isQueue_13 : decode b_MQ_isQueue 13 = .ok (.iconst 1, 1) := by decide +kernel
theorem d_MQ_isQueue_14 : decode b_MQ_isQueue 14 = .ok (.goto 4, 3) := by decide +kernel
theorem d_MQ_isQueue_17 : decode b_MQ_isQueue 17 = .ok (.iconst 0, 1) := by decide +kernel
theorem d_MQ_isQueue_18 : decode b_MQ_isQueue 18 = .ok (.ireturn, 1) := by decide +kernel
theorem d_MQ_allItems_0 : decode b_MQ_allItems 0 = .ok (.iconst 0, 1) := by decide +kernel
theorem d_MQ_allItems_1 : decode b_MQ_allItems 1 = .ok (.istore_n 1, 1) := by decide +kernel
theorem d_MQ_allItems_2 : decode b_MQ_allItems 2 = .ok (.iconst 0, 1) := by decide +kernel
theorem d_MQ_allItems_3 : decode b_MQ_allItems 3 = .ok (.istore_n 2, 1) := by decide +kernel
theorem d_MQ_allItems_4 : decode b_MQ_allItems 4 = .ok (.iload_n 2, 1) := by decide +kernel
theorem d_MQ_allItems_5 : decode b_MQ_allItems 5 = .ok (.aload_n 0, 1) := by decide +kernel
theorem d_MQ_allItems_6 : decode b_MQ_allItems 6 = .ok (.getfield 24, 3) := by decide +kernel
theorem d_MQ_allItems_9 : decode b_MQ_allItems 9 = .ok (.arraylength, 1) := by decide +kernel
theorem d_MQ_allItems_10 : decode b_MQ_allItems 10 = .ok (.if_icmp .ge 24, 3) := by decide +kernel
theorem d_MQ_allItems_13 : decode b_MQ_allItems 13 = .ok (.iload_n 1, 1) := by decide +kernel
theorem d_MQ_allItems_14 : decode b_MQ_allItems 14 = .ok (.aload_n 0, 1) := by decide +kernel
theorem d_MQ_allItems_15 : decode b_MQ_allItems 15 = .ok (.getfield 24, 3) := by decide +kernel
theorem d_MQ_allItems_18 : decode b_MQ_allItems 18 = .ok (.iload_n 2, 1) := by decide +kernel
theorem d_MQ_allItems_19 : decode b_MQ_allItems 19 = .ok (.aaload, 1) := by decide +kernel
theorem d_MQ_allItems_20 : decode b_MQ_allItems 20 = .ok (.getfield 87, 3) := by decide +kernel
theorem d_MQ_allItems_23 : decode b_MQ_allItems 23 = .ok (.invokevirtual 151, 3) := by decide +kernel
theorem d_MQ_allItems_26 : decode b_MQ_allItems 26 = .ok (.iadd, 1) := by decide +kernel
theorem d_MQ_allItems_27 : decode b_MQ_allItems 27 = .ok (.istore_n 1, 1) := by decide +kernel
theorem d_MQ_allItems_28 : decode b_MQ_allItems 28 = .ok (.iinc 2 1, 3) := by decide +kernel
theorem d_MQ_allItems_31 : decode b_MQ_allItems 31 = .ok (.goto (-27), 3) := by decide +kernel
theorem d_MQ_allItems_34 : decode b_MQ_allItems 34 = .ok (.iload_n 1, 1) := by decide +kernel
theorem d_MQ_allItems_35 : decode b_MQ_allItems 35 = .ok (.ireturn, 1) := by decide +kernel
theorem d_MQ_lookAtTriggers_0 : decode b_MQ_lookAtTriggers 0 = .ok (.iconst 0, 1) := by decide +kernel
theorem d_MQ_lookAtTriggers_1 : decode b_MQ_lookAtTriggers 1 = .ok (.istore_n 1, 1) := by decide +kernel
theorem d_MQ_lookAtTriggers_2 : decode b_MQ_lookAtTriggers 2 = .ok (.iload_n 1, 1) := by decide +kernel
theorem d_MQ_lookAtTriggers_3 : decode b_MQ_lookAtTriggers 3 = .ok (.aload_n 0, 1) := by decide +kernel
theorem d_MQ_lookAtTriggers_4 : decode b_MQ_lookAtTriggers 4 = .ok (.getfield 24, 3) := by decide +kernel
theorem d_MQ_lookAtTriggers_7 : decode b_MQ_lookAtTriggers 7 = .ok (.arraylength, 1) := by decide +kernel
theorem d_MQ_lookAtTriggers_8 : decode b_MQ_lookAtTriggers 8 = .ok (.if_icmp .ge 37, 3) := by decide +kernel
theorem d_MQ_lookAtTriggers_11 : decode b_MQ_lookAtTriggers 11 = .ok (.aload_n 0, 1) := by decide +kernel
theorem d_MQ_lookAtTriggers_12 : decode b_MQ_lookAtTriggers 12 = .ok (.getfield 24, 3) := by decide +kernel
theorem d_MQ_lookAtTriggers_15 : decode b_MQ_lookAtTriggers 15 = .ok (.iload_n 1, 1) := by decide +kernel
theorem d_MQ_lookAtTriggers_16 : decode b_MQ_lookAtTriggers 16 = .ok (.aaload, 1) := by decide +kernel
theorem d_MQ_lookAtTriggers_17 : decode b_MQ_lookAtTriggers 17 = .ok (.getfield 128, 3) := by decide +kernel
theorem d_MQ_lookAtTriggers_20 : decode b_MQ_lookAtTriggers 20 = .ok (.astore_n 2, 1) := by decide +kernel
theorem d_MQ_lookAtTriggers_21 : decode b_MQ_lookAtTriggers 21 = .ok (.aload_n 2, 1) := by decide +kernel
theorem d_MQ_lookAtTriggers_22 : decode b_MQ_lookAtTriggers 22 = .ok (.ifnull 17, 3) := by decide +kernel
theorem d_MQ_lookAtTriggers_25 : decode b_MQ_lookAtTriggers 25 = .ok (.aload_n 0, 1) := by decide +kernel
theorem d_MQ_lookAtTriggers_26 : decode b_MQ_lookAtTriggers 26 = .ok (.aload_n 2, 1) := by decide +kernel
theorem d_MQ_lookAtTriggers_27 : decode b_MQ_lookAtTriggers 27 = .ok (.aload_n 0, 1) := by decide +kernel
theorem d_MQ_lookAtTriggers_28 : decode b_MQ_lookAtTriggers 28 = .ok (.getfield 24, 3) := by decide +kernel
theorem d_MQ_lookAtTriggers_31 : decode b_MQ_lookAtTriggers 31 = .ok (.iload_n 1, 1) := by decide +kernel
theorem d_MQ_lookAtTriggers_32 : decode b_MQ_lookAtTriggers 32 = .ok (.aaload, 1) := by decide +kernel
theorem d_MQ_lookAtTriggers_33 : decode b_MQ_lookAtTriggers 33 = .ok (.invokevirtual 117, 3) := by decide +kernel
theorem d_MQ_lookAtTriggers_36 : decode b_MQ_lookAtTriggers 36 = .ok (.invokevirtual 205, 3) := by decide +kernel
theorem d_MQ_lookAtTriggers_39 : decode b_MQ_lookAtTriggers 39 = .ok (.iinc 1 1, 3) := by decide +kernel
theorem d_MQ_lookAtTriggers_42 : decode b_MQ_lookAtTriggers 42 = .ok (.goto (-40), 3) := by decide +kernel
theorem d_MQ_lookAtTriggers_45 : decode b_MQ_lookAtTriggers 45 = .ok (.return_, 1) := by decide +kernel
theorem d_MQ_look_0 : decode b_MQ_look 0 = .ok (.iload_n 2, 1) := by decide +kernel
theorem d_MQ_look_1 : decode b_MQ_look 1 = .ok (.aload_n 1, 1) := by decide +kernel
theorem d_MQ_look_2 : decode b_MQ_look 2 = .ok (.getfield 209, 3) := by decide +kernel
theorem d_MQ_look_5 : decode b_MQ_look 5 = .ok (.if_icmp .ge 11, 3) := by decide +kernel
theorem d_MQ_look_8 : decode b_MQ_look 8 = .ok (.aload_n 1, 1) := by decide +kernel
theorem d_MQ_look_9 : decode b_MQ_look 9 = .ok (.iconst 1, 1) := by decide +kernel
theorem d_MQ_look_10 : decode b_MQ_look 10 = .ok (.putfield 212, 3) := by decide +kernel
theorem d_MQ_look_13 : decode b_MQ_look 13 = .ok (.goto 28, 3) := by decide +kernel
theorem d_MQ_look_16 : decode b_MQ_look 16 = .ok (.aload_n 1, 1) := by decide +kernel
theorem d_MQ_look_17 : decode b_MQ_look 17 = .ok (.getfield 212, 3) := by decide +kernel
theorem d_MQ_look_20 : decode b_MQ_look 20 = .ok (.ifCond .eq 21, 3) := by decide +kernel
theorem d_MQ_look_23 : decode b_MQ_look 23 = .ok (.aload_n 1, 1) := by decide +kernel
theorem d_MQ_look_24 : decode b_MQ_look 24 = .ok (.getfield 199, 3) := by decide +kernel
theorem d_MQ_look_27 : decode b_MQ_look 27 = .ok (.ifCond .ne 14, 3) := by decide +kernel
theorem d_MQ_look_30 : decode b_MQ_look 30 = .ok (.aload_n 0, 1) := by decide +kernel
theorem d_MQ_look_31 : decode b_MQ_look 31 = .ok (.aload_n 1, 1) := by decide +kernel
theorem d_MQ_look_32 : decode b_MQ_look 32 = .ok (.invokevirtual 215, 3) := by decide +kernel
theorem d_MQ_look_35 : decode b_MQ_look 35 = .ok (.pop, 1) := by decide +kernel
theorem d_MQ_look_36 : decode b_MQ_look 36 = .ok (.aload_n 1, 1) := by decide +kernel
theorem d_MQ_look_37 : decode b_MQ_look 37 = .ok (.iconst 0, 1) := by decide +kernel
theorem d_MQ_look_38 : decode b_MQ_look 38 = .ok (.putfield 212, 3) := by decide +kernel
theorem d_MQ_look_41 : decode b_MQ_look 41 = .ok (.return_, 1) := by decide +kernel
theorem d_MQ_beginFor_0 : decode b_MQ_beginFor 0 = .ok (.aload_n 1, 1) := by decide +kernel
theorem d_MQ_beginFor_1 : decode b_MQ_beginFor 1 = .ok (.aload_n 0, 1) := by decide +kernel
theorem d_MQ_beginFor_2 : decode b_MQ_beginFor 2 = .ok (.aload_n 1, 1) := by decide +kernel
theorem d_MQ_beginFor_3 : decode b_MQ_beginFor 3 = .ok (.getfield 195, 3) := by decide +kernel
theorem d_MQ_beginFor_6 : decode b_MQ_beginFor 6 = .ok (.invokevirtual 196, 3) := by decide +kernel
theorem d_MQ_beginFor_9 : decode b_MQ_beginFor 9 = .ok (.putfield 199, 3) := by decide +kernel
theorem d_MQ_beginFor_12 : decode b_MQ_beginFor 12 = .ok (.aload_n 1, 1) := by decide +kernel
theorem d_MQ_beginFor_13 : decode b_MQ_beginFor 13 = .ok (.iconst 0, 1) := by decide +kernel
theorem d_MQ_beginFor_14 : decode b_MQ_beginFor 14 = .ok (.putfield 202, 3) := by decide +kernel
theorem d_MQ_beginFor_17 : decode b_MQ_beginFor 17 = .ok (.aload_n 1, 1) := by decide +kernel
theorem d_MQ_beginFor_18 : decode b_MQ_beginFor 18 = .ok (.getfield 199, 3) := by decide +kernel
theorem d_MQ_beginFor_21 : decode b_MQ_beginFor 21 = .ok (.ireturn, 1) := by decide +kernel
theorem d_MQ_begin_0 : decode b_MQ_begin 0 = .ok (.aload_n 0, 1) := by decide +kernel
theorem d_MQ_begin_1 : decode b_MQ_begin 1 = .ok (.getfield 32, 3) := by decide +kernel
theorem d_MQ_begin_4 : decode b_MQ_begin 4 = .ok (.new 135, 3) := by decide +kernel
theorem d_MQ_begin_7 : decode b_MQ_begin 7 = .ok (.dup, 1) := by decide +kernel
theorem d_MQ_begin_8 : decode b_MQ_begin 8 = .ok (.iload_n 1, 1) := by decide +kernel
theorem d_MQ_begin_9 : decode b_MQ_begin 9 = .ok (.invokespecial 188, 3) := by decide +kernel
theorem d_MQ_begin_12 : decode b_MQ_begin 12 = .ok (.invokevirtual 191, 3) := by decide +kernel
theorem d_MQ_begin_15 : decode b_MQ_begin 15 = .ok (.pop, 1) := by decide +kernel
theorem d_MQ_begin_16 : decode b_MQ_begin 16 = .ok (.aload_n 0, 1) := by decide +kernel
theorem d_MQ_begin_17 : decode b_MQ_begin 17 = .ok (.dup, 1) := by decide +kernel
theorem d_MQ_begin_18 : decode b_MQ_begin 18 = .ok (.getfield 144, 3) := by decide +kernel
theorem d_MQ_begin_21 : decode b_MQ_begin 21 = .ok (.iconst 1, 1) := by decide +kernel
theorem d_MQ_begin_22 : decode b_MQ_begin 22 = .ok (.iadd, 1) := by decide +kernel
theorem d_MQ_begin_23 : decode b_MQ_begin 23 = .ok (.putfield 144, 3) := by decide +kernel
theorem d_MQ_begin_26 : decode b_MQ_begin 26 = .ok (.aload_n 0, 1) := by decide +kernel
theorem d_MQ_begin_27 : decode b_MQ_begin 27 = .ok (.getfield 32, 3) := by decide +kernel
theorem d_MQ_begin_30 : decode b_MQ_begin 30 = .ok (.invokevirtual 151, 3) := by decide +kernel
theorem d_MQ_begin_33 : decode b_MQ_begin 33 = .ok (.ireturn, 1) := by decide +kernel
theorem d_MQ_next_0 : decode b_MQ_next 0 = .ok (.aload_n 0, 1) := by decide +kernel
theorem d_MQ_next_1 : decode b_MQ_next 1 = .ok (.iload_n 1, 1) := by decide +kernel
theorem d_MQ_next_2 : decode b_MQ_next 2 = .ok (.invokevirtual 39, 3) := by decide +kernel
theorem d_MQ_next_5 : decode b_MQ_next 5 = .ok (.ifCond .eq 13, 3) := by decide +kernel
theorem d_MQ_next_8 : decode b_MQ_next 8 = .ok (.iload_n 2, 1) := by decide +kernel
theorem d_MQ_next_9 : decode b_MQ_next 9 = .ok (.ifCond .lt 9, 3) := by decide +kernel
theorem d_MQ_next_12 : decode b_MQ_next 12 = .ok (.iload_n 2, 1) := by decide +kernel
theorem d_MQ_next_13 : decode b_MQ_next 13 = .ok (.bipush 8, 2) := by decide +kernel
theorem d_MQ_next_15 : decode b_MQ_next 15 = .ok (.if_icmp .lt 6, 3) := by decide +kernel
theorem d_MQ_next_18 : decode b_MQ_next 18 = .ok (.bipush (-2), 2) := by decide +kernel
theorem d_MQ_next_20 : decode b_MQ_next 20 = .ok (.ireturn, 1) := by decide +kernel
theorem d_MQ_next_21 : decode b_MQ_next 21 = .ok (.aload_n 0, 1) := by decide +kernel
theorem d_MQ_next_22 : decode b_MQ_next 22 = .ok (.getfield 24, 3) := by decide +kernel
theorem d_MQ_next_25 : decode b_MQ_next 25 = .ok (.iload_n 1, 1) := by decide +kernel
theorem d_MQ_next_26 : decode b_MQ_next 26 = .ok (.aaload, 1) := by decide +kernel
theorem d_MQ_next_27 : decode b_MQ_next 27 = .ok (.astore_n 3, 1) := by decide +kernel
theorem d_MQ_next_28 : decode b_MQ_next 28 = .ok (.aload_n 3, 1) := by decide +kernel
theorem d_MQ_next_29 : decode b_MQ_next 29 = .ok (.invokevirtual 107, 3) := by decide +kernel
theorem d_MQ_next_32 : decode b_MQ_next 32 = .ok (.ifCond .eq 6, 3) := by decide +kernel
theorem d_MQ_next_35 : decode b_MQ_next 35 = .ok (.bipush (-3), 2) := by decide +kernel
theorem d_MQ_next_37 : decode b_MQ_next 37 = .ok (.ireturn, 1) := by decide +kernel
theorem d_MQ_next_38 : decode b_MQ_next 38 = .ok (.aload_n 3, 1) := by decide +kernel
theorem d_MQ_next_39 : decode b_MQ_next 39 = .ok (.getfield 110, 3) := by decide +kernel
theorem d_MQ_next_42 : decode b_MQ_next 42 = .ok (.iload_n 2, 1) := by decide +kernel
theorem d_MQ_next_43 : decode b_MQ_next 43 = .ok (.iaload, 1) := by decide +kernel
theorem d_MQ_next_44 : decode b_MQ_next 44 = .ok (.iconst 1, 1) := by decide +kernel
theorem d_MQ_next_45 : decode b_MQ_next 45 = .ok (.iadd, 1) := by decide +kernel
theorem d_MQ_next_46 : decode b_MQ_next 46 = .ok (.istore 4, 2) := by decide +kernel
theorem d_MQ_next_48 : decode b_MQ_next 48 = .ok (.aload_n 3, 1) := by decide +kernel
theorem d_MQ_next_49 : decode b_MQ_next 49 = .ok (.iload 4, 2) := by decide +kernel
theorem d_MQ_next_51 : decode b_MQ_next 51 = .ok (.invokevirtual 82, 3) := by decide +kernel
theorem d_MQ_next_54 : decode b_MQ_next 54 = .ok (.ifCond .ne 6, 3) := by decide +kernel
theorem d_MQ_next_57 : decode b_MQ_next 57 = .ok (.bipush (-4), 2) := by decide +kernel
theorem d_MQ_next_59 : decode b_MQ_next 59 = .ok (.ireturn, 1) := by decide +kernel
theorem d_MQ_next_60 : decode b_MQ_next 60 = .ok (.aload_n 3, 1) := by decide +kernel
theorem d_MQ_next_61 : decode b_MQ_next 61 = .ok (.getfield 110, 3) := by decide +kernel
theorem d_MQ_next_64 : decode b_MQ_next 64 = .ok (.iload_n 2, 1) := by decide +kernel
theorem d_MQ_next_65 : decode b_MQ_next 65 = .ok (.iload 4, 2) := by decide +kernel
theorem d_MQ_next_67 : decode b_MQ_next 67 = .ok (.iastore, 1) := by decide +kernel
theorem d_MQ_next_68 : decode b_MQ_next 68 = .ok (.aload_n 3, 1) := by decide +kernel
theorem d_MQ_next_69 : decode b_MQ_next 69 = .ok (.aload_n 0, 1) := by decide +kernel
theorem d_MQ_next_70 : decode b_MQ_next 70 = .ok (.getfield 57, 3) := by decide +kernel
theorem d_MQ_next_73 : decode b_MQ_next 73 = .ok (.invokevirtual 61, 3) := by decide +kernel
theorem d_MQ_next_76 : decode b_MQ_next 76 = .ok (.iload 4, 2) := by decide +kernel
theorem d_MQ_next_78 : decode b_MQ_next 78 = .ok (.ireturn, 1) := by decide +kernel
theorem d_MQ_take_0 : decode b_MQ_take 0 = .ok (.aload_n 0, 1) := by decide +kernel
theorem d_MQ_take_1 : decode b_MQ_take 1 = .ok (.iload_n 1, 1) := by decide +kernel
theorem d_MQ_take_2 : decode b_MQ_take 2 = .ok (.invokevirtual 39, 3) := by decide +kernel
theorem d_MQ_take_5 : decode b_MQ_take 5 = .ok (.ifCond .ne 6, 3) := by decide +kernel
theorem d_MQ_take_8 : decode b_MQ_take 8 = .ok (.bipush (-2), 2) := by decide +kernel
theorem d_MQ_take_10 : decode b_MQ_take 10 = .ok (.ireturn, 1) := by decide +kernel
theorem d_MQ_take_11 : decode b_MQ_take 11 = .ok (.aload_n 0, 1) := by decide +kernel
theorem d_MQ_take_12 : decode b_MQ_take 12 = .ok (.getfield 24, 3) := by decide +kernel
theorem d_MQ_take_15 : decode b_MQ_take 15 = .ok (.iload_n 1, 1) := by decide +kernel
theorem d_MQ_take_16 : decode b_MQ_take 16 = .ok (.aaload, 1) := by decide +kernel
theorem d_MQ_take_17 : decode b_MQ_take 17 = .ok (.astore_n 2, 1) := by decide +kernel
theorem d_MQ_take_18 : decode b_MQ_take 18 = .ok (.aload_n 2, 1) := by decide +kernel
theorem d_MQ_take_19 : decode b_MQ_take 19 = .ok (.invokevirtual 79, 3) := by decide +kernel
theorem d_MQ_take_22 : decode b_MQ_take 22 = .ok (.ifCond .eq 6, 3) := by decide +kernel
theorem d_MQ_take_25 : decode b_MQ_take 25 = .ok (.bipush (-3), 2) := by decide +kernel
theorem d_MQ_take_27 : decode b_MQ_take 27 = .ok (.ireturn, 1) := by decide +kernel
theorem d_MQ_take_28 : decode b_MQ_take 28 = .ok (.aload_n 2, 1) := by decide +kernel
theorem d_MQ_take_29 : decode b_MQ_take 29 = .ok (.getfield 87, 3) := by decide +kernel
theorem d_MQ_take_32 : decode b_MQ_take 32 = .ok (.invokevirtual 114, 3) := by decide +kernel
theorem d_MQ_take_35 : decode b_MQ_take 35 = .ok (.ifCond .eq 6, 3) := by decide +kernel
theorem d_MQ_take_38 : decode b_MQ_take 38 = .ok (.bipush (-4), 2) := by decide +kernel
theorem d_MQ_take_40 : decode b_MQ_take 40 = .ok (.ireturn, 1) := by decide +kernel
theorem d_MQ_take_41 : decode b_MQ_take 41 = .ok (.aload_n 2, 1) := by decide +kernel
theorem d_MQ_take_42 : decode b_MQ_take 42 = .ok (.invokevirtual 117, 3) := by decide +kernel
theorem d_MQ_take_45 : decode b_MQ_take 45 = .ok (.ifCond .ne 6, 3) := by decide +kernel
theorem d_MQ_take_48 : decode b_MQ_take 48 = .ok (.bipush (-5), 2) := by decide +kernel
theorem d_MQ_take_50 : decode b_MQ_take 50 = .ok (.ireturn, 1) := by decide +kernel
theorem d_MQ_take_51 : decode b_MQ_take 51 = .ok (.aload_n 2, 1) := by decide +kernel
theorem d_MQ_take_52 : decode b_MQ_take 52 = .ok (.invokevirtual 120, 3) := by decide +kernel
theorem d_MQ_take_55 : decode b_MQ_take 55 = .ok (.istore_n 3, 1) := by decide +kernel
theorem d_MQ_take_56 : decode b_MQ_take 56 = .ok (.aload_n 0, 1) := by decide +kernel
theorem d_MQ_take_57 : decode b_MQ_take 57 = .ok (.invokevirtual 69, 3) := by decide +kernel
theorem d_MQ_take_60 : decode b_MQ_take 60 = .ok (.iload_n 3, 1) := by decide +kernel
theorem d_MQ_take_61 : decode b_MQ_take 61 = .ok (.ireturn, 1) := by decide +kernel
theorem d_MQ_trigger_0 : decode b_MQ_trigger 0 = .ok (.aload_n 0, 1) := by decide +kernel
theorem d_MQ_trigger_1 : decode b_MQ_trigger 1 = .ok (.iload_n 1, 1) := by decide +kernel
theorem d_MQ_trigger_2 : decode b_MQ_trigger 2 = .ok (.invokevirtual 39, 3) := by decide +kernel
theorem d_MQ_trigger_5 : decode b_MQ_trigger 5 = .ok (.ifCond .eq 14, 3) := by decide +kernel
theorem d_MQ_trigger_8 : decode b_MQ_trigger 8 = .ok (.iload_n 2, 1) := by decide +kernel
theorem d_MQ_trigger_9 : decode b_MQ_trigger 9 = .ok (.ifCond .lt 10, 3) := by decide +kernel
theorem d_MQ_trigger_12 : decode b_MQ_trigger 12 = .ok (.iload_n 2, 1) := by decide +kernel
theorem d_MQ_trigger_13 : decode b_MQ_trigger 13 = .ok (.sipush 4096, 3) := by decide +kernel
theorem d_MQ_trigger_16 : decode b_MQ_trigger 16 = .ok (.if_icmp .le 6, 3) := by decide +kernel
theorem d_MQ_trigger_19 : decode b_MQ_trigger 19 = .ok (.bipush (-2), 2) := by decide +kernel
theorem d_MQ_trigger_21 : decode b_MQ_trigger 21 = .ok (.ireturn, 1) := by decide +kernel
theorem d_MQ_trigger_22 : decode b_MQ_trigger 22 = .ok (.aload_n 0, 1) := by decide +kernel
theorem d_MQ_trigger_23 : decode b_MQ_trigger 23 = .ok (.getfield 24, 3) := by decide +kernel
theorem d_MQ_trigger_26 : decode b_MQ_trigger 26 = .ok (.iload_n 1, 1) := by decide +kernel
theorem d_MQ_trigger_27 : decode b_MQ_trigger 27 = .ok (.aaload, 1) := by decide +kernel
theorem d_MQ_trigger_28 : decode b_MQ_trigger 28 = .ok (.astore 4, 2) := by decide +kernel
theorem d_MQ_trigger_30 : decode b_MQ_trigger 30 = .ok (.aload 4, 2) := by decide +kernel
theorem d_MQ_trigger_32 : decode b_MQ_trigger 32 = .ok (.invokevirtual 79, 3) := by decide +kernel
theorem d_MQ_trigger_35 : decode b_MQ_trigger 35 = .ok (.ifCond .eq 6, 3) := by decide +kernel
theorem d_MQ_trigger_38 : decode b_MQ_trigger 38 = .ok (.bipush (-3), 2) := by decide +kernel
theorem d_MQ_trigger_40 : decode b_MQ_trigger 40 = .ok (.ireturn, 1) := by decide +kernel
theorem d_MQ_trigger_41 : decode b_MQ_trigger 41 = .ok (.aload 4, 2) := by decide +kernel
theorem d_MQ_trigger_43 : decode b_MQ_trigger 43 = .ok (.iload_n 2, 1) := by decide +kernel
theorem d_MQ_trigger_44 : decode b_MQ_trigger 44 = .ok (.ifCond .ne 7, 3) := by decide +kernel
theorem d_MQ_trigger_47 : decode b_MQ_trigger 47 = .ok (.aconst_null, 1) := by decide +kernel
theorem d_MQ_trigger_48 : decode b_MQ_trigger 48 = .ok (.goto 12, 3) := by decide +kernel
theorem d_MQ_trigger_51 : decode b_MQ_trigger 51 = .ok (.new 123, 3) := by decide +kernel
theorem d_MQ_trigger_54 : decode b_MQ_trigger 54 = .ok (.dup, 1) := by decide +kernel
theorem d_MQ_trigger_55 : decode b_MQ_trigger 55 = .ok (.iload_n 2, 1) := by decide +kernel
theorem d_MQ_trigger_56 : decode b_MQ_trigger 56 = .ok (.iload_n 3, 1) := by decide +kernel
theorem d_MQ_trigger_57 : decode b_MQ_trigger 57 = .ok (.invokespecial 125, 3) := by decide +kernel
theorem d_MQ_trigger_60 : decode b_MQ_trigger 60 = .ok (.putfield 128, 3) := by decide +kernel
theorem d_MQ_trigger_63 : decode b_MQ_trigger 63 = .ok (.aload_n 0, 1) := by decide +kernel
theorem d_MQ_trigger_64 : decode b_MQ_trigger 64 = .ok (.invokevirtual 69, 3) := by decide +kernel
theorem d_MQ_trigger_67 : decode b_MQ_trigger 67 = .ok (.iconst 1, 1) := by decide +kernel
theorem d_MQ_trigger_68 : decode b_MQ_trigger 68 = .ok (.ireturn, 1) := by decide +kernel
theorem d_MQ_started_0 : decode b_MQ_started 0 = .ok (.aload_n 0, 1) := by decide +kernel
theorem d_MQ_started_1 : decode b_MQ_started 1 = .ok (.iload_n 1, 1) := by decide +kernel
theorem d_MQ_started_2 : decode b_MQ_started 2 = .ok (.invokevirtual 132, 3) := by decide +kernel
theorem d_MQ_started_5 : decode b_MQ_started 5 = .ok (.ifCond .eq 22, 3) := by decide +kernel
theorem d_MQ_started_8 : decode b_MQ_started 8 = .ok (.aload_n 0, 1) := by decide +kernel
theorem d_MQ_started_9 : decode b_MQ_started 9 = .ok (.getfield 32, 3) := by decide +kernel
theorem d_MQ_started_12 : decode b_MQ_started 12 = .ok (.iload_n 1, 1) := by decide +kernel
theorem d_MQ_started_13 : decode b_MQ_started 13 = .ok (.iconst 1, 1) := by decide +kernel
theorem d_MQ_started_14 : decode b_MQ_started 14 = .ok (.isub, 1) := by decide +kernel
theorem d_MQ_started_15 : decode b_MQ_started 15 = .ok (.invokevirtual 90, 3) := by decide +kernel
theorem d_MQ_started_18 : decode b_MQ_started 18 = .ok (.checkcast 135, 3) := by decide +kernel
theorem d_MQ_started_21 : decode b_MQ_started 21 = .ok (.getfield 137, 3) := by decide +kernel
theorem d_MQ_started_24 : decode b_MQ_started 24 = .ok (.goto 4, 3) := by decide +kernel
theorem d_MQ_started_27 : decode b_MQ_started 27 = .ok (.iconst 0, 1) := by decide +kernel
theorem d_MQ_started_28 : decode b_MQ_started 28 = .ok (.ireturn, 1) := by decide +kernel
theorem d_MQ_isTask_0 : decode b_MQ_isTask 0 = .ok (.iload_n 1, 1) := by decide +kernel
theorem d_MQ_isTask_1 : decode b_MQ_isTask 1 = .ok (.iconst 1, 1) := by decide +kernel
theorem d_MQ_isTask_2 : decode b_MQ_isTask 2 = .ok (.if_icmp .lt 18, 3) := by decide +kernel
theorem d_MQ_isTask_5 : decode b_MQ_isTask 5 = .ok (.iload_n 1, 1) := by decide +kernel
theorem d_MQ_isTask_6 : decode b_MQ_isTask 6 = .ok (.aload_n 0, 1) := by decide +kernel
theorem d_MQ_isTask_7 : decode b_MQ_isTask 7 = .ok (.getfield 32, 3) := by decide +kernel
theorem d_MQ_isTask_10 : decode b_MQ_isTask 10 = .ok (.invokevirtual 151, 3) := by decide +kernel
theorem d_MQ_isTask_13 : decode b_MQ_isTask 13 = .ok (.if_icmp .gt 7, 3) := by decide +kernel
theorem d_MQ_isTask_16 : decode b_MQ_isTask 16 = .ok (.iconst 1, 1) := by decide +kernel
theorem d_MQ_isTask_17 : decode b_MQ_isTask 17 = .ok (.goto 4, 3) := by decide +kernel
theorem d_MQ_isTask_20 : decode b_MQ_isTask 20 = .ok (.iconst 0, 1) := by decide +kernel
theorem d_MQ_isTask_21 : decode b_MQ_isTask 21 = .ok (.ireturn, 1) := by decide +kernel
theorem d_MQ_end_0 : decode b_MQ_end 0 = .ok (.aload_n 0, 1) := by decide +kernel
theorem d_MQ_end_1 : decode b_MQ_end 1 = .ok (.iload_n 1, 1) := by decide +kernel
theorem d_MQ_end_2 : decode b_MQ_end 2 = .ok (.invokevirtual 132, 3) := by decide +kernel
theorem d_MQ_end_5 : decode b_MQ_end 5 = .ok (.ifCond .ne 6, 3) := by decide +kernel
theorem d_MQ_end_8 : decode b_MQ_end 8 = .ok (.bipush (-4), 2) := by decide +kernel
theorem d_MQ_end_10 : decode b_MQ_end 10 = .ok (.ireturn, 1) := by decide +kernel
theorem d_MQ_end_11 : decode b_MQ_end 11 = .ok (.aload_n 0, 1) := by decide +kernel
theorem d_MQ_end_12 : decode b_MQ_end 12 = .ok (.getfield 32, 3) := by decide +kernel
theorem d_MQ_end_15 : decode b_MQ_end 15 = .ok (.iload_n 1, 1) := by decide +kernel
theorem d_MQ_end_16 : decode b_MQ_end 16 = .ok (.iconst 1, 1) := by decide +kernel
theorem d_MQ_end_17 : decode b_MQ_end 17 = .ok (.isub, 1) := by decide +kernel
theorem d_MQ_end_18 : decode b_MQ_end 18 = .ok (.invokevirtual 90, 3) := by decide +kernel
theorem d_MQ_end_21 : decode b_MQ_end 21 = .ok (.checkcast 135, 3) := by decide +kernel
theorem d_MQ_end_24 : decode b_MQ_end 24 = .ok (.astore_n 2, 1) := by decide +kernel
theorem d_MQ_end_25 : decode b_MQ_end 25 = .ok (.aload_n 2, 1) := by decide +kernel
theorem d_MQ_end_26 : decode b_MQ_end 26 = .ok (.getfield 140, 3) := by decide +kernel
theorem d_MQ_end_29 : decode b_MQ_end 29 = .ok (.ifCond .ne 6, 3) := by decide +kernel
theorem d_MQ_end_32 : decode b_MQ_end 32 = .ok (.bipush (-4), 2) := by decide +kernel
theorem d_MQ_end_34 : decode b_MQ_end 34 = .ok (.ireturn, 1) := by decide +kernel
theorem d_MQ_end_35 : decode b_MQ_end 35 = .ok (.aload_n 2, 1) := by decide +kernel
theorem d_MQ_end_36 : decode b_MQ_end 36 = .ok (.iconst 0, 1) := by decide +kernel
theorem d_MQ_end_37 : decode b_MQ_end 37 = .ok (.putfield 140, 3) := by decide +kernel
theorem d_MQ_end_40 : decode b_MQ_end 40 = .ok (.aload_n 0, 1) := by decide +kernel
theorem d_MQ_end_41 : decode b_MQ_end 41 = .ok (.dup, 1) := by decide +kernel
theorem d_MQ_end_42 : decode b_MQ_end 42 = .ok (.getfield 144, 3) := by decide +kernel
theorem d_MQ_end_45 : decode b_MQ_end 45 = .ok (.iconst 1, 1) := by decide +kernel
theorem d_MQ_end_46 : decode b_MQ_end 46 = .ok (.isub, 1) := by decide +kernel
theorem d_MQ_end_47 : decode b_MQ_end 47 = .ok (.putfield 144, 3) := by decide +kernel
theorem d_MQ_end_50 : decode b_MQ_end 50 = .ok (.aload_n 0, 1) := by decide +kernel
theorem d_MQ_end_51 : decode b_MQ_end 51 = .ok (.iload_n 1, 1) := by decide +kernel
theorem d_MQ_end_52 : decode b_MQ_end 52 = .ok (.invokevirtual 147, 3) := by decide +kernel
theorem d_MQ_end_55 : decode b_MQ_end 55 = .ok (.istore_n 3, 1) := by decide +kernel
theorem d_MQ_end_56 : decode b_MQ_end 56 = .ok (.aload_n 0, 1) := by decide +kernel
theorem d_MQ_end_57 : decode b_MQ_end 57 = .ok (.invokevirtual 69, 3) := by decide +kernel
theorem d_MQ_end_60 : decode b_MQ_end 60 = .ok (.iload_n 3, 1) := by decide +kernel
theorem d_MQ_end_61 : decode b_MQ_end 61 = .ok (.ireturn, 1) := by decide +kernel
theorem d_MQ_beginAgain_0 : decode b_MQ_beginAgain 0 = .ok (.iconst 0, 1) := by decide +kernel
theorem d_MQ_beginAgain_1 : decode b_MQ_beginAgain 1 = .ok (.istore_n 2, 1) := by decide +kernel
theorem d_MQ_beginAgain_2 : decode b_MQ_beginAgain 2 = .ok (.iload_n 2, 1) := by decide +kernel
theorem d_MQ_beginAgain_3 : decode b_MQ_beginAgain 3 = .ok (.aload_n 0, 1) := by decide +kernel
theorem d_MQ_beginAgain_4 : decode b_MQ_beginAgain 4 = .ok (.getfield 24, 3) := by decide +kernel
theorem d_MQ_beginAgain_7 : decode b_MQ_beginAgain 7 = .ok (.arraylength, 1) := by decide +kernel
theorem d_MQ_beginAgain_8 : decode b_MQ_beginAgain 8 = .ok (.if_icmp .ge 77, 3) := by decide +kernel
theorem d_MQ_beginAgain_11 : decode b_MQ_beginAgain 11 = .ok (.aload_n 0, 1) := by decide +kernel
theorem d_MQ_beginAgain_12 : decode b_MQ_beginAgain 12 = .ok (.getfield 24, 3) := by decide +kernel
theorem d_MQ_beginAgain_15 : decode b_MQ_beginAgain 15 = .ok (.iload_n 2, 1) := by decide +kernel
theorem d_MQ_beginAgain_16 : decode b_MQ_beginAgain 16 = .ok (.aaload, 1) := by decide +kernel
theorem d_MQ_beginAgain_17 : decode b_MQ_beginAgain 17 = .ok (.getfield 128, 3) := by decide +kernel
theorem d_MQ_beginAgain_20 : decode b_MQ_beginAgain 20 = .ok (.astore_n 3, 1) := by decide +kernel
theorem d_MQ_beginAgain_21 : decode b_MQ_beginAgain 21 = .ok (.aload_n 3, 1) := by decide +kernel
theorem d_MQ_beginAgain_22 : decode b_MQ_beginAgain 22 = .ok (.ifnull 57, 3) := by decide +kernel
theorem d_MQ_beginAgain_25 : decode b_MQ_beginAgain 25 = .ok (.aload_n 3, 1) := by decide +kernel
theorem d_MQ_beginAgain_26 : decode b_MQ_beginAgain 26 = .ok (.getfield 199, 3) := by decide +kernel
theorem d_MQ_beginAgain_29 : decode b_MQ_beginAgain 29 = .ok (.iload_n 1, 1) := by decide +kernel
theorem d_MQ_beginAgain_30 : decode b_MQ_beginAgain 30 = .ok (.if_icmp .ne 49, 3) := by decide +kernel
theorem d_MQ_beginAgain_33 : decode b_MQ_beginAgain 33 = .ok (.aload_n 3, 1) := by decide +kernel
theorem d_MQ_beginAgain_34 : decode b_MQ_beginAgain 34 = .ok (.iconst 0, 1) := by decide +kernel
theorem d_MQ_beginAgain_35 : decode b_MQ_beginAgain 35 = .ok (.putfield 199, 3) := by decide +kernel
theorem d_MQ_beginAgain_38 : decode b_MQ_beginAgain 38 = .ok (.aload_n 3, 1) := by decide +kernel
theorem d_MQ_beginAgain_39 : decode b_MQ_beginAgain 39 = .ok (.getfield 202, 3) := by decide +kernel
theorem d_MQ_beginAgain_42 : decode b_MQ_beginAgain 42 = .ok (.ifCond .ne 19, 3) := by decide +kernel
theorem d_MQ_beginAgain_45 : decode b_MQ_beginAgain 45 = .ok (.aload_n 0, 1) := by decide +kernel
theorem d_MQ_beginAgain_46 : decode b_MQ_beginAgain 46 = .ok (.getfield 24, 3) := by decide +kernel
theorem d_MQ_beginAgain_49 : decode b_MQ_beginAgain 49 = .ok (.iload_n 2, 1) := by decide +kernel
theorem d_MQ_beginAgain_50 : decode b_MQ_beginAgain 50 = .ok (.aaload, 1) := by decide +kernel
theorem d_MQ_beginAgain_51 : decode b_MQ_beginAgain 51 = .ok (.invokevirtual 117, 3) := by decide +kernel
theorem d_MQ_beginAgain_54 : decode b_MQ_beginAgain 54 = .ok (.ifCond .le 7, 3) := by decide +kernel
theorem d_MQ_beginAgain_57 : decode b_MQ_beginAgain 57 = .ok (.iconst 1, 1) := by decide +kernel
theorem d_MQ_beginAgain_58 : decode b_MQ_beginAgain 58 = .ok (.goto 4, 3) := by decide +kernel
theorem d_MQ_beginAgain_61 : decode b_MQ_beginAgain 61 = .ok (.iconst 0, 1) := by decide +kernel
theorem d_MQ_beginAgain_62 : decode b_MQ_beginAgain 62 = .ok (.istore 4, 2) := by decide +kernel
theorem d_MQ_beginAgain_64 : decode b_MQ_beginAgain 64 = .ok (.iload 4, 2) := by decide +kernel
theorem d_MQ_beginAgain_66 : decode b_MQ_beginAgain 66 = .ok (.ifCond .eq 11, 3) := by decide +kernel
theorem d_MQ_beginAgain_69 : decode b_MQ_beginAgain 69 = .ok (.aload_n 0, 1) := by decide +kernel
theorem d_MQ_beginAgain_70 : decode b_MQ_beginAgain 70 = .ok (.aload_n 3, 1) := by decide +kernel
theorem d_MQ_beginAgain_71 : decode b_MQ_beginAgain 71 = .ok (.invokevirtual 215, 3) := by decide +kernel
theorem d_MQ_beginAgain_74 : decode b_MQ_beginAgain 74 = .ok (.goto 4, 3) := by decide +kernel
theorem d_MQ_beginAgain_77 : decode b_MQ_beginAgain 77 = .ok (.iconst 0, 1) := by decide +kernel
theorem d_MQ_beginAgain_78 : decode b_MQ_beginAgain 78 = .ok (.ireturn, 1) := by decide +kernel
theorem d_MQ_beginAgain_79 : decode b_MQ_beginAgain 79 = .ok (.iinc 2 1, 3) := by decide +kernel
theorem d_MQ_beginAgain_82 : decode b_MQ_beginAgain 82 = .ok (.goto (-80), 3) := by decide +kernel
theorem d_MQ_beginAgain_85 : decode b_MQ_beginAgain 85 = .ok (.iconst 0, 1) := by decide +kernel
theorem d_MQ_beginAgain_86 : decode b_MQ_beginAgain 86 = .ok (.ireturn, 1) := by decide +kernel
theorem d_MQ_rewrite_0 : decode b_MQ_rewrite 0 = .ok (.aload_n 0, 1) := by decide +kernel
theorem d_MQ_rewrite_1 : decode b_MQ_rewrite 1 = .ok (.iload_n 1, 1) := by decide +kernel
theorem d_MQ_rewrite_2 : decode b_MQ_rewrite 2 = .ok (.invokevirtual 39, 3) := by decide +kernel
theorem d_MQ_rewrite_5 : decode b_MQ_rewrite 5 = .ok (.ifCond .ne 6, 3) := by decide +kernel
theorem d_MQ_rewrite_8 : decode b_MQ_rewrite 8 = .ok (.bipush (-2), 2) := by decide +kernel
theorem d_MQ_rewrite_10 : decode b_MQ_rewrite 10 = .ok (.ireturn, 1) := by decide +kernel
theorem d_MQ_rewrite_11 : decode b_MQ_rewrite 11 = .ok (.aload_n 0, 1) := by decide +kernel
theorem d_MQ_rewrite_12 : decode b_MQ_rewrite 12 = .ok (.getfield 24, 3) := by decide +kernel
theorem d_MQ_rewrite_15 : decode b_MQ_rewrite 15 = .ok (.iload_n 1, 1) := by decide +kernel
theorem d_MQ_rewrite_16 : decode b_MQ_rewrite 16 = .ok (.aaload, 1) := by decide +kernel
theorem d_MQ_rewrite_17 : decode b_MQ_rewrite 17 = .ok (.astore 5, 2) := by decide +kernel
theorem d_MQ_rewrite_19 : decode b_MQ_rewrite 19 = .ok (.aload 5, 2) := by decide +kernel
theorem d_MQ_rewrite_21 : decode b_MQ_rewrite 21 = .ok (.invokevirtual 107, 3) := by decide +kernel
theorem d_MQ_rewrite_24 : decode b_MQ_rewrite 24 = .ok (.ifCond .eq 6, 3) := by decide +kernel
theorem d_MQ_rewrite_27 : decode b_MQ_rewrite 27 = .ok (.bipush (-3), 2) := by decide +kernel
theorem d_MQ_rewrite_29 : decode b_MQ_rewrite 29 = .ok (.ireturn, 1) := by decide +kernel
theorem d_MQ_rewrite_30 : decode b_MQ_rewrite 30 = .ok (.aload 5, 2) := by decide +kernel
theorem d_MQ_rewrite_32 : decode b_MQ_rewrite 32 = .ok (.iload_n 2, 1) := by decide +kernel
theorem d_MQ_rewrite_33 : decode b_MQ_rewrite 33 = .ok (.invokevirtual 82, 3) := by decide +kernel
theorem d_MQ_rewrite_36 : decode b_MQ_rewrite 36 = .ok (.ifCond .ne 6, 3) := by decide +kernel
theorem d_MQ_rewrite_39 : decode b_MQ_rewrite 39 = .ok (.bipush (-4), 2) := by decide +kernel
theorem d_MQ_rewrite_41 : decode b_MQ_rewrite 41 = .ok (.ireturn, 1) := by decide +kernel
theorem d_MQ_rewrite_42 : decode b_MQ_rewrite 42 = .ok (.aload 5, 2) := by decide +kernel
theorem d_MQ_rewrite_44 : decode b_MQ_rewrite 44 = .ok (.getfield 87, 3) := by decide +kernel
theorem d_MQ_rewrite_47 : decode b_MQ_rewrite 47 = .ok (.iload_n 2, 1) := by decide +kernel
theorem d_MQ_rewrite_48 : decode b_MQ_rewrite 48 = .ok (.iconst 1, 1) := by decide +kernel
theorem d_MQ_rewrite_49 : decode b_MQ_rewrite 49 = .ok (.isub, 1) := by decide +kernel
theorem d_MQ_rewrite_50 : decode b_MQ_rewrite 50 = .ok (.invokevirtual 90, 3) := by decide +kernel
theorem d_MQ_rewrite_53 : decode b_MQ_rewrite 53 = .ok (.checkcast 94, 3) := by decide +kernel
theorem d_MQ_rewrite_56 : decode b_MQ_rewrite 56 = .ok (.lload_n 3, 1) := by decide +kernel
theorem d_MQ_rewrite_57 : decode b_MQ_rewrite 57 = .ok (.putfield 96, 3) := by decide +kernel
theorem d_MQ_rewrite_60 : decode b_MQ_rewrite 60 = .ok (.aload 5, 2) := by decide +kernel
theorem d_MQ_rewrite_62 : decode b_MQ_rewrite 62 = .ok (.aload_n 0, 1) := by decide +kernel
theorem d_MQ_rewrite_63 : decode b_MQ_rewrite 63 = .ok (.getfield 57, 3) := by decide +kernel
theorem d_MQ_rewrite_66 : decode b_MQ_rewrite 66 = .ok (.invokevirtual 61, 3) := by decide +kernel
theorem d_MQ_rewrite_69 : decode b_MQ_rewrite 69 = .ok (.iconst 1, 1) := by decide +kernel
theorem d_MQ_rewrite_70 : decode b_MQ_rewrite 70 = .ok (.ireturn, 1) := by decide +kernel
theorem d_MQ_delay_0 : decode b_MQ_delay 0 = .ok (.aload_n 0, 1) := by decide +kernel
theorem d_MQ_delay_1 : decode b_MQ_delay 1 = .ok (.getfield 36, 3) := by decide +kernel
theorem d_MQ_delay_4 : decode b_MQ_delay 4 = .ok (.invokevirtual 151, 3) := by decide +kernel
theorem d_MQ_delay_7 : decode b_MQ_delay 7 = .ok (.sipush 200, 3) := by decide +kernel
theorem d_MQ_delay_10 : decode b_MQ_delay 10 = .ok (.if_icmp .lt 5, 3) := by decide +kernel
theorem d_MQ_delay_13 : decode b_MQ_delay 13 = .ok (.iconst (-1), 1) := by decide +kernel
theorem d_MQ_delay_14 : decode b_MQ_delay 14 = .ok (.ireturn, 1) := by decide +kernel
theorem d_MQ_delay_15 : decode b_MQ_delay 15 = .ok (.aload_n 0, 1) := by decide +kernel
theorem d_MQ_delay_16 : decode b_MQ_delay 16 = .ok (.dup, 1) := by decide +kernel
theorem d_MQ_delay_17 : decode b_MQ_delay 17 = .ok (.getfield 154, 3) := by decide +kernel
theorem d_MQ_delay_20 : decode b_MQ_delay 20 = .ok (.iconst 1, 1) := by decide +kernel
theorem d_MQ_delay_21 : decode b_MQ_delay 21 = .ok (.iadd, 1) := by decide +kernel
theorem d_MQ_delay_22 : decode b_MQ_delay 22 = .ok (.putfield 154, 3) := by decide +kernel
theorem d_MQ_delay_25 : decode b_MQ_delay 25 = .ok (.aload_n 0, 1) := by decide +kernel
theorem d_MQ_delay_26 : decode b_MQ_delay 26 = .ok (.new 157, 3) := by decide +kernel
theorem d_MQ_delay_29 : decode b_MQ_delay 29 = .ok (.dup, 1) := by decide +kernel
theorem d_MQ_delay_30 : decode b_MQ_delay 30 = .ok (.aload_n 0, 1) := by decide +kernel
theorem d_MQ_delay_31 : decode b_MQ_delay 31 = .ok (.getfield 154, 3) := by decide +kernel
theorem d_MQ_delay_34 : decode b_MQ_delay 34 = .ok (.iload_n 1, 1) := by decide +kernel
theorem d_MQ_delay_35 : decode b_MQ_delay 35 = .ok (.lload_n 2, 1) := by decide +kernel
theorem d_MQ_delay_36 : decode b_MQ_delay 36 = .ok (.invokespecial 159, 3) := by decide +kernel
theorem d_MQ_delay_39 : decode b_MQ_delay 39 = .ok (.invokevirtual 162, 3) := by decide +kernel
theorem d_MQ_delay_42 : decode b_MQ_delay 42 = .ok (.aload_n 0, 1) := by decide +kernel
theorem d_MQ_delay_43 : decode b_MQ_delay 43 = .ok (.invokevirtual 166, 3) := by decide +kernel
theorem d_MQ_delay_46 : decode b_MQ_delay 46 = .ok (.pop, 1) := by decide +kernel
theorem d_MQ_delay_47 : decode b_MQ_delay 47 = .ok (.aload_n 0, 1) := by decide +kernel
theorem d_MQ_delay_48 : decode b_MQ_delay 48 = .ok (.getfield 154, 3) := by decide +kernel
theorem d_MQ_delay_51 : decode b_MQ_delay 51 = .ok (.ireturn, 1) := by decide +kernel
theorem d_MQ_keepWaiting_0 : decode b_MQ_keepWaiting 0 = .ok (.aload_n 0, 1) := by decide +kernel
theorem d_MQ_keepWaiting_1 : decode b_MQ_keepWaiting 1 = .ok (.getfield 36, 3) := by decide +kernel
theorem d_MQ_keepWaiting_4 : decode b_MQ_keepWaiting 4 = .ok (.invokevirtual 151, 3) := by decide +kernel
theorem d_MQ_keepWaiting_7 : decode b_MQ_keepWaiting 7 = .ok (.istore_n 2, 1) := by decide +kernel
theorem d_MQ_keepWaiting_8 : decode b_MQ_keepWaiting 8 = .ok (.iload_n 2, 1) := by decide +kernel
theorem d_MQ_keepWaiting_9 : decode b_MQ_keepWaiting 9 = .ok (.ifCond .le 33, 3) := by decide +kernel
theorem d_MQ_keepWaiting_12 : decode b_MQ_keepWaiting 12 = .ok (.aload_n 0, 1) := by decide +kernel
theorem d_MQ_keepWaiting_13 : decode b_MQ_keepWaiting 13 = .ok (.getfield 36, 3) := by decide +kernel
theorem d_MQ_keepWaiting_16 : decode b_MQ_keepWaiting 16 = .ok (.iload_n 2, 1) := by decide +kernel
theorem d_MQ_keepWaiting_17 : decode b_MQ_keepWaiting 17 = .ok (.iconst 1, 1) := by decide +kernel
theorem d_MQ_keepWaiting_18 : decode b_MQ_keepWaiting 18 = .ok (.isub, 1) := by decide +kernel
theorem d_MQ_keepWaiting_19 : decode b_MQ_keepWaiting 19 = .ok (.invokevirtual 90, 3) := by decide +kernel
theorem d_MQ_keepWaiting_22 : decode b_MQ_keepWaiting 22 = .ok (.checkcast 157, 3) := by decide +kernel
theorem d_MQ_keepWaiting_25 : decode b_MQ_keepWaiting 25 = .ok (.getfield 219, 3) := by decide +kernel
theorem d_MQ_keepWaiting_28 : decode b_MQ_keepWaiting 28 = .ok (.aload_n 1, 1) := by decide +kernel
theorem d_MQ_keepWaiting_29 : decode b_MQ_keepWaiting 29 = .ok (.getfield 219, 3) := by decide +kernel
theorem d_MQ_keepWaiting_32 : decode b_MQ_keepWaiting 32 = .ok (.lcmp, 1) := by decide +kernel
theorem d_MQ_keepWaiting_33 : decode b_MQ_keepWaiting 33 = .ok (.ifCond .le 9, 3) := by decide +kernel
theorem d_MQ_keepWaiting_36 : decode b_MQ_keepWaiting 36 = .ok (.iinc 2 (-1), 3) := by decide +kernel
theorem d_MQ_keepWaiting_39 : decode b_MQ_keepWaiting 39 = .ok (.goto (-31), 3) := by decide +kernel
theorem d_MQ_keepWaiting_42 : decode b_MQ_keepWaiting 42 = .ok (.aload_n 0, 1) := by decide +kernel
theorem d_MQ_keepWaiting_43 : decode b_MQ_keepWaiting 43 = .ok (.getfield 36, 3) := by decide +kernel
theorem d_MQ_keepWaiting_46 : decode b_MQ_keepWaiting 46 = .ok (.iload_n 2, 1) := by decide +kernel
theorem d_MQ_keepWaiting_47 : decode b_MQ_keepWaiting 47 = .ok (.aload_n 1, 1) := by decide +kernel
theorem d_MQ_keepWaiting_48 : decode b_MQ_keepWaiting 48 = .ok (.invokevirtual 222, 3) := by decide +kernel
theorem d_MQ_keepWaiting_51 : decode b_MQ_keepWaiting 51 = .ok (.return_, 1) := by decide +kernel
theorem d_MQ_postDue_0 : decode b_MQ_postDue 0 = .ok (.iconst 0, 1) := by decide +kernel
theorem d_MQ_postDue_1 : decode b_MQ_postDue 1 = .ok (.istore_n 1, 1) := by decide +kernel
theorem d_MQ_postDue_2 : decode b_MQ_postDue 2 = .ok (.iload_n 1, 1) := by decide +kernel
theorem d_MQ_postDue_3 : decode b_MQ_postDue 3 = .ok (.sipush 200, 3) := by decide +kernel
theorem d_MQ_postDue_6 : decode b_MQ_postDue 6 = .ok (.if_icmp .ge 60, 3) := by decide +kernel
theorem d_MQ_postDue_9 : decode b_MQ_postDue 9 = .ok (.aload_n 0, 1) := by decide +kernel
theorem d_MQ_postDue_10 : decode b_MQ_postDue 10 = .ok (.getfield 36, 3) := by decide +kernel
theorem d_MQ_postDue_13 : decode b_MQ_postDue 13 = .ok (.invokevirtual 114, 3) := by decide +kernel
theorem d_MQ_postDue_16 : decode b_MQ_postDue 16 = .ok (.ifCond .ne 50, 3) := by decide +kernel
theorem d_MQ_postDue_19 : decode b_MQ_postDue 19 = .ok (.aload_n 0, 1) := by decide +kernel
theorem d_MQ_postDue_20 : decode b_MQ_postDue 20 = .ok (.getfield 36, 3) := by decide +kernel
theorem d_MQ_postDue_23 : decode b_MQ_postDue 23 = .ok (.iconst 0, 1) := by decide +kernel
theorem d_MQ_postDue_24 : decode b_MQ_postDue 24 = .ok (.invokevirtual 90, 3) := by decide +kernel
theorem d_MQ_postDue_27 : decode b_MQ_postDue 27 = .ok (.checkcast 157, 3) := by decide +kernel
theorem d_MQ_postDue_30 : decode b_MQ_postDue 30 = .ok (.getfield 219, 3) := by decide +kernel
theorem d_MQ_postDue_33 : decode b_MQ_postDue 33 = .ok (.aload_n 0, 1) := by decide +kernel
theorem d_MQ_postDue_34 : decode b_MQ_postDue 34 = .ok (.getfield 57, 3) := by decide +kernel
theorem d_MQ_postDue_37 : decode b_MQ_postDue 37 = .ok (.lcmp, 1) := by decide +kernel
theorem d_MQ_postDue_38 : decode b_MQ_postDue 38 = .ok (.ifCond .gt 28, 3) := by decide +kernel
theorem d_MQ_postDue_41 : decode b_MQ_postDue 41 = .ok (.aload_n 0, 1) := by decide +kernel
theorem d_MQ_postDue_42 : decode b_MQ_postDue 42 = .ok (.aload_n 0, 1) := by decide +kernel
theorem d_MQ_postDue_43 : decode b_MQ_postDue 43 = .ok (.getfield 36, 3) := by decide +kernel
theorem d_MQ_postDue_46 : decode b_MQ_postDue 46 = .ok (.iconst 0, 1) := by decide +kernel
theorem d_MQ_postDue_47 : decode b_MQ_postDue 47 = .ok (.invokevirtual 172, 3) := by decide +kernel
theorem d_MQ_postDue_50 : decode b_MQ_postDue 50 = .ok (.checkcast 157, 3) := by decide +kernel
theorem d_MQ_postDue_53 : decode b_MQ_postDue 53 = .ok (.getfield 225, 3) := by decide +kernel
theorem d_MQ_postDue_56 : decode b_MQ_postDue 56 = .ok (.invokevirtual 196, 3) := by decide +kernel
theorem d_MQ_postDue_59 : decode b_MQ_postDue 59 = .ok (.pop, 1) := by decide +kernel
theorem d_MQ_postDue_60 : decode b_MQ_postDue 60 = .ok (.iinc 1 1, 3) := by decide +kernel
theorem d_MQ_postDue_63 : decode b_MQ_postDue 63 = .ok (.goto (-61), 3) := by decide +kernel
theorem d_MQ_postDue_66 : decode b_MQ_postDue 66 = .ok (.iload_n 1, 1) := by decide +kernel
theorem d_MQ_postDue_67 : decode b_MQ_postDue 67 = .ok (.ireturn, 1) := by decide +kernel
theorem d_MQ_cancel_0 : decode b_MQ_cancel 0 = .ok (.iconst 0, 1) := by decide +kernel
theorem d_MQ_cancel_1 : decode b_MQ_cancel 1 = .ok (.istore_n 2, 1) := by decide +kernel
theorem d_MQ_cancel_2 : decode b_MQ_cancel 2 = .ok (.iload_n 2, 1) := by decide +kernel
theorem d_MQ_cancel_3 : decode b_MQ_cancel 3 = .ok (.aload_n 0, 1) := by decide +kernel
theorem d_MQ_cancel_4 : decode b_MQ_cancel 4 = .ok (.getfield 36, 3) := by decide +kernel
theorem d_MQ_cancel_7 : decode b_MQ_cancel 7 = .ok (.invokevirtual 151, 3) := by decide +kernel
theorem d_MQ_cancel_10 : decode b_MQ_cancel 10 = .ok (.if_icmp .ge 38, 3) := by decide +kernel
theorem d_MQ_cancel_13 : decode b_MQ_cancel 13 = .ok (.aload_n 0, 1) := by decide +kernel
theorem d_MQ_cancel_14 : decode b_MQ_cancel 14 = .ok (.getfield 36, 3) := by decide +kernel
theorem d_MQ_cancel_17 : decode b_MQ_cancel 17 = .ok (.iload_n 2, 1) := by decide +kernel
theorem d_MQ_cancel_18 : decode b_MQ_cancel 18 = .ok (.invokevirtual 90, 3) := by decide +kernel
theorem d_MQ_cancel_21 : decode b_MQ_cancel 21 = .ok (.checkcast 157, 3) := by decide +kernel
theorem d_MQ_cancel_24 : decode b_MQ_cancel 24 = .ok (.getfield 169, 3) := by decide +kernel
theorem d_MQ_cancel_27 : decode b_MQ_cancel 27 = .ok (.iload_n 1, 1) := by decide +kernel
theorem d_MQ_cancel_28 : decode b_MQ_cancel 28 = .ok (.if_icmp .ne 14, 3) := by decide +kernel
theorem d_MQ_cancel_31 : decode b_MQ_cancel 31 = .ok (.aload_n 0, 1) := by decide +kernel
theorem d_MQ_cancel_32 : decode b_MQ_cancel 32 = .ok (.getfield 36, 3) := by decide +kernel
theorem d_MQ_cancel_35 : decode b_MQ_cancel 35 = .ok (.iload_n 2, 1) := by decide +kernel
theorem d_MQ_cancel_36 : decode b_MQ_cancel 36 = .ok (.invokevirtual 172, 3) := by decide +kernel
theorem d_MQ_cancel_39 : decode b_MQ_cancel 39 = .ok (.pop, 1) := by decide +kernel
theorem d_MQ_cancel_40 : decode b_MQ_cancel 40 = .ok (.iconst 1, 1) := by decide +kernel
theorem d_MQ_cancel_41 : decode b_MQ_cancel 41 = .ok (.ireturn, 1) := by decide +kernel
theorem d_MQ_cancel_42 : decode b_MQ_cancel 42 = .ok (.iinc 2 1, 3) := by decide +kernel
theorem d_MQ_cancel_45 : decode b_MQ_cancel 45 = .ok (.goto (-43), 3) := by decide +kernel
theorem d_MQ_cancel_48 : decode b_MQ_cancel 48 = .ok (.iconst 0, 1) := by decide +kernel
theorem d_MQ_cancel_49 : decode b_MQ_cancel 49 = .ok (.ireturn, 1) := by decide +kernel
theorem d_MQ_tick_0 : decode b_MQ_tick 0 = .ok (.lload_n 1, 1) := by decide +kernel
theorem d_MQ_tick_1 : decode b_MQ_tick 1 = .ok (.aload_n 0, 1) := by decide +kernel
theorem d_MQ_tick_2 : decode b_MQ_tick 2 = .ok (.getfield 57, 3) := by decide +kernel
theorem d_MQ_tick_5 : decode b_MQ_tick 5 = .ok (.lcmp, 1) := by decide +kernel
theorem d_MQ_tick_6 : decode b_MQ_tick 6 = .ok (.ifCond .ge 5, 3) := by decide +kernel
theorem d_MQ_tick_9 : decode b_MQ_tick 9 = .ok (.iconst (-1), 1) := by decide +kernel
theorem d_MQ_tick_10 : decode b_MQ_tick 10 = .ok (.ireturn, 1) := by decide +kernel
theorem d_MQ_tick_11 : decode b_MQ_tick 11 = .ok (.aload_n 0, 1) := by decide +kernel
theorem d_MQ_tick_12 : decode b_MQ_tick 12 = .ok (.lload_n 1, 1) := by decide +kernel
theorem d_MQ_tick_13 : decode b_MQ_tick 13 = .ok (.putfield 57, 3) := by decide +kernel
theorem d_MQ_tick_16 : decode b_MQ_tick 16 = .ok (.aload_n 0, 1) := by decide +kernel
theorem d_MQ_tick_17 : decode b_MQ_tick 17 = .ok (.invokevirtual 166, 3) := by decide +kernel
theorem d_MQ_tick_20 : decode b_MQ_tick 20 = .ok (.ireturn, 1) := by decide +kernel
theorem d_MQ_unit_0 : decode b_MQ_unit 0 = .ok (.iload_n 1, 1) := by decide +kernel
theorem d_MQ_unit_1 : decode b_MQ_unit 1 = .ok (.ifCond .le 9, 3) := by decide +kernel
theorem d_MQ_unit_4 : decode b_MQ_unit 4 = .ok (.iload_n 1, 1) := by decide +kernel
theorem d_MQ_unit_5 : decode b_MQ_unit 5 = .ok (.bipush 9, 2) := by decide +kernel
theorem d_MQ_unit_7 : decode b_MQ_unit 7 = .ok (.if_icmp .le 6, 3) := by decide +kernel
theorem d_MQ_unit_10 : decode b_MQ_unit 10 = .ok (.bipush (-2), 2) := by decide +kernel
theorem d_MQ_unit_12 : decode b_MQ_unit 12 = .ok (.ireturn, 1) := by decide +kernel
theorem d_MQ_unit_13 : decode b_MQ_unit 13 = .ok (.iconst 0, 1) := by decide +kernel
theorem d_MQ_unit_14 : decode b_MQ_unit 14 = .ok (.istore_n 3, 1) := by decide +kernel
theorem d_MQ_unit_15 : decode b_MQ_unit 15 = .ok (.iconst 0, 1) := by decide +kernel
theorem d_MQ_unit_16 : decode b_MQ_unit 16 = .ok (.istore 4, 2) := by decide +kernel
theorem d_MQ_unit_18 : decode b_MQ_unit 18 = .ok (.iload 4, 2) := by decide +kernel
theorem d_MQ_unit_20 : decode b_MQ_unit 20 = .ok (.aload_n 0, 1) := by decide +kernel
theorem d_MQ_unit_21 : decode b_MQ_unit 21 = .ok (.getfield 24, 3) := by decide +kernel
theorem d_MQ_unit_24 : decode b_MQ_unit 24 = .ok (.arraylength, 1) := by decide +kernel
theorem d_MQ_unit_25 : decode b_MQ_unit 25 = .ok (.if_icmp .ge 44, 3) := by decide +kernel
theorem d_MQ_unit_28 : decode b_MQ_unit 28 = .ok (.aload_n 0, 1) := by decide +kernel
theorem d_MQ_unit_29 : decode b_MQ_unit 29 = .ok (.getfield 24, 3) := by decide +kernel
theorem d_MQ_unit_32 : decode b_MQ_unit 32 = .ok (.iload 4, 2) := by decide +kernel
theorem d_MQ_unit_34 : decode b_MQ_unit 34 = .ok (.aaload, 1) := by decide +kernel
theorem d_MQ_unit_35 : decode b_MQ_unit 35 = .ok (.astore 5, 2) := by decide +kernel
theorem d_MQ_unit_37 : decode b_MQ_unit 37 = .ok (.aload 5, 2) := by decide +kernel
theorem d_MQ_unit_39 : decode b_MQ_unit 39 = .ok (.invokevirtual 46, 3) := by decide +kernel
theorem d_MQ_unit_42 : decode b_MQ_unit 42 = .ok (.ifCond .eq 21, 3) := by decide +kernel
theorem d_MQ_unit_45 : decode b_MQ_unit 45 = .ok (.aload 5, 2) := by decide +kernel
theorem d_MQ_unit_47 : decode b_MQ_unit 47 = .ok (.getfield 50, 3) := by decide +kernel
theorem d_MQ_unit_50 : decode b_MQ_unit 50 = .ok (.iload_n 1, 1) := by decide +kernel
theorem d_MQ_unit_51 : decode b_MQ_unit 51 = .ok (.if_icmp .ne 12, 3) := by decide +kernel
theorem d_MQ_unit_54 : decode b_MQ_unit 54 = .ok (.iload_n 3, 1) := by decide +kernel
theorem d_MQ_unit_55 : decode b_MQ_unit 55 = .ok (.aload 5, 2) := by decide +kernel
theorem d_MQ_unit_57 : decode b_MQ_unit 57 = .ok (.iload_n 2, 1) := by decide +kernel
theorem d_MQ_unit_58 : decode b_MQ_unit 58 = .ok (.invokevirtual 175, 3) := by decide +kernel
theorem d_MQ_unit_61 : decode b_MQ_unit 61 = .ok (.iadd, 1) := by decide +kernel
theorem d_MQ_unit_62 : decode b_MQ_unit 62 = .ok (.istore_n 3, 1) := by decide +kernel
theorem d_MQ_unit_63 : decode b_MQ_unit 63 = .ok (.iinc 4 1, 3) := by decide +kernel
theorem d_MQ_unit_66 : decode b_MQ_unit 66 = .ok (.goto (-48), 3) := by decide +kernel
theorem d_MQ_unit_69 : decode b_MQ_unit 69 = .ok (.aload_n 0, 1) := by decide +kernel
theorem d_MQ_unit_70 : decode b_MQ_unit 70 = .ok (.invokevirtual 69, 3) := by decide +kernel
theorem d_MQ_unit_73 : decode b_MQ_unit 73 = .ok (.iload_n 3, 1) := by decide +kernel
theorem d_MQ_unit_74 : decode b_MQ_unit 74 = .ok (.ireturn, 1) := by decide +kernel
theorem d_MQ_age_0 : decode b_MQ_age 0 = .ok (.iconst 0, 1) := by decide +kernel
theorem d_MQ_age_1 : decode b_MQ_age 1 = .ok (.istore_n 3, 1) := by decide +kernel
theorem d_MQ_age_2 : decode b_MQ_age 2 = .ok (.iconst 0, 1) := by decide +kernel
theorem d_MQ_age_3 : decode b_MQ_age 3 = .ok (.istore 4, 2) := by decide +kernel
theorem d_MQ_age_5 : decode b_MQ_age 5 = .ok (.iload 4, 2) := by decide +kernel
theorem d_MQ_age_7 : decode b_MQ_age 7 = .ok (.aload_n 0, 1) := by decide +kernel
theorem d_MQ_age_8 : decode b_MQ_age 8 = .ok (.getfield 24, 3) := by decide +kernel
theorem d_MQ_age_11 : decode b_MQ_age 11 = .ok (.arraylength, 1) := by decide +kernel
theorem d_MQ_age_12 : decode b_MQ_age 12 = .ok (.if_icmp .ge 52, 3) := by decide +kernel
theorem d_MQ_age_15 : decode b_MQ_age 15 = .ok (.aload_n 0, 1) := by decide +kernel
theorem d_MQ_age_16 : decode b_MQ_age 16 = .ok (.getfield 24, 3) := by decide +kernel
theorem d_MQ_age_19 : decode b_MQ_age 19 = .ok (.iload 4, 2) := by decide +kernel
theorem d_MQ_age_21 : decode b_MQ_age 21 = .ok (.aaload, 1) := by decide +kernel
theorem d_MQ_age_22 : decode b_MQ_age 22 = .ok (.astore 5, 2) := by decide +kernel
theorem d_MQ_age_24 : decode b_MQ_age 24 = .ok (.aload 5, 2) := by decide +kernel
theorem d_MQ_age_26 : decode b_MQ_age 26 = .ok (.invokevirtual 79, 3) := by decide +kernel
theorem d_MQ_age_29 : decode b_MQ_age 29 = .ok (.ifCond .eq 29, 3) := by decide +kernel
theorem d_MQ_age_32 : decode b_MQ_age 32 = .ok (.aload 5, 2) := by decide +kernel
theorem d_MQ_age_34 : decode b_MQ_age 34 = .ok (.invokevirtual 46, 3) := by decide +kernel
theorem d_MQ_age_37 : decode b_MQ_age 37 = .ok (.ifCond .ne 21, 3) := by decide +kernel
theorem d_MQ_age_40 : decode b_MQ_age 40 = .ok (.aload 5, 2) := by decide +kernel
theorem d_MQ_age_42 : decode b_MQ_age 42 = .ok (.getfield 179, 3) := by decide +kernel
theorem d_MQ_age_45 : decode b_MQ_age 45 = .ok (.lload_n 1, 1) := by decide +kernel
theorem d_MQ_age_46 : decode b_MQ_age 46 = .ok (.lcmp, 1) := by decide +kernel
theorem d_MQ_age_47 : decode b_MQ_age 47 = .ok (.ifCond .ge 11, 3) := by decide +kernel
theorem d_MQ_age_50 : decode b_MQ_age 50 = .ok (.aload 5, 2) := by decide +kernel
theorem d_MQ_age_52 : decode b_MQ_age 52 = .ok (.invokevirtual 182, 3) := by decide +kernel
theorem d_MQ_age_55 : decode b_MQ_age 55 = .ok (.iinc 3 1, 3) := by decide +kernel
theorem d_MQ_age_58 : decode b_MQ_age 58 = .ok (.iinc 4 1, 3) := by decide +kernel
theorem d_MQ_age_61 : decode b_MQ_age 61 = .ok (.goto (-56), 3) := by decide +kernel
theorem d_MQ_age_64 : decode b_MQ_age 64 = .ok (.iload_n 3, 1) := by decide +kernel
theorem d_MQ_age_65 : decode b_MQ_age 65 = .ok (.ireturn, 1) := by decide +kernel
theorem d_MQ_count_0 : decode b_MQ_count 0 = .ok (.aload_n 0, 1) := by decide +kernel
theorem d_MQ_count_1 : decode b_MQ_count 1 = .ok (.iload_n 1, 1) := by decide +kernel
theorem d_MQ_count_2 : decode b_MQ_count 2 = .ok (.invokevirtual 39, 3) := by decide +kernel
theorem d_MQ_count_5 : decode b_MQ_count 5 = .ok (.ifCond .eq 16, 3) := by decide +kernel
theorem d_MQ_count_8 : decode b_MQ_count 8 = .ok (.aload_n 0, 1) := by decide +kernel
theorem d_MQ_count_9 : decode b_MQ_count 9 = .ok (.getfield 24, 3) := by decide +kernel
theorem d_MQ_count_12 : decode b_MQ_count 12 = .ok (.iload_n 1, 1) := by decide +kernel
theorem d_MQ_count_13 : decode b_MQ_count 13 = .ok (.aaload, 1) := by decide +kernel
theorem d_MQ_count_14 : decode b_MQ_count 14 = .ok (.getfield 87, 3) := by decide +kernel
theorem d_MQ_count_17 : decode b_MQ_count 17 = .ok (.invokevirtual 151, 3) := by decide +kernel
theorem d_MQ_count_20 : decode b_MQ_count 20 = .ok (.ireturn, 1) := by decide +kernel
theorem d_MQ_count_21 : decode b_MQ_count 21 = .ok (.iload_n 1, 1) := by decide +kernel
theorem d_MQ_count_22 : decode b_MQ_count 22 = .ok (.bipush 32, 2) := by decide +kernel
theorem d_MQ_count_24 : decode b_MQ_count 24 = .ok (.if_icmp .lt 27, 3) := by decide +kernel
theorem d_MQ_count_27 : decode b_MQ_count 27 = .ok (.aload_n 0, 1) := by decide +kernel
theorem d_MQ_count_28 : decode b_MQ_count 28 = .ok (.iload_n 1, 1) := by decide +kernel
theorem d_MQ_count_29 : decode b_MQ_count 29 = .ok (.bipush 32, 2) := by decide +kernel
theorem d_MQ_count_31 : decode b_MQ_count 31 = .ok (.isub, 1) := by decide +kernel
theorem d_MQ_count_32 : decode b_MQ_count 32 = .ok (.invokevirtual 39, 3) := by decide +kernel
theorem d_MQ_count_35 : decode b_MQ_count 35 = .ok (.ifCond .eq 16, 3) := by decide +kernel
theorem d_MQ_count_38 : decode b_MQ_count 38 = .ok (.aload_n 0, 1) := by decide +kernel
theorem d_MQ_count_39 : decode b_MQ_count 39 = .ok (.getfield 24, 3) := by decide +kernel
theorem d_MQ_count_42 : decode b_MQ_count 42 = .ok (.iload_n 1, 1) := by decide +kernel
theorem d_MQ_count_43 : decode b_MQ_count 43 = .ok (.bipush 32, 2) := by decide +kernel
theorem d_MQ_count_45 : decode b_MQ_count 45 = .ok (.isub, 1) := by decide +kernel
theorem d_MQ_count_46 : decode b_MQ_count 46 = .ok (.aaload, 1) := by decide +kernel
theorem d_MQ_count_47 : decode b_MQ_count 47 = .ok (.getfield 185, 3) := by decide +kernel
theorem d_MQ_count_50 : decode b_MQ_count 50 = .ok (.ireturn, 1) := by decide +kernel
theorem d_MQ_count_51 : decode b_MQ_count 51 = .ok (.iload_n 1, 1) := by decide +kernel
theorem d_MQ_count_52 : decode b_MQ_count 52 = .ok (.tableswitch 58 64 67 #[32, 37, 45, 50], 32) := by decide +kernel
theorem d_MQ_count_84 : decode b_MQ_count 84 = .ok (.aload_n 0, 1) := by decide +kernel
theorem d_MQ_count_85 : decode b_MQ_count 85 = .ok (.invokevirtual 53, 3) := by decide +kernel
theorem d_MQ_count_88 : decode b_MQ_count 88 = .ok (.ireturn, 1) := by decide +kernel
theorem d_MQ_count_89 : decode b_MQ_count 89 = .ok (.aload_n 0, 1) := by decide +kernel
theorem d_MQ_count_90 : decode b_MQ_count 90 = .ok (.getfield 32, 3) := by decide +kernel
theorem d_MQ_count_93 : decode b_MQ_count 93 = .ok (.invokevirtual 151, 3) := by decide +kernel
theorem d_MQ_count_96 : decode b_MQ_count 96 = .ok (.ireturn, 1) := by decide +kernel
theorem d_MQ_count_97 : decode b_MQ_count 97 = .ok (.aload_n 0, 1) := by decide +kernel
theorem d_MQ_count_98 : decode b_MQ_count 98 = .ok (.getfield 144, 3) := by decide +kernel
theorem d_MQ_count_101 : decode b_MQ_count 101 = .ok (.ireturn, 1) := by decide +kernel
theorem d_MQ_count_102 : decode b_MQ_count 102 = .ok (.aload_n 0, 1) := by decide +kernel
theorem d_MQ_count_103 : decode b_MQ_count 103 = .ok (.getfield 36, 3) := by decide +kernel
theorem d_MQ_count_106 : decode b_MQ_count 106 = .ok (.invokevirtual 151, 3) := by decide +kernel
theorem d_MQ_count_109 : decode b_MQ_count 109 = .ok (.ireturn, 1) := by decide +kernel
theorem d_MQ_count_110 : decode b_MQ_count 110 = .ok (.bipush (-2), 2) := by decide +kernel
theorem d_MQ_count_112 : decode b_MQ_count 112 = .ok (.ireturn, 1) := by decide +kernel
theorem d_MQ_get_0 : decode b_MQ_get 0 = .ok (.aload_n 0, 1) := by decide +kernel
theorem d_MQ_get_1 : decode b_MQ_get 1 = .ok (.iload_n 1, 1) := by decide +kernel
theorem d_MQ_get_2 : decode b_MQ_get 2 = .ok (.invokevirtual 39, 3) := by decide +kernel
theorem d_MQ_get_5 : decode b_MQ_get 5 = .ok (.ifCond .ne 13, 3) := by decide +kernel
theorem d_MQ_get_8 : decode b_MQ_get 8 = .ok (.new 72, 3) := by decide +kernel
theorem d_MQ_get_11 : decode b_MQ_get 11 = .ok (.dup, 1) := by decide +kernel
theorem d_MQ_get_12 : decode b_MQ_get 12 = .ok (.ldc 74, 2) := by decide +kernel
theorem d_MQ_get_14 : decode b_MQ_get 14 = .ok (.invokespecial 76, 3) := by decide +kernel
theorem d_MQ_get_17 : decode b_MQ_get 17 = .ok (.athrow, 1) := by decide +kernel
theorem d_MQ_get_18 : decode b_MQ_get 18 = .ok (.aload_n 0, 1) := by decide +kernel
theorem d_MQ_get_19 : decode b_MQ_get 19 = .ok (.getfield 24, 3) := by decide +kernel
theorem d_MQ_get_22 : decode b_MQ_get 22 = .ok (.iload_n 1, 1) := by decide +kernel
theorem d_MQ_get_23 : decode b_MQ_get 23 = .ok (.aaload, 1) := by decide +kernel
theorem d_MQ_get_24 : decode b_MQ_get 24 = .ok (.astore_n 3, 1) := by decide +kernel
theorem d_MQ_get_25 : decode b_MQ_get 25 = .ok (.aload_n 3, 1) := by decide +kernel
theorem d_MQ_get_26 : decode b_MQ_get 26 = .ok (.invokevirtual 79, 3) := by decide +kernel
theorem d_MQ_get_29 : decode b_MQ_get 29 = .ok (.ifCond .eq 46, 3) := by decide +kernel
theorem d_MQ_get_32 : decode b_MQ_get 32 = .ok (.aload_n 3, 1) := by decide +kernel
theorem d_MQ_get_33 : decode b_MQ_get 33 = .ok (.iload_n 2, 1) := by decide +kernel
theorem d_MQ_get_34 : decode b_MQ_get 34 = .ok (.invokevirtual 82, 3) := by decide +kernel
theorem d_MQ_get_37 : decode b_MQ_get 37 = .ok (.ifCond .ne 13, 3) := by decide +kernel
theorem d_MQ_get_40 : decode b_MQ_get 40 = .ok (.new 72, 3) := by decide +kernel
theorem d_MQ_get_43 : decode b_MQ_get 43 = .ok (.dup, 1) := by decide +kernel
theorem d_MQ_get_44 : decode b_MQ_get 44 = .ok (.ldc 85, 2) := by decide +kernel
theorem d_MQ_get_46 : decode b_MQ_get 46 = .ok (.invokespecial 76, 3) := by decide +kernel
theorem d_MQ_get_49 : decode b_MQ_get 49 = .ok (.athrow, 1) := by decide +kernel
theorem d_MQ_get_50 : decode b_MQ_get 50 = .ok (.aload_n 3, 1) := by decide +kernel
theorem d_MQ_get_51 : decode b_MQ_get 51 = .ok (.aload_n 0, 1) := by decide +kernel
theorem d_MQ_get_52 : decode b_MQ_get 52 = .ok (.getfield 57, 3) := by decide +kernel
theorem d_MQ_get_55 : decode b_MQ_get 55 = .ok (.invokevirtual 61, 3) := by decide +kernel
theorem d_MQ_get_58 : decode b_MQ_get 58 = .ok (.aload_n 3, 1) := by decide +kernel
theorem d_MQ_get_59 : decode b_MQ_get 59 = .ok (.getfield 87, 3) := by decide +kernel
theorem d_MQ_get_62 : decode b_MQ_get 62 = .ok (.iload_n 2, 1) := by decide +kernel
theorem d_MQ_get_63 : decode b_MQ_get 63 = .ok (.iconst 1, 1) := by decide +kernel
theorem d_MQ_get_64 : decode b_MQ_get 64 = .ok (.isub, 1) := by decide +kernel
theorem d_MQ_get_65 : decode b_MQ_get 65 = .ok (.invokevirtual 90, 3) := by decide +kernel
theorem d_MQ_get_68 : decode b_MQ_get 68 = .ok (.checkcast 94, 3) := by decide +kernel
theorem d_MQ_get_71 : decode b_MQ_get 71 = .ok (.getfield 96, 3) := by decide +kernel
theorem d_MQ_get_74 : decode b_MQ_get 74 = .ok (.lreturn, 1) := by decide +kernel
theorem d_MQ_get_75 : decode b_MQ_get 75 = .ok (.aload_n 3, 1) := by decide +kernel
theorem d_MQ_get_76 : decode b_MQ_get 76 = .ok (.getfield 99, 3) := by decide +kernel
theorem d_MQ_get_79 : decode b_MQ_get 79 = .ok (.ifCond .eq 11, 3) := by decide +kernel
theorem d_MQ_get_82 : decode b_MQ_get 82 = .ok (.iload_n 2, 1) := by decide +kernel
theorem d_MQ_get_83 : decode b_MQ_get 83 = .ok (.aload_n 3, 1) := by decide +kernel
theorem d_MQ_get_84 : decode b_MQ_get 84 = .ok (.getfield 99, 3) := by decide +kernel
theorem d_MQ_get_87 : decode b_MQ_get 87 = .ok (.if_icmp .eq 13, 3) := by decide +kernel
theorem d_MQ_get_90 : decode b_MQ_get 90 = .ok (.new 72, 3) := by decide +kernel
theorem d_MQ_get_93 : decode b_MQ_get 93 = .ok (.dup, 1) := by decide +kernel
theorem d_MQ_get_94 : decode b_MQ_get 94 = .ok (.ldc 102, 2) := by decide +kernel
theorem d_MQ_get_96 : decode b_MQ_get 96 = .ok (.invokespecial 76, 3) := by decide +kernel
theorem d_MQ_get_99 : decode b_MQ_get 99 = .ok (.athrow, 1) := by decide +kernel
theorem d_MQ_get_100 : decode b_MQ_get 100 = .ok (.aload_n 3, 1) := by decide +kernel
theorem d_MQ_get_101 : decode b_MQ_get 101 = .ok (.getfield 104, 3) := by decide +kernel
theorem d_MQ_get_104 : decode b_MQ_get 104 = .ok (.lreturn, 1) := by decide +kernel
