theorem d_La_cell_0 : decode b_La_cell 0 = .ok (.iload_n 1, 1) := by decide +kernel
theorem d_La_cell_1 : decode b_La_cell 1 = .ok (.aload_n 0, 1) := by decide +kernel
theorem d_La_cell_2 : decode b_La_cell 2 = .ok (.arraylength, 1) := by decide +kernel
theorem d_La_cell_3 : decode b_La_cell 3 = .ok (.if_icmp .ge 9, 3) := by decide +kernel
theorem d_La_cell_6 : decode b_La_cell 6 = .ok (.aload_n 0, 1) := by decide +kernel
theorem d_La_cell_7 : decode b_La_cell 7 = .ok (.iload_n 1, 1) := by decide +kernel
theorem d_La_cell_8 : decode b_La_cell 8 = .ok (.iaload, 1) := by decide +kernel
theorem d_La_cell_9 : decode b_La_cell 9 = .ok (.goto 4, 3) := by decide +kernel
theorem d_La_cell_12 : decode b_La_cell 12 = .ok (.iconst 0, 1) := by decide +kernel
theorem d_La_cell_13 : decode b_La_cell 13 = .ok (.ireturn, 1) := by decide +kernel
theorem d_La_get_0 : decode b_La_get 0 = .ok (.aload_n 3, 1) := by decide +kernel
theorem d_La_get_1 : decode b_La_get 1 = .ok (.iconst 0, 1) := by decide +kernel
theorem d_La_get_2 : decode b_La_get 2 = .ok (.aload_n 0, 1) := by decide +kernel
theorem d_La_get_3 : decode b_La_get 3 = .ok (.iload_n 1, 1) := by decide +kernel
theorem d_La_get_4 : decode b_La_get 4 = .ok (.iload_n 2, 1) := by decide +kernel
theorem d_La_get_5 : decode b_La_get 5 = .ok (.invokevirtual 7, 3) := by decide +kernel
theorem d_La_get_8 : decode b_La_get 8 = .ok (.lastore, 1) := by decide +kernel
theorem d_La_get_9 : decode b_La_get 9 = .ok (.goto 7, 3) := by decide +kernel
theorem d_La_get_12 : decode b_La_get 12 = .ok (.astore 4, 2) := by decide +kernel
theorem d_La_get_14 : decode b_La_get 14 = .ok (.iconst 1, 1) := by decide +kernel
theorem d_La_get_15 : decode b_La_get 15 = .ok (.ireturn, 1) := by decide +kernel
theorem d_La_get_16 : decode b_La_get 16 = .ok (.iconst 0, 1) := by decide +kernel
theorem d_La_get_17 : decode b_La_get 17 = .ok (.ireturn, 1) := by decide +kernel
