theorem d_Mo_init_0 : decode b_Mo_init 0 = .ok (.aload_n 0, 1) := by decide +kernel
theorem d_Mo_init_1 : decode b_Mo_init 1 = .ok (.invokespecial 1, 3) := by decide +kernel
theorem d_Mo_init_4 : decode b_Mo_init 4 = .ok (.aload_n 0, 1) := by decide +kernel
theorem d_Mo_init_5 : decode b_Mo_init 5 = .ok (.sipush 1100, 3) := by decide +kernel
theorem d_Mo_init_8 : decode b_Mo_init 8 = .ok (.newarray .int, 2) := by decide +kernel
theorem d_Mo_init_10 : decode b_Mo_init 10 = .ok (.putfield 7, 3) := by decide +kernel
theorem d_Mo_init_13 : decode b_Mo_init 13 = .ok (.aload_n 0, 1) := by decide +kernel
theorem d_Mo_init_14 : decode b_Mo_init 14 = .ok (.sipush 1100, 3) := by decide +kernel
theorem d_Mo_init_17 : decode b_Mo_init 17 = .ok (.newarray .int, 2) := by decide +kernel
theorem d_Mo_init_19 : decode b_Mo_init 19 = .ok (.putfield 13, 3) := by decide +kernel
theorem d_Mo_init_22 : decode b_Mo_init 22 = .ok (.aload_n 0, 1) := by decide +kernel
theorem d_Mo_init_23 : decode b_Mo_init 23 = .ok (.sipush 1100, 3) := by decide +kernel
theorem d_Mo_init_26 : decode b_Mo_init 26 = .ok (.newarray .int, 2) := by decide +kernel
theorem d_Mo_init_28 : decode b_Mo_init 28 = .ok (.putfield 16, 3) := by decide +kernel
theorem d_Mo_init_31 : decode b_Mo_init 31 = .ok (.aload_n 0, 1) := by decide +kernel
theorem d_Mo_init_32 : decode b_Mo_init 32 = .ok (.sipush 1100, 3) := by decide +kernel
theorem d_Mo_init_35 : decode b_Mo_init 35 = .ok (.newarray .long, 2) := by decide +kernel
theorem d_Mo_init_37 : decode b_Mo_init 37 = .ok (.putfield 19, 3) := by decide +kernel
theorem d_Mo_init_40 : decode b_Mo_init 40 = .ok (.aload_n 0, 1) := by decide +kernel
theorem d_Mo_init_41 : decode b_Mo_init 41 = .ok (.bipush 32, 2) := by decide +kernel
theorem d_Mo_init_43 : decode b_Mo_init 43 = .ok (.newarray .int, 2) := by decide +kernel
theorem d_Mo_init_45 : decode b_Mo_init 45 = .ok (.putfield 23, 3) := by decide +kernel
theorem d_Mo_init_48 : decode b_Mo_init 48 = .ok (.aload_n 0, 1) := by decide +kernel
theorem d_Mo_init_49 : decode b_Mo_init 49 = .ok (.bipush 32, 2) := by decide +kernel
theorem d_Mo_init_51 : decode b_Mo_init 51 = .ok (.newarray .int, 2) := by decide +kernel
theorem d_Mo_init_53 : decode b_Mo_init 53 = .ok (.putfield 26, 3) := by decide +kernel
theorem d_Mo_init_56 : decode b_Mo_init 56 = .ok (.aload_n 0, 1) := by decide +kernel
theorem d_Mo_init_57 : decode b_Mo_init 57 = .ok (.bipush 32, 2) := by decide +kernel
theorem d_Mo_init_59 : decode b_Mo_init 59 = .ok (.newarray .int, 2) := by decide +kernel
theorem d_Mo_init_61 : decode b_Mo_init 61 = .ok (.putfield 29, 3) := by decide +kernel
theorem d_Mo_init_64 : decode b_Mo_init 64 = .ok (.aload_n 0, 1) := by decide +kernel
theorem d_Mo_init_65 : decode b_Mo_init 65 = .ok (.bipush 32, 2) := by decide +kernel
theorem d_Mo_init_67 : decode b_Mo_init 67 = .ok (.newarray .int, 2) := by decide +kernel
theorem d_Mo_init_69 : decode b_Mo_init 69 = .ok (.putfield 32, 3) := by decide +kernel
theorem d_Mo_init_72 : decode b_Mo_init 72 = .ok (.aload_n 0, 1) := by decide +kernel
theorem d_Mo_init_73 : decode b_Mo_init 73 = .ok (.bipush 32, 2) := by decide +kernel
theorem d_Mo_init_75 : decode b_Mo_init 75 = .ok (.newarray .int, 2) := by decide +kernel
theorem d_Mo_init_77 : decode b_Mo_init 77 = .ok (.putfield 35, 3) := by decide +kernel
theorem d_Mo_init_80 : decode b_Mo_init 80 = .ok (.aload_n 0, 1) := by decide +kernel
theorem d_Mo_init_81 : decode b_Mo_init 81 = .ok (.bipush 32, 2) := by decide +kernel
theorem d_Mo_init_83 : decode b_Mo_init 83 = .ok (.newarray .int, 2) := by decide +kernel
theorem d_Mo_init_85 : decode b_Mo_init 85 = .ok (.putfield 38, 3) := by decide +kernel
theorem d_Mo_init_88 : decode b_Mo_init 88 = .ok (.aload_n 0, 1) := by decide +kernel
theorem d_Mo_init_89 : decode b_Mo_init 89 = .ok (.bipush 32, 2) := by decide +kernel
theorem d_Mo_init_91 : decode b_Mo_init 91 = .ok (.newarray .boolean, 2) := by decide +kernel
theorem d_Mo_init_93 : decode b_Mo_init 93 = .ok (.putfield 41, 3) := by decide +kernel
theorem d_Mo_init_96 : decode b_Mo_init 96 = .ok (.aload_n 0, 1) := by decide +kernel
theorem d_Mo_init_97 : decode b_Mo_init 97 = .ok (.bipush 32, 2) := by decide +kernel
theorem d_Mo_init_99 : decode b_Mo_init 99 = .ok (.newarray .boolean, 2) := by decide +kernel
theorem d_Mo_init_101 : decode b_Mo_init 101 = .ok (.putfield 45, 3) := by decide +kernel
theorem d_Mo_init_104 : decode b_Mo_init 104 = .ok (.aload_n 0, 1) := by decide +kernel
theorem d_Mo_init_105 : decode b_Mo_init 105 = .ok (.bipush 32, 2) := by decide +kernel
theorem d_Mo_init_107 : decode b_Mo_init 107 = .ok (.newarray .long, 2) := by decide +kernel
theorem d_Mo_init_109 : decode b_Mo_init 109 = .ok (.putfield 48, 3) := by decide +kernel
theorem d_Mo_init_112 : decode b_Mo_init 112 = .ok (.aload_n 0, 1) := by decide +kernel
theorem d_Mo_init_113 : decode b_Mo_init 113 = .ok (.bipush 32, 2) := by decide +kernel
theorem d_Mo_init_115 : decode b_Mo_init 115 = .ok (.newarray .long, 2) := by decide +kernel
theorem d_Mo_init_117 : decode b_Mo_init 117 = .ok (.putfield 51, 3) := by decide +kernel
theorem d_Mo_init_120 : decode b_Mo_init 120 = .ok (.aload_n 0, 1) := by decide +kernel
theorem d_Mo_init_121 : decode b_Mo_init 121 = .ok (.sipush 256, 3) := by decide +kernel
theorem d_Mo_init_124 : decode b_Mo_init 124 = .ok (.newarray .int, 2) := by decide +kernel
theorem d_Mo_init_126 : decode b_Mo_init 126 = .ok (.putfield 54, 3) := by decide +kernel
theorem d_Mo_init_129 : decode b_Mo_init 129 = .ok (.aload_n 0, 1) := by decide +kernel
theorem d_Mo_init_130 : decode b_Mo_init 130 = .ok (.sipush 4000, 3) := by decide +kernel
theorem d_Mo_init_133 : decode b_Mo_init 133 = .ok (.newarray .int, 2) := by decide +kernel
theorem d_Mo_init_135 : decode b_Mo_init 135 = .ok (.putfield 57, 3) := by decide +kernel
theorem d_Mo_init_138 : decode b_Mo_init 138 = .ok (.aload_n 0, 1) := by decide +kernel
theorem d_Mo_init_139 : decode b_Mo_init 139 = .ok (.sipush 4000, 3) := by decide +kernel
theorem d_Mo_init_142 : decode b_Mo_init 142 = .ok (.newarray .boolean, 2) := by decide +kernel
theorem d_Mo_init_144 : decode b_Mo_init 144 = .ok (.putfield 60, 3) := by decide +kernel
theorem d_Mo_init_147 : decode b_Mo_init 147 = .ok (.aload_n 0, 1) := by decide +kernel
theorem d_Mo_init_148 : decode b_Mo_init 148 = .ok (.sipush 200, 3) := by decide +kernel
theorem d_Mo_init_151 : decode b_Mo_init 151 = .ok (.newarray .int, 2) := by decide +kernel
theorem d_Mo_init_153 : decode b_Mo_init 153 = .ok (.putfield 63, 3) := by decide +kernel
theorem d_Mo_init_156 : decode b_Mo_init 156 = .ok (.aload_n 0, 1) := by decide +kernel
theorem d_Mo_init_157 : decode b_Mo_init 157 = .ok (.sipush 200, 3) := by decide +kernel
theorem d_Mo_init_160 : decode b_Mo_init 160 = .ok (.newarray .int, 2) := by decide +kernel
theorem d_Mo_init_162 : decode b_Mo_init 162 = .ok (.putfield 66, 3) := by decide +kernel
theorem d_Mo_init_165 : decode b_Mo_init 165 = .ok (.aload_n 0, 1) := by decide +kernel
theorem d_Mo_init_166 : decode b_Mo_init 166 = .ok (.sipush 200, 3) := by decide +kernel
theorem d_Mo_init_169 : decode b_Mo_init 169 = .ok (.newarray .long, 2) := by decide +kernel
theorem d_Mo_init_171 : decode b_Mo_init 171 = .ok (.putfield 69, 3) := by decide +kernel
theorem d_Mo_init_174 : decode b_Mo_init 174 = .ok (.aload_n 0, 1) := by decide +kernel
theorem d_Mo_init_175 : decode b_Mo_init 175 = .ok (.iload_n 1, 1) := by decide +kernel
theorem d_Mo_init_176 : decode b_Mo_init 176 = .ok (.iconst 1, 1) := by decide +kernel
theorem d_Mo_init_177 : decode b_Mo_init 177 = .ok (.if_icmp .ge 7, 3) := by decide +kernel
theorem d_Mo_init_180 : decode b_Mo_init 180 = .ok (.iconst 1, 1) := by decide +kernel
theorem d_Mo_init_181 : decode b_Mo_init 181 = .ok (.goto 17, 3) := by decide +kernel
theorem d_Mo_init_184 : decode b_Mo_init 184 = .ok (.iload_n 1, 1) := by decide +kernel
theorem d_Mo_init_185 : decode b_Mo_init 185 = .ok (.sipush 4096, 3) := by decide +kernel
theorem d_Mo_init_188 : decode b_Mo_init 188 = .ok (.if_icmp .le 9, 3) := by decide +kernel
theorem d_Mo_init_191 : decode b_Mo_init 191 = .ok (.sipush 4096, 3) := by decide +kernel
theorem d_Mo_init_194 : decode b_Mo_init 194 = .ok (.goto 4, 3) := by decide +kernel
theorem d_Mo_init_197 : decode b_Mo_init 197 = .ok (.iload_n 1, 1) := by decide +kernel
theorem d_Mo_init_198 : decode b_Mo_init 198 = .ok (.putfield 72, 3) := by decide +kernel
theorem d_Mo_init_201 : decode b_Mo_init 201 = .ok (.iconst 0, 1) := by decide +kernel
theorem d_Mo_init_202 : decode b_Mo_init 202 = .ok (.istore_n 2, 1) := by decide +kernel
theorem d_Mo_init_203 : decode b_Mo_init 203 = .ok (.iload_n 2, 1) := by decide +kernel
theorem d_Mo_init_204 : decode b_Mo_init 204 = .ok (.bipush 32, 2) := by decide +kernel
theorem d_Mo_init_206 : decode b_Mo_init 206 = .ok (.if_icmp .ge 16, 3) := by decide +kernel
theorem d_Mo_init_209 : decode b_Mo_init 209 = .ok (.aload_n 0, 1) := by decide +kernel
theorem d_Mo_init_210 : decode b_Mo_init 210 = .ok (.getfield 23, 3) := by decide +kernel
theorem d_Mo_init_213 : decode b_Mo_init 213 = .ok (.iload_n 2, 1) := by decide +kernel
theorem d_Mo_init_214 : decode b_Mo_init 214 = .ok (.iconst (-1), 1) := by decide +kernel
theorem d_Mo_init_215 : decode b_Mo_init 215 = .ok (.iastore, 1) := by decide +kernel
theorem d_Mo_init_216 : decode b_Mo_init 216 = .ok (.iinc 2 1, 3) := by decide +kernel
theorem d_Mo_init_219 : decode b_Mo_init 219 = .ok (.goto (-16), 3) := by decide +kernel
theorem d_Mo_init_222 : decode b_Mo_init 222 = .ok (.return_, 1) := by decide +kernel
theorem d_Mo_thrown_0 : decode b_Mo_thrown 0 = .ok (.aload_n 0, 1) := by decide +kernel
theorem d_Mo_thrown_1 : decode b_Mo_thrown 1 = .ok (.getfield 76, 3) := by decide +kernel
theorem d_Mo_thrown_4 : decode b_Mo_thrown 4 = .ok (.ireturn, 1) := by decide +kernel
theorem d_Mo_put_0 : decode b_Mo_put 0 = .ok (.aload_n 0, 1) := by decide +kernel
theorem d_Mo_put_1 : decode b_Mo_put 1 = .ok (.aload_n 0, 1) := by decide +kernel
theorem d_Mo_put_2 : decode b_Mo_put 2 = .ok (.iload_n 1, 1) := by decide +kernel
theorem d_Mo_put_3 : decode b_Mo_put 3 = .ok (.iload_n 2, 1) := by decide +kernel
theorem d_Mo_put_4 : decode b_Mo_put 4 = .ok (.lload_n 3, 1) := by decide +kernel
theorem d_Mo_put_5 : decode b_Mo_put 5 = .ok (.iload 5, 2) := by decide +kernel
theorem d_Mo_put_7 : decode b_Mo_put 7 = .ok (.invokevirtual 116, 3) := by decide +kernel
theorem d_Mo_put_10 : decode b_Mo_put 10 = .ok (.invokevirtual 120, 3) := by decide +kernel
theorem d_Mo_put_13 : decode b_Mo_put 13 = .ok (.ireturn, 1) := by decide +kernel
theorem d_Mo_putting_0 : decode b_Mo_putting 0 = .ok (.iload_n 1, 1) := by decide +kernel
theorem d_Mo_putting_1 : decode b_Mo_putting 1 = .ok (.invokestatic 105, 3) := by decide +kernel
theorem d_Mo_putting_4 : decode b_Mo_putting 4 = .ok (.ifCond .eq 24, 3) := by decide +kernel
theorem d_Mo_putting_7 : decode b_Mo_putting 7 = .ok (.iload_n 2, 1) := by decide +kernel
theorem d_Mo_putting_8 : decode b_Mo_putting 8 = .ok (.ifCond .lt 20, 3) := by decide +kernel
theorem d_Mo_putting_11 : decode b_Mo_putting 11 = .ok (.iload_n 2, 1) := by decide +kernel
theorem d_Mo_putting_12 : decode b_Mo_putting 12 = .ok (.iconst 3, 1) := by decide +kernel
theorem d_Mo_putting_13 : decode b_Mo_putting 13 = .ok (.if_icmp .gt 15, 3) := by decide +kernel
theorem d_Mo_putting_16 : decode b_Mo_putting 16 = .ok (.iload 5, 2) := by decide +kernel
theorem d_Mo_putting_18 : decode b_Mo_putting 18 = .ok (.ifCond .lt 10, 3) := by decide +kernel
theorem d_Mo_putting_21 : decode b_Mo_putting 21 = .ok (.iload 5, 2) := by decide +kernel
theorem d_Mo_putting_23 : decode b_Mo_putting 23 = .ok (.bipush 9, 2) := by decide +kernel
theorem d_Mo_putting_25 : decode b_Mo_putting 25 = .ok (.if_icmp .le 6, 3) := by decide +kernel
theorem d_Mo_putting_28 : decode b_Mo_putting 28 = .ok (.bipush (-2), 2) := by decide +kernel
theorem d_Mo_putting_30 : decode b_Mo_putting 30 = .ok (.ireturn, 1) := by decide +kernel
theorem d_Mo_putting_31 : decode b_Mo_putting 31 = .ok (.aload_n 0, 1) := by decide +kernel
theorem d_Mo_putting_32 : decode b_Mo_putting 32 = .ok (.getfield 23, 3) := by decide +kernel
theorem d_Mo_putting_35 : decode b_Mo_putting 35 = .ok (.iload_n 1, 1) := by decide +kernel
theorem d_Mo_putting_36 : decode b_Mo_putting 36 = .ok (.iaload, 1) := by decide +kernel
theorem d_Mo_putting_37 : decode b_Mo_putting 37 = .ok (.iconst (-1), 1) := by decide +kernel
theorem d_Mo_putting_38 : decode b_Mo_putting 38 = .ok (.if_icmp .eq 13, 3) := by decide +kernel
theorem d_Mo_putting_41 : decode b_Mo_putting 41 = .ok (.aload_n 0, 1) := by decide +kernel
theorem d_Mo_putting_42 : decode b_Mo_putting 42 = .ok (.getfield 23, 3) := by decide +kernel
theorem d_Mo_putting_45 : decode b_Mo_putting 45 = .ok (.iload_n 1, 1) := by decide +kernel
theorem d_Mo_putting_46 : decode b_Mo_putting 46 = .ok (.iaload, 1) := by decide +kernel
theorem d_Mo_putting_47 : decode b_Mo_putting 47 = .ok (.iload_n 2, 1) := by decide +kernel
theorem d_Mo_putting_48 : decode b_Mo_putting 48 = .ok (.if_icmp .ne 17, 3) := by decide +kernel
theorem d_Mo_putting_51 : decode b_Mo_putting 51 = .ok (.aload_n 0, 1) := by decide +kernel
theorem d_Mo_putting_52 : decode b_Mo_putting 52 = .ok (.getfield 29, 3) := by decide +kernel
theorem d_Mo_putting_55 : decode b_Mo_putting 55 = .ok (.iload_n 1, 1) := by decide +kernel
theorem d_Mo_putting_56 : decode b_Mo_putting 56 = .ok (.iaload, 1) := by decide +kernel
theorem d_Mo_putting_57 : decode b_Mo_putting 57 = .ok (.ifCond .le 11, 3) := by decide +kernel
theorem d_Mo_putting_60 : decode b_Mo_putting 60 = .ok (.iload_n 2, 1) := by decide +kernel
theorem d_Mo_putting_61 : decode b_Mo_putting 61 = .ok (.iconst 2, 1) := by decide +kernel
theorem d_Mo_putting_62 : decode b_Mo_putting 62 = .ok (.if_icmp .ge 6, 3) := by decide +kernel
theorem d_Mo_putting_65 : decode b_Mo_putting 65 = .ok (.bipush (-3), 2) := by decide +kernel
theorem d_Mo_putting_67 : decode b_Mo_putting 67 = .ok (.ireturn, 1) := by decide +kernel
theorem d_Mo_putting_68 : decode b_Mo_putting 68 = .ok (.iload_n 2, 1) := by decide +kernel
theorem d_Mo_putting_69 : decode b_Mo_putting 69 = .ok (.iconst 2, 1) := by decide +kernel
theorem d_Mo_putting_70 : decode b_Mo_putting 70 = .ok (.irem, 1) := by decide +kernel
theorem d_Mo_putting_71 : decode b_Mo_putting 71 = .ok (.iconst 1, 1) := by decide +kernel
theorem d_Mo_putting_72 : decode b_Mo_putting 72 = .ok (.if_icmp .ne 7, 3) := by decide +kernel
theorem d_Mo_putting_75 : decode b_Mo_putting 75 = .ok (.iconst 1, 1) := by decide +kernel
theorem d_Mo_putting_76 : decode b_Mo_putting 76 = .ok (.goto 4, 3) := by decide +kernel
theorem d_Mo_putting_79 : decode b_Mo_putting 79 = .ok (.iconst 0, 1) := by decide +kernel
theorem d_Mo_putting_80 : decode b_Mo_putting 80 = .ok (.istore 6, 2) := by decide +kernel
theorem d_Mo_putting_82 : decode b_Mo_putting 82 = .ok (.iload 6, 2) := by decide +kernel
theorem d_Mo_putting_84 : decode b_Mo_putting 84 = .ok (.ifCond .eq 24, 3) := by decide +kernel
theorem d_Mo_putting_87 : decode b_Mo_putting 87 = .ok (.aload_n 0, 1) := by decide +kernel
theorem d_Mo_putting_88 : decode b_Mo_putting 88 = .ok (.iload_n 1, 1) := by decide +kernel
theorem d_Mo_putting_89 : decode b_Mo_putting 89 = .ok (.invokevirtual 109, 3) := by decide +kernel
theorem d_Mo_putting_92 : decode b_Mo_putting 92 = .ok (.ifCond .eq 16, 3) := by decide +kernel
theorem d_Mo_putting_95 : decode b_Mo_putting 95 = .ok (.aload_n 0, 1) := by decide +kernel
theorem d_Mo_putting_96 : decode b_Mo_putting 96 = .ok (.iload_n 1, 1) := by decide +kernel
theorem d_Mo_putting_97 : decode b_Mo_putting 97 = .ok (.invokevirtual 109, 3) := by decide +kernel
theorem d_Mo_putting_100 : decode b_Mo_putting 100 = .ok (.iload 5, 2) := by decide +kernel
theorem d_Mo_putting_102 : decode b_Mo_putting 102 = .ok (.if_icmp .eq 6, 3) := by decide +kernel
theorem d_Mo_putting_105 : decode b_Mo_putting 105 = .ok (.bipush (-5), 2) := by decide +kernel
theorem d_Mo_putting_107 : decode b_Mo_putting 107 = .ok (.ireturn, 1) := by decide +kernel
theorem d_Mo_putting_108 : decode b_Mo_putting 108 = .ok (.aload_n 0, 1) := by decide +kernel
theorem d_Mo_putting_109 : decode b_Mo_putting 109 = .ok (.getfield 79, 3) := by decide +kernel
theorem d_Mo_putting_112 : decode b_Mo_putting 112 = .ok (.aload_n 0, 1) := by decide +kernel
theorem d_Mo_putting_113 : decode b_Mo_putting 113 = .ok (.getfield 72, 3) := by decide +kernel
theorem d_Mo_putting_116 : decode b_Mo_putting 116 = .ok (.if_icmp .lt 5, 3) := by decide +kernel
theorem d_Mo_putting_119 : decode b_Mo_putting 119 = .ok (.iconst (-1), 1) := by decide +kernel
theorem d_Mo_putting_120 : decode b_Mo_putting 120 = .ok (.ireturn, 1) := by decide +kernel
theorem d_Mo_putting_121 : decode b_Mo_putting 121 = .ok (.aload_n 0, 1) := by decide +kernel
theorem d_Mo_putting_122 : decode b_Mo_putting 122 = .ok (.getfield 23, 3) := by decide +kernel
theorem d_Mo_putting_125 : decode b_Mo_putting 125 = .ok (.iload_n 1, 1) := by decide +kernel
theorem d_Mo_putting_126 : decode b_Mo_putting 126 = .ok (.iload_n 2, 1) := by decide +kernel
theorem d_Mo_putting_127 : decode b_Mo_putting 127 = .ok (.iastore, 1) := by decide +kernel
theorem d_Mo_putting_128 : decode b_Mo_putting 128 = .ok (.aload_n 0, 1) := by decide +kernel
theorem d_Mo_putting_129 : decode b_Mo_putting 129 = .ok (.getfield 26, 3) := by decide +kernel
theorem d_Mo_putting_132 : decode b_Mo_putting 132 = .ok (.iload_n 1, 1) := by decide +kernel
theorem d_Mo_putting_133 : decode b_Mo_putting 133 = .ok (.iload_n 2, 1) := by decide +kernel
theorem d_Mo_putting_134 : decode b_Mo_putting 134 = .ok (.iconst 1, 1) := by decide +kernel
theorem d_Mo_putting_135 : decode b_Mo_putting 135 = .ok (.if_icmp .le 14, 3) := by decide +kernel
theorem d_Mo_putting_138 : decode b_Mo_putting 138 = .ok (.aload_n 0, 1) := by decide +kernel
theorem d_Mo_putting_139 : decode b_Mo_putting 139 = .ok (.getfield 26, 3) := by decide +kernel
theorem d_Mo_putting_142 : decode b_Mo_putting 142 = .ok (.iload_n 1, 1) := by decide +kernel
theorem d_Mo_putting_143 : decode b_Mo_putting 143 = .ok (.iaload, 1) := by decide +kernel
theorem d_Mo_putting_144 : decode b_Mo_putting 144 = .ok (.iconst 1, 1) := by decide +kernel
theorem d_Mo_putting_145 : decode b_Mo_putting 145 = .ok (.iadd, 1) := by decide +kernel
theorem d_Mo_putting_146 : decode b_Mo_putting 146 = .ok (.goto 9, 3) := by decide +kernel
theorem d_Mo_putting_149 : decode b_Mo_putting 149 = .ok (.aload_n 0, 1) := by decide +kernel
theorem d_Mo_putting_150 : decode b_Mo_putting 150 = .ok (.getfield 26, 3) := by decide +kernel
theorem d_Mo_putting_153 : decode b_Mo_putting 153 = .ok (.iload_n 1, 1) := by decide +kernel
theorem d_Mo_putting_154 : decode b_Mo_putting 154 = .ok (.iaload, 1) := by decide +kernel
theorem d_Mo_putting_155 : decode b_Mo_putting 155 = .ok (.iastore, 1) := by decide +kernel
theorem d_Mo_putting_156 : decode b_Mo_putting 156 = .ok (.aload_n 0, 1) := by decide +kernel
theorem d_Mo_putting_157 : decode b_Mo_putting 157 = .ok (.getfield 7, 3) := by decide +kernel
theorem d_Mo_putting_160 : decode b_Mo_putting 160 = .ok (.aload_n 0, 1) := by decide +kernel
theorem d_Mo_putting_161 : decode b_Mo_putting 161 = .ok (.getfield 79, 3) := by decide +kernel
theorem d_Mo_putting_164 : decode b_Mo_putting 164 = .ok (.iload_n 1, 1) := by decide +kernel
theorem d_Mo_putting_165 : decode b_Mo_putting 165 = .ok (.iastore, 1) := by decide +kernel
theorem d_Mo_putting_166 : decode b_Mo_putting 166 = .ok (.aload_n 0, 1) := by decide +kernel
theorem d_Mo_putting_167 : decode b_Mo_putting 167 = .ok (.getfield 19, 3) := by decide +kernel
theorem d_Mo_putting_170 : decode b_Mo_putting 170 = .ok (.aload_n 0, 1) := by decide +kernel
theorem d_Mo_putting_171 : decode b_Mo_putting 171 = .ok (.getfield 79, 3) := by decide +kernel
theorem d_Mo_putting_174 : decode b_Mo_putting 174 = .ok (.lload_n 3, 1) := by decide +kernel
theorem d_Mo_putting_175 : decode b_Mo_putting 175 = .ok (.lastore, 1) := by decide +kernel
theorem d_Mo_putting_176 : decode b_Mo_putting 176 = .ok (.aload_n 0, 1) := by decide +kernel
theorem d_Mo_putting_177 : decode b_Mo_putting 177 = .ok (.getfield 16, 3) := by decide +kernel
theorem d_Mo_putting_180 : decode b_Mo_putting 180 = .ok (.aload_n 0, 1) := by decide +kernel
theorem d_Mo_putting_181 : decode b_Mo_putting 181 = .ok (.getfield 79, 3) := by decide +kernel
theorem d_Mo_putting_184 : decode b_Mo_putting 184 = .ok (.iload 6, 2) := by decide +kernel
theorem d_Mo_putting_186 : decode b_Mo_putting 186 = .ok (.ifCond .eq 8, 3) := by decide +kernel
theorem d_Mo_putting_189 : decode b_Mo_putting 189 = .ok (.iload 5, 2) := by decide +kernel
theorem d_Mo_putting_191 : decode b_Mo_putting 191 = .ok (.goto 4, 3) := by decide +kernel
theorem d_Mo_putting_194 : decode b_Mo_putting 194 = .ok (.iconst 0, 1) := by decide +kernel
theorem d_Mo_putting_195 : decode b_Mo_putting 195 = .ok (.iastore, 1) := by decide +kernel
theorem d_Mo_putting_196 : decode b_Mo_putting 196 = .ok (.aload_n 0, 1) := by decide +kernel
theorem d_Mo_putting_197 : decode b_Mo_putting 197 = .ok (.dup, 1) := by decide +kernel
theorem d_Mo_putting_198 : decode b_Mo_putting 198 = .ok (.getfield 79, 3) := by decide +kernel
theorem d_Mo_putting_201 : decode b_Mo_putting 201 = .ok (.iconst 1, 1) := by decide +kernel
theorem d_Mo_putting_202 : decode b_Mo_putting 202 = .ok (.iadd, 1) := by decide +kernel
theorem d_Mo_putting_203 : decode b_Mo_putting 203 = .ok (.putfield 79, 3) := by decide +kernel
theorem d_Mo_putting_206 : decode b_Mo_putting 206 = .ok (.aload_n 0, 1) := by decide +kernel
theorem d_Mo_putting_207 : decode b_Mo_putting 207 = .ok (.getfield 13, 3) := by decide +kernel
theorem d_Mo_putting_210 : decode b_Mo_putting 210 = .ok (.aload_n 0, 1) := by decide +kernel
theorem d_Mo_putting_211 : decode b_Mo_putting 211 = .ok (.getfield 79, 3) := by decide +kernel
theorem d_Mo_putting_214 : decode b_Mo_putting 214 = .ok (.iconst 1, 1) := by decide +kernel
theorem d_Mo_putting_215 : decode b_Mo_putting 215 = .ok (.isub, 1) := by decide +kernel
theorem d_Mo_putting_216 : decode b_Mo_putting 216 = .ok (.iload_n 2, 1) := by decide +kernel
theorem d_Mo_putting_217 : decode b_Mo_putting 217 = .ok (.iconst 1, 1) := by decide +kernel
theorem d_Mo_putting_218 : decode b_Mo_putting 218 = .ok (.if_icmp .le 12, 3) := by decide +kernel
theorem d_Mo_putting_221 : decode b_Mo_putting 221 = .ok (.aload_n 0, 1) := by decide +kernel
theorem d_Mo_putting_222 : decode b_Mo_putting 222 = .ok (.getfield 26, 3) := by decide +kernel
theorem d_Mo_putting_225 : decode b_Mo_putting 225 = .ok (.iload_n 1, 1) := by decide +kernel
theorem d_Mo_putting_226 : decode b_Mo_putting 226 = .ok (.iaload, 1) := by decide +kernel
theorem d_Mo_putting_227 : decode b_Mo_putting 227 = .ok (.goto 8, 3) := by decide +kernel
theorem d_Mo_putting_230 : decode b_Mo_putting 230 = .ok (.aload_n 0, 1) := by decide +kernel
theorem d_Mo_putting_231 : decode b_Mo_putting 231 = .ok (.iload_n 1, 1) := by decide +kernel
theorem d_Mo_putting_232 : decode b_Mo_putting 232 = .ok (.invokevirtual 82, 3) := by decide +kernel
theorem d_Mo_putting_235 : decode b_Mo_putting 235 = .ok (.iastore, 1) := by decide +kernel
theorem d_Mo_putting_236 : decode b_Mo_putting 236 = .ok (.aload_n 0, 1) := by decide +kernel
theorem d_Mo_putting_237 : decode b_Mo_putting 237 = .ok (.getfield 48, 3) := by decide +kernel
theorem d_Mo_putting_240 : decode b_Mo_putting 240 = .ok (.iload_n 1, 1) := by decide +kernel
theorem d_Mo_putting_241 : decode b_Mo_putting 241 = .ok (.aload_n 0, 1) := by decide +kernel
theorem d_Mo_putting_242 : decode b_Mo_putting 242 = .ok (.getfield 112, 3) := by decide +kernel
theorem d_Mo_putting_245 : decode b_Mo_putting 245 = .ok (.lastore, 1) := by decide +kernel
theorem d_Mo_putting_246 : decode b_Mo_putting 246 = .ok (.aload_n 0, 1) := by decide +kernel
theorem d_Mo_putting_247 : decode b_Mo_putting 247 = .ok (.getfield 13, 3) := by decide +kernel
theorem d_Mo_putting_250 : decode b_Mo_putting 250 = .ok (.aload_n 0, 1) := by decide +kernel
theorem d_Mo_putting_251 : decode b_Mo_putting 251 = .ok (.getfield 79, 3) := by decide +kernel
theorem d_Mo_putting_254 : decode b_Mo_putting 254 = .ok (.iconst 1, 1) := by decide +kernel
theorem d_Mo_putting_255 : decode b_Mo_putting 255 = .ok (.isub, 1) := by decide +kernel
theorem d_Mo_putting_256 : decode b_Mo_putting 256 = .ok (.iaload, 1) := by decide +kernel
theorem d_Mo_putting_257 : decode b_Mo_putting 257 = .ok (.ireturn, 1) := by decide +kernel
theorem d_Mo_isQueue_0 : decode b_Mo_isQueue 0 = .ok (.iload_n 0, 1) := by decide +kernel
theorem d_Mo_isQueue_1 : decode b_Mo_isQueue 1 = .ok (.ifCond .lt 13, 3) := by decide +kernel
theorem d_Mo_isQueue_4 : decode b_Mo_isQueue 4 = .ok (.iload_n 0, 1) := by decide +kernel
theorem d_Mo_isQueue_5 : decode b_Mo_isQueue 5 = .ok (.bipush 32, 2) := by decide +kernel
theorem d_Mo_isQueue_7 : decode b_Mo_isQueue 7 = .ok (.if_icmp .ge 7, 3) := by decide +kernel
theorem d_Mo_isQueue_10 : decode b_Mo_isQueue 10 = .ok (.iconst 1, 1) := by decide +kernel
theorem d_Mo_isQueue_11 : decode b_Mo_isQueue 11 = .ok (.goto 4, 3) := by decide +kernel
theorem d_Mo_isQueue_14 : decode b_Mo_isQueue 14 = .ok (.iconst 0, 1) := by decide +kernel
theorem d_Mo_isQueue_15 : decode b_Mo_isQueue 15 = .ok (.ireturn, 1) := by decide +kernel
theorem d_Mo_lockOf_0 : decode b_Mo_lockOf 0 = .ok (.iconst 0, 1) := by decide +kernel
theorem d_Mo_lockOf_1 : decode b_Mo_lockOf 1 = .ok (.istore_n 2, 1) := by decide +kernel
theorem d_Mo_lockOf_2 : decode b_Mo_lockOf 2 = .ok (.iconst 0, 1) := by decide +kernel
theorem d_Mo_lockOf_3 : decode b_Mo_lockOf 3 = .ok (.istore_n 3, 1) := by decide +kernel
theorem d_Mo_lockOf_4 : decode b_Mo_lockOf 4 = .ok (.iload_n 3, 1) := by decide +kernel
theorem d_Mo_lockOf_5 : decode b_Mo_lockOf 5 = .ok (.aload_n 0, 1) := by decide +kernel
theorem d_Mo_lockOf_6 : decode b_Mo_lockOf 6 = .ok (.getfield 79, 3) := by decide +kernel
theorem d_Mo_lockOf_9 : decode b_Mo_lockOf 9 = .ok (.if_icmp .ge 39, 3) := by decide +kernel
theorem d_Mo_lockOf_12 : decode b_Mo_lockOf 12 = .ok (.aload_n 0, 1) := by decide +kernel
theorem d_Mo_lockOf_13 : decode b_Mo_lockOf 13 = .ok (.getfield 7, 3) := by decide +kernel
theorem d_Mo_lockOf_16 : decode b_Mo_lockOf 16 = .ok (.iload_n 3, 1) := by decide +kernel
theorem d_Mo_lockOf_17 : decode b_Mo_lockOf 17 = .ok (.iaload, 1) := by decide +kernel
theorem d_Mo_lockOf_18 : decode b_Mo_lockOf 18 = .ok (.iload_n 1, 1) := by decide +kernel
theorem d_Mo_lockOf_19 : decode b_Mo_lockOf 19 = .ok (.if_icmp .ne 21, 3) := by decide +kernel
theorem d_Mo_lockOf_22 : decode b_Mo_lockOf 22 = .ok (.aload_n 0, 1) := by decide +kernel
theorem d_Mo_lockOf_23 : decode b_Mo_lockOf 23 = .ok (.getfield 16, 3) := by decide +kernel
theorem d_Mo_lockOf_26 : decode b_Mo_lockOf 26 = .ok (.iload_n 3, 1) := by decide +kernel
theorem d_Mo_lockOf_27 : decode b_Mo_lockOf 27 = .ok (.iaload, 1) := by decide +kernel
theorem d_Mo_lockOf_28 : decode b_Mo_lockOf 28 = .ok (.ifCond .le 12, 3) := by decide +kernel
theorem d_Mo_lockOf_31 : decode b_Mo_lockOf 31 = .ok (.aload_n 0, 1) := by decide +kernel
theorem d_Mo_lockOf_32 : decode b_Mo_lockOf 32 = .ok (.getfield 16, 3) := by decide +kernel
theorem d_Mo_lockOf_35 : decode b_Mo_lockOf 35 = .ok (.iload_n 3, 1) := by decide +kernel
theorem d_Mo_lockOf_36 : decode b_Mo_lockOf 36 = .ok (.iaload, 1) := by decide +kernel
theorem d_Mo_lockOf_37 : decode b_Mo_lockOf 37 = .ok (.goto 4, 3) := by decide +kernel
theorem d_Mo_lockOf_40 : decode b_Mo_lockOf 40 = .ok (.iload_n 2, 1) := by decide +kernel
theorem d_Mo_lockOf_41 : decode b_Mo_lockOf 41 = .ok (.istore_n 2, 1) := by decide +kernel
theorem d_Mo_lockOf_42 : decode b_Mo_lockOf 42 = .ok (.iinc 3 1, 3) := by decide +kernel
theorem d_Mo_lockOf_45 : decode b_Mo_lockOf 45 = .ok (.goto (-41), 3) := by decide +kernel
theorem d_Mo_lockOf_48 : decode b_Mo_lockOf 48 = .ok (.iload_n 2, 1) := by decide +kernel
theorem d_Mo_lockOf_49 : decode b_Mo_lockOf 49 = .ok (.ireturn, 1) := by decide +kernel
theorem d_Mo_many_0 : decode b_Mo_many 0 = .ok (.iconst 0, 1) := by decide +kernel
theorem d_Mo_many_1 : decode b_Mo_many 1 = .ok (.istore_n 2, 1) := by decide +kernel
theorem d_Mo_many_2 : decode b_Mo_many 2 = .ok (.iconst 0, 1) := by decide +kernel
theorem d_Mo_many_3 : decode b_Mo_many 3 = .ok (.istore_n 3, 1) := by decide +kernel
theorem d_Mo_many_4 : decode b_Mo_many 4 = .ok (.iload_n 3, 1) := by decide +kernel
theorem d_Mo_many_5 : decode b_Mo_many 5 = .ok (.aload_n 0, 1) := by decide +kernel
theorem d_Mo_many_6 : decode b_Mo_many 6 = .ok (.getfield 79, 3) := by decide +kernel
theorem d_Mo_many_9 : decode b_Mo_many 9 = .ok (.if_icmp .ge 27, 3) := by decide +kernel
theorem d_Mo_many_12 : decode b_Mo_many 12 = .ok (.iload_n 2, 1) := by decide +kernel
theorem d_Mo_many_13 : decode b_Mo_many 13 = .ok (.aload_n 0, 1) := by decide +kernel
theorem d_Mo_many_14 : decode b_Mo_many 14 = .ok (.getfield 7, 3) := by decide +kernel
theorem d_Mo_many_17 : decode b_Mo_many 17 = .ok (.iload_n 3, 1) := by decide +kernel
theorem d_Mo_many_18 : decode b_Mo_many 18 = .ok (.iaload, 1) := by decide +kernel
theorem d_Mo_many_19 : decode b_Mo_many 19 = .ok (.iload_n 1, 1) := by decide +kernel
theorem d_Mo_many_20 : decode b_Mo_many 20 = .ok (.if_icmp .ne 7, 3) := by decide +kernel
theorem d_Mo_many_23 : decode b_Mo_many 23 = .ok (.iconst 1, 1) := by decide +kernel
theorem d_Mo_many_24 : decode b_Mo_many 24 = .ok (.goto 4, 3) := by decide +kernel
theorem d_Mo_many_27 : decode b_Mo_many 27 = .ok (.iconst 0, 1) := by decide +kernel
theorem d_Mo_many_28 : decode b_Mo_many 28 = .ok (.iadd, 1) := by decide +kernel
theorem d_Mo_many_29 : decode b_Mo_many 29 = .ok (.istore_n 2, 1) := by decide +kernel
theorem d_Mo_many_30 : decode b_Mo_many 30 = .ok (.iinc 3 1, 3) := by decide +kernel
theorem d_Mo_many_33 : decode b_Mo_many 33 = .ok (.goto (-29), 3) := by decide +kernel
theorem d_Mo_many_36 : decode b_Mo_many 36 = .ok (.iload_n 2, 1) := by decide +kernel
theorem d_Mo_many_37 : decode b_Mo_many 37 = .ok (.ireturn, 1) := by decide +kernel
theorem d_Mo_answer_0 : decode b_Mo_answer 0 = .ok (.aload_n 0, 1) := by decide +kernel
theorem d_Mo_answer_1 : decode b_Mo_answer 1 = .ok (.iconst 0, 1) := by decide +kernel
theorem d_Mo_answer_2 : decode b_Mo_answer 2 = .ok (.putfield 76, 3) := by decide +kernel
theorem d_Mo_answer_5 : decode b_Mo_answer 5 = .ok (.aload_n 0, 1) := by decide +kernel
theorem d_Mo_answer_6 : decode b_Mo_answer 6 = .ok (.invokevirtual 102, 3) := by decide +kernel
theorem d_Mo_answer_9 : decode b_Mo_answer 9 = .ok (.iload_n 1, 1) := by decide +kernel
theorem d_Mo_answer_10 : decode b_Mo_answer 10 = .ok (.ireturn, 1) := by decide +kernel
theorem d_Mo_look_0 : decode b_Mo_look 0 = .ok (.iconst 0, 1) := by decide +kernel
theorem d_Mo_look_1 : decode b_Mo_look 1 = .ok (.istore_n 1, 1) := by decide +kernel
theorem d_Mo_look_2 : decode b_Mo_look 2 = .ok (.iload_n 1, 1) := by decide +kernel
theorem d_Mo_look_3 : decode b_Mo_look 3 = .ok (.bipush 32, 2) := by decide +kernel
theorem d_Mo_look_5 : decode b_Mo_look 5 = .ok (.if_icmp .ge 115, 3) := by decide +kernel
theorem d_Mo_look_8 : decode b_Mo_look 8 = .ok (.aload_n 0, 1) := by decide +kernel
theorem d_Mo_look_9 : decode b_Mo_look 9 = .ok (.getfield 29, 3) := by decide +kernel
theorem d_Mo_look_12 : decode b_Mo_look 12 = .ok (.iload_n 1, 1) := by decide +kernel
theorem d_Mo_look_13 : decode b_Mo_look 13 = .ok (.iaload, 1) := by decide +kernel
theorem d_Mo_look_14 : decode b_Mo_look 14 = .ok (.ifCond .ne 6, 3) := by decide +kernel
theorem d_Mo_look_17 : decode b_Mo_look 17 = .ok (.goto 97, 3) := by decide +kernel
theorem d_Mo_look_20 : decode b_Mo_look 20 = .ok (.aload_n 0, 1) := by decide +kernel
theorem d_Mo_look_21 : decode b_Mo_look 21 = .ok (.iload_n 1, 1) := by decide +kernel
theorem d_Mo_look_22 : decode b_Mo_look 22 = .ok (.invokevirtual 96, 3) := by decide +kernel
theorem d_Mo_look_25 : decode b_Mo_look 25 = .ok (.istore_n 2, 1) := by decide +kernel
theorem d_Mo_look_26 : decode b_Mo_look 26 = .ok (.aload_n 0, 1) := by decide +kernel
theorem d_Mo_look_27 : decode b_Mo_look 27 = .ok (.getfield 41, 3) := by decide +kernel
theorem d_Mo_look_30 : decode b_Mo_look 30 = .ok (.iload_n 1, 1) := by decide +kernel
theorem d_Mo_look_31 : decode b_Mo_look 31 = .ok (.aload_n 0, 1) := by decide +kernel
theorem d_Mo_look_32 : decode b_Mo_look 32 = .ok (.getfield 41, 3) := by decide +kernel
theorem d_Mo_look_35 : decode b_Mo_look 35 = .ok (.iload_n 1, 1) := by decide +kernel
theorem d_Mo_look_36 : decode b_Mo_look 36 = .ok (.baload, 1) := by decide +kernel
theorem d_Mo_look_37 : decode b_Mo_look 37 = .ok (.ifCond .ne 13, 3) := by decide +kernel
theorem d_Mo_look_40 : decode b_Mo_look 40 = .ok (.iload_n 2, 1) := by decide +kernel
theorem d_Mo_look_41 : decode b_Mo_look 41 = .ok (.aload_n 0, 1) := by decide +kernel
theorem d_Mo_look_42 : decode b_Mo_look 42 = .ok (.getfield 29, 3) := by decide +kernel
theorem d_Mo_look_45 : decode b_Mo_look 45 = .ok (.iload_n 1, 1) := by decide +kernel
theorem d_Mo_look_46 : decode b_Mo_look 46 = .ok (.iaload, 1) := by decide +kernel
theorem d_Mo_look_47 : decode b_Mo_look 47 = .ok (.if_icmp .ge 7, 3) := by decide +kernel
theorem d_Mo_look_50 : decode b_Mo_look 50 = .ok (.iconst 1, 1) := by decide +kernel
theorem d_Mo_look_51 : decode b_Mo_look 51 = .ok (.goto 4, 3) := by decide +kernel
theorem d_Mo_look_54 : decode b_Mo_look 54 = .ok (.iconst 0, 1) := by decide +kernel
theorem d_Mo_look_55 : decode b_Mo_look 55 = .ok (.bastore, 1) := by decide +kernel
theorem d_Mo_look_56 : decode b_Mo_look 56 = .ok (.aload_n 0, 1) := by decide +kernel
theorem d_Mo_look_57 : decode b_Mo_look 57 = .ok (.getfield 41, 3) := by decide +kernel
theorem d_Mo_look_60 : decode b_Mo_look 60 = .ok (.iload_n 1, 1) := by decide +kernel
theorem d_Mo_look_61 : decode b_Mo_look 61 = .ok (.baload, 1) := by decide +kernel
theorem d_Mo_look_62 : decode b_Mo_look 62 = .ok (.ifCond .eq 52, 3) := by decide +kernel
theorem d_Mo_look_65 : decode b_Mo_look 65 = .ok (.aload_n 0, 1) := by decide +kernel
theorem d_Mo_look_66 : decode b_Mo_look 66 = .ok (.getfield 35, 3) := by decide +kernel
theorem d_Mo_look_69 : decode b_Mo_look 69 = .ok (.iload_n 1, 1) := by decide +kernel
theorem d_Mo_look_70 : decode b_Mo_look 70 = .ok (.iaload, 1) := by decide +kernel
theorem d_Mo_look_71 : decode b_Mo_look 71 = .ok (.ifCond .ne 43, 3) := by decide +kernel
theorem d_Mo_look_74 : decode b_Mo_look 74 = .ok (.iload_n 2, 1) := by decide +kernel
theorem d_Mo_look_75 : decode b_Mo_look 75 = .ok (.aload_n 0, 1) := by decide +kernel
theorem d_Mo_look_76 : decode b_Mo_look 76 = .ok (.getfield 29, 3) := by decide +kernel
theorem d_Mo_look_79 : decode b_Mo_look 79 = .ok (.iload_n 1, 1) := by decide +kernel
theorem d_Mo_look_80 : decode b_Mo_look 80 = .ok (.iaload, 1) := by decide +kernel
theorem d_Mo_look_81 : decode b_Mo_look 81 = .ok (.if_icmp .lt 33, 3) := by decide +kernel
theorem d_Mo_look_84 : decode b_Mo_look 84 = .ok (.aload_n 0, 1) := by decide +kernel
theorem d_Mo_look_85 : decode b_Mo_look 85 = .ok (.getfield 35, 3) := by decide +kernel
theorem d_Mo_look_88 : decode b_Mo_look 88 = .ok (.iload_n 1, 1) := by decide +kernel
theorem d_Mo_look_89 : decode b_Mo_look 89 = .ok (.aload_n 0, 1) := by decide +kernel
theorem d_Mo_look_90 : decode b_Mo_look 90 = .ok (.aload_n 0, 1) := by decide +kernel
theorem d_Mo_look_91 : decode b_Mo_look 91 = .ok (.getfield 32, 3) := by decide +kernel
theorem d_Mo_look_94 : decode b_Mo_look 94 = .ok (.iload_n 1, 1) := by decide +kernel
theorem d_Mo_look_95 : decode b_Mo_look 95 = .ok (.iaload, 1) := by decide +kernel
theorem d_Mo_look_96 : decode b_Mo_look 96 = .ok (.invokevirtual 99, 3) := by decide +kernel
theorem d_Mo_look_99 : decode b_Mo_look 99 = .ok (.iastore, 1) := by decide +kernel
theorem d_Mo_look_100 : decode b_Mo_look 100 = .ok (.aload_n 0, 1) := by decide +kernel
theorem d_Mo_look_101 : decode b_Mo_look 101 = .ok (.getfield 45, 3) := by decide +kernel
theorem d_Mo_look_104 : decode b_Mo_look 104 = .ok (.iload_n 1, 1) := by decide +kernel
theorem d_Mo_look_105 : decode b_Mo_look 105 = .ok (.iconst 0, 1) := by decide +kernel
theorem d_Mo_look_106 : decode b_Mo_look 106 = .ok (.bastore, 1) := by decide +kernel
theorem d_Mo_look_107 : decode b_Mo_look 107 = .ok (.aload_n 0, 1) := by decide +kernel
theorem d_Mo_look_108 : decode b_Mo_look 108 = .ok (.getfield 41, 3) := by decide +kernel
theorem d_Mo_look_111 : decode b_Mo_look 111 = .ok (.iload_n 1, 1) := by decide +kernel
theorem d_Mo_look_112 : decode b_Mo_look 112 = .ok (.iconst 0, 1) := by decide +kernel
theorem d_Mo_look_113 : decode b_Mo_look 113 = .ok (.bastore, 1) := by decide +kernel
theorem d_Mo_look_114 : decode b_Mo_look 114 = .ok (.iinc 1 1, 3) := by decide +kernel
theorem d_Mo_look_117 : decode b_Mo_look 117 = .ok (.goto (-115), 3) := by decide +kernel
theorem d_Mo_look_120 : decode b_Mo_look 120 = .ok (.return_, 1) := by decide +kernel
theorem d_Mo_standing_0 : decode b_Mo_standing 0 = .ok (.iconst 0, 1) := by decide +kernel
theorem d_Mo_standing_1 : decode b_Mo_standing 1 = .ok (.istore_n 2, 1) := by decide +kernel
theorem d_Mo_standing_2 : decode b_Mo_standing 2 = .ok (.iconst 0, 1) := by decide +kernel
theorem d_Mo_standing_3 : decode b_Mo_standing 3 = .ok (.istore_n 3, 1) := by decide +kernel
theorem d_Mo_standing_4 : decode b_Mo_standing 4 = .ok (.iload_n 3, 1) := by decide +kernel
theorem d_Mo_standing_5 : decode b_Mo_standing 5 = .ok (.aload_n 0, 1) := by decide +kernel
theorem d_Mo_standing_6 : decode b_Mo_standing 6 = .ok (.getfield 79, 3) := by decide +kernel
theorem d_Mo_standing_9 : decode b_Mo_standing 9 = .ok (.if_icmp .ge 36, 3) := by decide +kernel
theorem d_Mo_standing_12 : decode b_Mo_standing 12 = .ok (.iload_n 2, 1) := by decide +kernel
theorem d_Mo_standing_13 : decode b_Mo_standing 13 = .ok (.aload_n 0, 1) := by decide +kernel
theorem d_Mo_standing_14 : decode b_Mo_standing 14 = .ok (.getfield 7, 3) := by decide +kernel
theorem d_Mo_standing_17 : decode b_Mo_standing 17 = .ok (.iload_n 3, 1) := by decide +kernel
theorem d_Mo_standing_18 : decode b_Mo_standing 18 = .ok (.iaload, 1) := by decide +kernel
theorem d_Mo_standing_19 : decode b_Mo_standing 19 = .ok (.iload_n 1, 1) := by decide +kernel
theorem d_Mo_standing_20 : decode b_Mo_standing 20 = .ok (.if_icmp .ne 16, 3) := by decide +kernel
theorem d_Mo_standing_23 : decode b_Mo_standing 23 = .ok (.aload_n 0, 1) := by decide +kernel
theorem d_Mo_standing_24 : decode b_Mo_standing 24 = .ok (.getfield 16, 3) := by decide +kernel
theorem d_Mo_standing_27 : decode b_Mo_standing 27 = .ok (.iload_n 3, 1) := by decide +kernel
theorem d_Mo_standing_28 : decode b_Mo_standing 28 = .ok (.iaload, 1) := by decide +kernel
theorem d_Mo_standing_29 : decode b_Mo_standing 29 = .ok (.ifCond .ne 7, 3) := by decide +kernel
theorem d_Mo_standing_32 : decode b_Mo_standing 32 = .ok (.iconst 1, 1) := by decide +kernel
theorem d_Mo_standing_33 : decode b_Mo_standing 33 = .ok (.goto 4, 3) := by decide +kernel
theorem d_Mo_standing_36 : decode b_Mo_standing 36 = .ok (.iconst 0, 1) := by decide +kernel
theorem d_Mo_standing_37 : decode b_Mo_standing 37 = .ok (.iadd, 1) := by decide +kernel
theorem d_Mo_standing_38 : decode b_Mo_standing 38 = .ok (.istore_n 2, 1) := by decide +kernel
theorem d_Mo_standing_39 : decode b_Mo_standing 39 = .ok (.iinc 3 1, 3) := by decide +kernel
theorem d_Mo_standing_42 : decode b_Mo_standing 42 = .ok (.goto (-38), 3) := by decide +kernel
theorem d_Mo_standing_45 : decode b_Mo_standing 45 = .ok (.iload_n 2, 1) := by decide +kernel
theorem d_Mo_standing_46 : decode b_Mo_standing 46 = .ok (.ireturn, 1) := by decide +kernel
theorem d_Mo_task_0 : decode b_Mo_task 0 = .ok (.aload_n 0, 1) := by decide +kernel
theorem d_Mo_task_1 : decode b_Mo_task 1 = .ok (.getfield 57, 3) := by decide +kernel
theorem d_Mo_task_4 : decode b_Mo_task 4 = .ok (.aload_n 0, 1) := by decide +kernel
theorem d_Mo_task_5 : decode b_Mo_task 5 = .ok (.getfield 90, 3) := by decide +kernel
theorem d_Mo_task_8 : decode b_Mo_task 8 = .ok (.iload_n 1, 1) := by decide +kernel
theorem d_Mo_task_9 : decode b_Mo_task 9 = .ok (.iastore, 1) := by decide +kernel
theorem d_Mo_task_10 : decode b_Mo_task 10 = .ok (.aload_n 0, 1) := by decide +kernel
theorem d_Mo_task_11 : decode b_Mo_task 11 = .ok (.getfield 60, 3) := by decide +kernel
theorem d_Mo_task_14 : decode b_Mo_task 14 = .ok (.aload_n 0, 1) := by decide +kernel
theorem d_Mo_task_15 : decode b_Mo_task 15 = .ok (.getfield 90, 3) := by decide +kernel
theorem d_Mo_task_18 : decode b_Mo_task 18 = .ok (.iconst 1, 1) := by decide +kernel
theorem d_Mo_task_19 : decode b_Mo_task 19 = .ok (.bastore, 1) := by decide +kernel
theorem d_Mo_task_20 : decode b_Mo_task 20 = .ok (.aload_n 0, 1) := by decide +kernel
theorem d_Mo_task_21 : decode b_Mo_task 21 = .ok (.dup, 1) := by decide +kernel
theorem d_Mo_task_22 : decode b_Mo_task 22 = .ok (.getfield 90, 3) := by decide +kernel
theorem d_Mo_task_25 : decode b_Mo_task 25 = .ok (.iconst 1, 1) := by decide +kernel
theorem d_Mo_task_26 : decode b_Mo_task 26 = .ok (.iadd, 1) := by decide +kernel
theorem d_Mo_task_27 : decode b_Mo_task 27 = .ok (.putfield 90, 3) := by decide +kernel
theorem d_Mo_task_30 : decode b_Mo_task 30 = .ok (.aload_n 0, 1) := by decide +kernel
theorem d_Mo_task_31 : decode b_Mo_task 31 = .ok (.dup, 1) := by decide +kernel
theorem d_Mo_task_32 : decode b_Mo_task 32 = .ok (.getfield 93, 3) := by decide +kernel
theorem d_Mo_task_35 : decode b_Mo_task 35 = .ok (.iconst 1, 1) := by decide +kernel
theorem d_Mo_task_36 : decode b_Mo_task 36 = .ok (.iadd, 1) := by decide +kernel
theorem d_Mo_task_37 : decode b_Mo_task 37 = .ok (.putfield 93, 3) := by decide +kernel
theorem d_Mo_task_40 : decode b_Mo_task 40 = .ok (.aload_n 0, 1) := by decide +kernel
theorem d_Mo_task_41 : decode b_Mo_task 41 = .ok (.getfield 90, 3) := by decide +kernel
theorem d_Mo_task_44 : decode b_Mo_task 44 = .ok (.ireturn, 1) := by decide +kernel
theorem d_Mo_get_0 : decode b_Mo_get 0 = .ok (.aload_n 0, 1) := by decide +kernel
theorem d_Mo_get_1 : decode b_Mo_get 1 = .ok (.iconst 1, 1) := by decide +kernel
theorem d_Mo_get_2 : decode b_Mo_get 2 = .ok (.putfield 76, 3) := by decide +kernel
theorem d_Mo_get_5 : decode b_Mo_get 5 = .ok (.iload_n 1, 1) := by decide +kernel
theorem d_Mo_get_6 : decode b_Mo_get 6 = .ok (.invokestatic 105, 3) := by decide +kernel
theorem d_Mo_get_9 : decode b_Mo_get 9 = .ok (.ifCond .ne 5, 3) := by decide +kernel
theorem d_Mo_get_12 : decode b_Mo_get 12 = .ok (.lconst 0, 1) := by decide +kernel
theorem d_Mo_get_13 : decode b_Mo_get 13 = .ok (.lreturn, 1) := by decide +kernel
theorem d_Mo_get_14 : decode b_Mo_get 14 = .ok (.aload_n 0, 1) := by decide +kernel
theorem d_Mo_get_15 : decode b_Mo_get 15 = .ok (.iload_n 1, 1) := by decide +kernel
theorem d_Mo_get_16 : decode b_Mo_get 16 = .ok (.invokevirtual 123, 3) := by decide +kernel
theorem d_Mo_get_19 : decode b_Mo_get 19 = .ok (.ifCond .ne 44, 3) := by decide +kernel
theorem d_Mo_get_22 : decode b_Mo_get 22 = .ok (.aload_n 0, 1) := by decide +kernel
theorem d_Mo_get_23 : decode b_Mo_get 23 = .ok (.aload_n 0, 1) := by decide +kernel
theorem d_Mo_get_24 : decode b_Mo_get 24 = .ok (.getfield 38, 3) := by decide +kernel
theorem d_Mo_get_27 : decode b_Mo_get 27 = .ok (.iload_n 1, 1) := by decide +kernel
theorem d_Mo_get_28 : decode b_Mo_get 28 = .ok (.iaload, 1) := by decide +kernel
theorem d_Mo_get_29 : decode b_Mo_get 29 = .ok (.iload_n 2, 1) := by decide +kernel
theorem d_Mo_get_30 : decode b_Mo_get 30 = .ok (.if_icmp .ne 11, 3) := by decide +kernel
theorem d_Mo_get_33 : decode b_Mo_get 33 = .ok (.iload_n 2, 1) := by decide +kernel
theorem d_Mo_get_34 : decode b_Mo_get 34 = .ok (.ifCond .le 7, 3) := by decide +kernel
theorem d_Mo_get_37 : decode b_Mo_get 37 = .ok (.iconst 0, 1) := by decide +kernel
theorem d_Mo_get_38 : decode b_Mo_get 38 = .ok (.goto 4, 3) := by decide +kernel
theorem d_Mo_get_41 : decode b_Mo_get 41 = .ok (.iconst 1, 1) := by decide +kernel
theorem d_Mo_get_42 : decode b_Mo_get 42 = .ok (.putfield 76, 3) := by decide +kernel
theorem d_Mo_get_45 : decode b_Mo_get 45 = .ok (.aload_n 0, 1) := by decide +kernel
theorem d_Mo_get_46 : decode b_Mo_get 46 = .ok (.getfield 76, 3) := by decide +kernel
theorem d_Mo_get_49 : decode b_Mo_get 49 = .ok (.ifCond .ne 12, 3) := by decide +kernel
theorem d_Mo_get_52 : decode b_Mo_get 52 = .ok (.aload_n 0, 1) := by decide +kernel
theorem d_Mo_get_53 : decode b_Mo_get 53 = .ok (.getfield 51, 3) := by decide +kernel
theorem d_Mo_get_56 : decode b_Mo_get 56 = .ok (.iload_n 1, 1) := by decide +kernel
theorem d_Mo_get_57 : decode b_Mo_get 57 = .ok (.laload, 1) := by decide +kernel
theorem d_Mo_get_58 : decode b_Mo_get 58 = .ok (.goto 4, 3) := by decide +kernel
theorem d_Mo_get_61 : decode b_Mo_get 61 = .ok (.lconst 0, 1) := by decide +kernel
theorem d_Mo_get_62 : decode b_Mo_get 62 = .ok (.lreturn, 1) := by decide +kernel
theorem d_Mo_get_63 : decode b_Mo_get 63 = .ok (.aload_n 0, 1) := by decide +kernel
theorem d_Mo_get_64 : decode b_Mo_get 64 = .ok (.iload_n 1, 1) := by decide +kernel
theorem d_Mo_get_65 : decode b_Mo_get 65 = .ok (.iload_n 2, 1) := by decide +kernel
theorem d_Mo_get_66 : decode b_Mo_get 66 = .ok (.invokevirtual 126, 3) := by decide +kernel
theorem d_Mo_get_69 : decode b_Mo_get 69 = .ok (.istore_n 3, 1) := by decide +kernel
theorem d_Mo_get_70 : decode b_Mo_get 70 = .ok (.iload_n 3, 1) := by decide +kernel
theorem d_Mo_get_71 : decode b_Mo_get 71 = .ok (.iconst (-1), 1) := by decide +kernel
theorem d_Mo_get_72 : decode b_Mo_get 72 = .ok (.if_icmp .ne 5, 3) := by decide +kernel
theorem d_Mo_get_75 : decode b_Mo_get 75 = .ok (.lconst 0, 1) := by decide +kernel
theorem d_Mo_get_76 : decode b_Mo_get 76 = .ok (.lreturn, 1) := by decide +kernel
theorem d_Mo_get_77 : decode b_Mo_get 77 = .ok (.aload_n 0, 1) := by decide +kernel
theorem d_Mo_get_78 : decode b_Mo_get 78 = .ok (.iconst 0, 1) := by decide +kernel
theorem d_Mo_get_79 : decode b_Mo_get 79 = .ok (.putfield 76, 3) := by decide +kernel
theorem d_Mo_get_82 : decode b_Mo_get 82 = .ok (.aload_n 0, 1) := by decide +kernel
theorem d_Mo_get_83 : decode b_Mo_get 83 = .ok (.getfield 48, 3) := by decide +kernel
theorem d_Mo_get_86 : decode b_Mo_get 86 = .ok (.iload_n 1, 1) := by decide +kernel
theorem d_Mo_get_87 : decode b_Mo_get 87 = .ok (.aload_n 0, 1) := by decide +kernel
theorem d_Mo_get_88 : decode b_Mo_get 88 = .ok (.getfield 112, 3) := by decide +kernel
theorem d_Mo_get_91 : decode b_Mo_get 91 = .ok (.lastore, 1) := by decide +kernel
theorem d_Mo_get_92 : decode b_Mo_get 92 = .ok (.aload_n 0, 1) := by decide +kernel
theorem d_Mo_get_93 : decode b_Mo_get 93 = .ok (.getfield 19, 3) := by decide +kernel
theorem d_Mo_get_96 : decode b_Mo_get 96 = .ok (.iload_n 3, 1) := by decide +kernel
theorem d_Mo_get_97 : decode b_Mo_get 97 = .ok (.laload, 1) := by decide +kernel
theorem d_Mo_get_98 : decode b_Mo_get 98 = .ok (.lreturn, 1) := by decide +kernel
theorem d_Mo_isTemporary_0 : decode b_Mo_isTemporary 0 = .ok (.aload_n 0, 1) := by decide +kernel
theorem d_Mo_isTemporary_1 : decode b_Mo_isTemporary 1 = .ok (.getfield 23, 3) := by decide +kernel
theorem d_Mo_isTemporary_4 : decode b_Mo_isTemporary 4 = .ok (.iload_n 1, 1) := by decide +kernel
theorem d_Mo_isTemporary_5 : decode b_Mo_isTemporary 5 = .ok (.iaload, 1) := by decide +kernel
theorem d_Mo_isTemporary_6 : decode b_Mo_isTemporary 6 = .ok (.ifCond .eq 13, 3) := by decide +kernel
theorem d_Mo_isTemporary_9 : decode b_Mo_isTemporary 9 = .ok (.aload_n 0, 1) := by decide +kernel
theorem d_Mo_isTemporary_10 : decode b_Mo_isTemporary 10 = .ok (.getfield 23, 3) := by decide +kernel
theorem d_Mo_isTemporary_13 : decode b_Mo_isTemporary 13 = .ok (.iload_n 1, 1) := by decide +kernel
theorem d_Mo_isTemporary_14 : decode b_Mo_isTemporary 14 = .ok (.iaload, 1) := by decide +kernel
theorem d_Mo_isTemporary_15 : decode b_Mo_isTemporary 15 = .ok (.iconst 1, 1) := by decide +kernel
theorem d_Mo_isTemporary_16 : decode b_Mo_isTemporary 16 = .ok (.if_icmp .ne 7, 3) := by decide +kernel
theorem d_Mo_isTemporary_19 : decode b_Mo_isTemporary 19 = .ok (.iconst 1, 1) := by decide +kernel
theorem d_Mo_isTemporary_20 : decode b_Mo_isTemporary 20 = .ok (.goto 4, 3) := by decide +kernel
theorem d_Mo_isTemporary_23 : decode b_Mo_isTemporary 23 = .ok (.iconst 0, 1) := by decide +kernel
theorem d_Mo_isTemporary_24 : decode b_Mo_isTemporary 24 = .ok (.ireturn, 1) := by decide +kernel
theorem d_Mo_placeOf_0 : decode b_Mo_placeOf 0 = .ok (.iconst 0, 1) := by decide +kernel
theorem d_Mo_placeOf_1 : decode b_Mo_placeOf 1 = .ok (.istore_n 3, 1) := by decide +kernel
theorem d_Mo_placeOf_2 : decode b_Mo_placeOf 2 = .ok (.iconst 0, 1) := by decide +kernel
theorem d_Mo_placeOf_3 : decode b_Mo_placeOf 3 = .ok (.istore 4, 2) := by decide +kernel
theorem d_Mo_placeOf_5 : decode b_Mo_placeOf 5 = .ok (.iload 4, 2) := by decide +kernel
theorem d_Mo_placeOf_7 : decode b_Mo_placeOf 7 = .ok (.aload_n 0, 1) := by decide +kernel
theorem d_Mo_placeOf_8 : decode b_Mo_placeOf 8 = .ok (.getfield 79, 3) := by decide +kernel
theorem d_Mo_placeOf_11 : decode b_Mo_placeOf 11 = .ok (.if_icmp .ge 47, 3) := by decide +kernel
theorem d_Mo_placeOf_14 : decode b_Mo_placeOf 14 = .ok (.iload_n 3, 1) := by decide +kernel
theorem d_Mo_placeOf_15 : decode b_Mo_placeOf 15 = .ok (.aload_n 0, 1) := by decide +kernel
theorem d_Mo_placeOf_16 : decode b_Mo_placeOf 16 = .ok (.getfield 7, 3) := by decide +kernel
theorem d_Mo_placeOf_19 : decode b_Mo_placeOf 19 = .ok (.iload 4, 2) := by decide +kernel
theorem d_Mo_placeOf_21 : decode b_Mo_placeOf 21 = .ok (.iaload, 1) := by decide +kernel
theorem d_Mo_placeOf_22 : decode b_Mo_placeOf 22 = .ok (.iload_n 1, 1) := by decide +kernel
theorem d_Mo_placeOf_23 : decode b_Mo_placeOf 23 = .ok (.if_icmp .ne 7, 3) := by decide +kernel
theorem d_Mo_placeOf_26 : decode b_Mo_placeOf 26 = .ok (.iconst 1, 1) := by decide +kernel
theorem d_Mo_placeOf_27 : decode b_Mo_placeOf 27 = .ok (.goto 4, 3) := by decide +kernel
theorem d_Mo_placeOf_30 : decode b_Mo_placeOf 30 = .ok (.iconst 0, 1) := by decide +kernel
theorem d_Mo_placeOf_31 : decode b_Mo_placeOf 31 = .ok (.iadd, 1) := by decide +kernel
theorem d_Mo_placeOf_32 : decode b_Mo_placeOf 32 = .ok (.istore_n 3, 1) := by decide +kernel
theorem d_Mo_placeOf_33 : decode b_Mo_placeOf 33 = .ok (.aload_n 0, 1) := by decide +kernel
theorem d_Mo_placeOf_34 : decode b_Mo_placeOf 34 = .ok (.getfield 7, 3) := by decide +kernel
theorem d_Mo_placeOf_37 : decode b_Mo_placeOf 37 = .ok (.iload 4, 2) := by decide +kernel
theorem d_Mo_placeOf_39 : decode b_Mo_placeOf 39 = .ok (.iaload, 1) := by decide +kernel
theorem d_Mo_placeOf_40 : decode b_Mo_placeOf 40 = .ok (.iload_n 1, 1) := by decide +kernel
theorem d_Mo_placeOf_41 : decode b_Mo_placeOf 41 = .ok (.if_icmp .ne 11, 3) := by decide +kernel
theorem d_Mo_placeOf_44 : decode b_Mo_placeOf 44 = .ok (.iload_n 3, 1) := by decide +kernel
theorem d_Mo_placeOf_45 : decode b_Mo_placeOf 45 = .ok (.iload_n 2, 1) := by decide +kernel
theorem d_Mo_placeOf_46 : decode b_Mo_placeOf 46 = .ok (.if_icmp .ne 6, 3) := by decide +kernel
theorem d_Mo_placeOf_49 : decode b_Mo_placeOf 49 = .ok (.iload 4, 2) := by decide +kernel
theorem d_Mo_placeOf_51 : decode b_Mo_placeOf 51 = .ok (.ireturn, 1) := by decide +kernel
theorem d_Mo_placeOf_52 : decode b_Mo_placeOf 52 = .ok (.iinc 4 1, 3) := by decide +kernel
theorem d_Mo_placeOf_55 : decode b_Mo_placeOf 55 = .ok (.goto (-50), 3) := by decide +kernel
theorem d_Mo_placeOf_58 : decode b_Mo_placeOf 58 = .ok (.iconst (-1), 1) := by decide +kernel
theorem d_Mo_placeOf_59 : decode b_Mo_placeOf 59 = .ok (.ireturn, 1) := by decide +kernel
theorem d_Mo_next_0 : decode b_Mo_next 0 = .ok (.aload_n 0, 1) := by decide +kernel
theorem d_Mo_next_1 : decode b_Mo_next 1 = .ok (.aload_n 0, 1) := by decide +kernel
theorem d_Mo_next_2 : decode b_Mo_next 2 = .ok (.iload_n 1, 1) := by decide +kernel
theorem d_Mo_next_3 : decode b_Mo_next 3 = .ok (.iload_n 2, 1) := by decide +kernel
theorem d_Mo_next_4 : decode b_Mo_next 4 = .ok (.invokevirtual 133, 3) := by decide +kernel
theorem d_Mo_next_7 : decode b_Mo_next 7 = .ok (.invokevirtual 120, 3) := by decide +kernel
theorem d_Mo_next_10 : decode b_Mo_next 10 = .ok (.ireturn, 1) := by decide +kernel
theorem d_Mo_nexting_0 : decode b_Mo_nexting 0 = .ok (.iload_n 1, 1) := by decide +kernel
theorem d_Mo_nexting_1 : decode b_Mo_nexting 1 = .ok (.invokestatic 105, 3) := by decide +kernel
theorem d_Mo_nexting_4 : decode b_Mo_nexting 4 = .ok (.ifCond .eq 13, 3) := by decide +kernel
theorem d_Mo_nexting_7 : decode b_Mo_nexting 7 = .ok (.iload_n 2, 1) := by decide +kernel
theorem d_Mo_nexting_8 : decode b_Mo_nexting 8 = .ok (.ifCond .lt 9, 3) := by decide +kernel
theorem d_Mo_nexting_11 : decode b_Mo_nexting 11 = .ok (.iload_n 2, 1) := by decide +kernel
theorem d_Mo_nexting_12 : decode b_Mo_nexting 12 = .ok (.bipush 8, 2) := by decide +kernel
theorem d_Mo_nexting_14 : decode b_Mo_nexting 14 = .ok (.if_icmp .lt 6, 3) := by decide +kernel
theorem d_Mo_nexting_17 : decode b_Mo_nexting 17 = .ok (.bipush (-2), 2) := by decide +kernel
theorem d_Mo_nexting_19 : decode b_Mo_nexting 19 = .ok (.ireturn, 1) := by decide +kernel
theorem d_Mo_nexting_20 : decode b_Mo_nexting 20 = .ok (.aload_n 0, 1) := by decide +kernel
theorem d_Mo_nexting_21 : decode b_Mo_nexting 21 = .ok (.iload_n 1, 1) := by decide +kernel
theorem d_Mo_nexting_22 : decode b_Mo_nexting 22 = .ok (.invokevirtual 130, 3) := by decide +kernel
theorem d_Mo_nexting_25 : decode b_Mo_nexting 25 = .ok (.ifCond .eq 6, 3) := by decide +kernel
theorem d_Mo_nexting_28 : decode b_Mo_nexting 28 = .ok (.bipush (-3), 2) := by decide +kernel
theorem d_Mo_nexting_30 : decode b_Mo_nexting 30 = .ok (.ireturn, 1) := by decide +kernel
theorem d_Mo_nexting_31 : decode b_Mo_nexting 31 = .ok (.aload_n 0, 1) := by decide +kernel
theorem d_Mo_nexting_32 : decode b_Mo_nexting 32 = .ok (.getfield 54, 3) := by decide +kernel
theorem d_Mo_nexting_35 : decode b_Mo_nexting 35 = .ok (.bipush 8, 2) := by decide +kernel
theorem d_Mo_nexting_37 : decode b_Mo_nexting 37 = .ok (.iload_n 1, 1) := by decide +kernel
theorem d_Mo_nexting_38 : decode b_Mo_nexting 38 = .ok (.imul, 1) := by decide +kernel
theorem d_Mo_nexting_39 : decode b_Mo_nexting 39 = .ok (.iload_n 2, 1) := by decide +kernel
theorem d_Mo_nexting_40 : decode b_Mo_nexting 40 = .ok (.iadd, 1) := by decide +kernel
theorem d_Mo_nexting_41 : decode b_Mo_nexting 41 = .ok (.iaload, 1) := by decide +kernel
theorem d_Mo_nexting_42 : decode b_Mo_nexting 42 = .ok (.iconst 1, 1) := by decide +kernel
theorem d_Mo_nexting_43 : decode b_Mo_nexting 43 = .ok (.iadd, 1) := by decide +kernel
theorem d_Mo_nexting_44 : decode b_Mo_nexting 44 = .ok (.istore_n 3, 1) := by decide +kernel
theorem d_Mo_nexting_45 : decode b_Mo_nexting 45 = .ok (.iload_n 3, 1) := by decide +kernel
theorem d_Mo_nexting_46 : decode b_Mo_nexting 46 = .ok (.aload_n 0, 1) := by decide +kernel
theorem d_Mo_nexting_47 : decode b_Mo_nexting 47 = .ok (.iload_n 1, 1) := by decide +kernel
theorem d_Mo_nexting_48 : decode b_Mo_nexting 48 = .ok (.invokevirtual 82, 3) := by decide +kernel
theorem d_Mo_nexting_51 : decode b_Mo_nexting 51 = .ok (.if_icmp .le 6, 3) := by decide +kernel
theorem d_Mo_nexting_54 : decode b_Mo_nexting 54 = .ok (.bipush (-4), 2) := by decide +kernel
theorem d_Mo_nexting_56 : decode b_Mo_nexting 56 = .ok (.ireturn, 1) := by decide +kernel
theorem d_Mo_nexting_57 : decode b_Mo_nexting 57 = .ok (.aload_n 0, 1) := by decide +kernel
theorem d_Mo_nexting_58 : decode b_Mo_nexting 58 = .ok (.getfield 54, 3) := by decide +kernel
theorem d_Mo_nexting_61 : decode b_Mo_nexting 61 = .ok (.bipush 8, 2) := by decide +kernel
theorem d_Mo_nexting_63 : decode b_Mo_nexting 63 = .ok (.iload_n 1, 1) := by decide +kernel
theorem d_Mo_nexting_64 : decode b_Mo_nexting 64 = .ok (.imul, 1) := by decide +kernel
theorem d_Mo_nexting_65 : decode b_Mo_nexting 65 = .ok (.iload_n 2, 1) := by decide +kernel
theorem d_Mo_nexting_66 : decode b_Mo_nexting 66 = .ok (.iadd, 1) := by decide +kernel
theorem d_Mo_nexting_67 : decode b_Mo_nexting 67 = .ok (.iload_n 3, 1) := by decide +kernel
theorem d_Mo_nexting_68 : decode b_Mo_nexting 68 = .ok (.iastore, 1) := by decide +kernel
theorem d_Mo_nexting_69 : decode b_Mo_nexting 69 = .ok (.aload_n 0, 1) := by decide +kernel
theorem d_Mo_nexting_70 : decode b_Mo_nexting 70 = .ok (.getfield 48, 3) := by decide +kernel
theorem d_Mo_nexting_73 : decode b_Mo_nexting 73 = .ok (.iload_n 1, 1) := by decide +kernel
theorem d_Mo_nexting_74 : decode b_Mo_nexting 74 = .ok (.aload_n 0, 1) := by decide +kernel
theorem d_Mo_nexting_75 : decode b_Mo_nexting 75 = .ok (.getfield 112, 3) := by decide +kernel
theorem d_Mo_nexting_78 : decode b_Mo_nexting 78 = .ok (.lastore, 1) := by decide +kernel
theorem d_Mo_nexting_79 : decode b_Mo_nexting 79 = .ok (.iload_n 3, 1) := by decide +kernel
theorem d_Mo_nexting_80 : decode b_Mo_nexting 80 = .ok (.ireturn, 1) := by decide +kernel
theorem d_Mo_isTransient_0 : decode b_Mo_isTransient 0 = .ok (.aload_n 0, 1) := by decide +kernel
theorem d_Mo_isTransient_1 : decode b_Mo_isTransient 1 = .ok (.getfield 23, 3) := by decide +kernel
theorem d_Mo_isTransient_4 : decode b_Mo_isTransient 4 = .ok (.iload_n 1, 1) := by decide +kernel
theorem d_Mo_isTransient_5 : decode b_Mo_isTransient 5 = .ok (.iaload, 1) := by decide +kernel
theorem d_Mo_isTransient_6 : decode b_Mo_isTransient 6 = .ok (.iconst 1, 1) := by decide +kernel
theorem d_Mo_isTransient_7 : decode b_Mo_isTransient 7 = .ok (.if_icmp .le 7, 3) := by decide +kernel
theorem d_Mo_isTransient_10 : decode b_Mo_isTransient 10 = .ok (.iconst 1, 1) := by decide +kernel
theorem d_Mo_isTransient_11 : decode b_Mo_isTransient 11 = .ok (.goto 4, 3) := by decide +kernel
theorem d_Mo_isTransient_14 : decode b_Mo_isTransient 14 = .ok (.iconst 0, 1) := by decide +kernel
theorem d_Mo_isTransient_15 : decode b_Mo_isTransient 15 = .ok (.ireturn, 1) := by decide +kernel
theorem d_Mo_take_0 : decode b_Mo_take 0 = .ok (.aload_n 0, 1) := by decide +kernel
theorem d_Mo_take_1 : decode b_Mo_take 1 = .ok (.aload_n 0, 1) := by decide +kernel
theorem d_Mo_take_2 : decode b_Mo_take 2 = .ok (.iload_n 1, 1) := by decide +kernel
theorem d_Mo_take_3 : decode b_Mo_take 3 = .ok (.invokevirtual 139, 3) := by decide +kernel
theorem d_Mo_take_6 : decode b_Mo_take 6 = .ok (.invokevirtual 120, 3) := by decide +kernel
theorem d_Mo_take_9 : decode b_Mo_take 9 = .ok (.ireturn, 1) := by decide +kernel
theorem d_Mo_taking_0 : decode b_Mo_taking 0 = .ok (.iload_n 1, 1) := by decide +kernel
theorem d_Mo_taking_1 : decode b_Mo_taking 1 = .ok (.invokestatic 105, 3) := by decide +kernel
theorem d_Mo_taking_4 : decode b_Mo_taking 4 = .ok (.ifCond .ne 6, 3) := by decide +kernel
theorem d_Mo_taking_7 : decode b_Mo_taking 7 = .ok (.bipush (-2), 2) := by decide +kernel
theorem d_Mo_taking_9 : decode b_Mo_taking 9 = .ok (.ireturn, 1) := by decide +kernel
theorem d_Mo_taking_10 : decode b_Mo_taking 10 = .ok (.aload_n 0, 1) := by decide +kernel
theorem d_Mo_taking_11 : decode b_Mo_taking 11 = .ok (.iload_n 1, 1) := by decide +kernel
theorem d_Mo_taking_12 : decode b_Mo_taking 12 = .ok (.invokevirtual 123, 3) := by decide +kernel
theorem d_Mo_taking_15 : decode b_Mo_taking 15 = .ok (.ifCond .eq 6, 3) := by decide +kernel
theorem d_Mo_taking_18 : decode b_Mo_taking 18 = .ok (.bipush (-3), 2) := by decide +kernel
theorem d_Mo_taking_20 : decode b_Mo_taking 20 = .ok (.ireturn, 1) := by decide +kernel
theorem d_Mo_taking_21 : decode b_Mo_taking 21 = .ok (.aload_n 0, 1) := by decide +kernel
theorem d_Mo_taking_22 : decode b_Mo_taking 22 = .ok (.iload_n 1, 1) := by decide +kernel
theorem d_Mo_taking_23 : decode b_Mo_taking 23 = .ok (.iconst 1, 1) := by decide +kernel
theorem d_Mo_taking_24 : decode b_Mo_taking 24 = .ok (.invokevirtual 126, 3) := by decide +kernel
theorem d_Mo_taking_27 : decode b_Mo_taking 27 = .ok (.istore_n 2, 1) := by decide +kernel
theorem d_Mo_taking_28 : decode b_Mo_taking 28 = .ok (.iload_n 2, 1) := by decide +kernel
theorem d_Mo_taking_29 : decode b_Mo_taking 29 = .ok (.iconst (-1), 1) := by decide +kernel
theorem d_Mo_taking_30 : decode b_Mo_taking 30 = .ok (.if_icmp .ne 6, 3) := by decide +kernel
theorem d_Mo_taking_33 : decode b_Mo_taking 33 = .ok (.bipush (-4), 2) := by decide +kernel
theorem d_Mo_taking_35 : decode b_Mo_taking 35 = .ok (.ireturn, 1) := by decide +kernel
theorem d_Mo_taking_36 : decode b_Mo_taking 36 = .ok (.aload_n 0, 1) := by decide +kernel
theorem d_Mo_taking_37 : decode b_Mo_taking 37 = .ok (.getfield 16, 3) := by decide +kernel
theorem d_Mo_taking_40 : decode b_Mo_taking 40 = .ok (.iload_n 2, 1) := by decide +kernel
theorem d_Mo_taking_41 : decode b_Mo_taking 41 = .ok (.iaload, 1) := by decide +kernel
theorem d_Mo_taking_42 : decode b_Mo_taking 42 = .ok (.ifCond .le 6, 3) := by decide +kernel
theorem d_Mo_taking_45 : decode b_Mo_taking 45 = .ok (.bipush (-5), 2) := by decide +kernel
theorem d_Mo_taking_47 : decode b_Mo_taking 47 = .ok (.ireturn, 1) := by decide +kernel
theorem d_Mo_taking_48 : decode b_Mo_taking 48 = .ok (.aload_n 0, 1) := by decide +kernel
theorem d_Mo_taking_49 : decode b_Mo_taking 49 = .ok (.getfield 38, 3) := by decide +kernel
theorem d_Mo_taking_52 : decode b_Mo_taking 52 = .ok (.iload_n 1, 1) := by decide +kernel
theorem d_Mo_taking_53 : decode b_Mo_taking 53 = .ok (.aload_n 0, 1) := by decide +kernel
theorem d_Mo_taking_54 : decode b_Mo_taking 54 = .ok (.getfield 13, 3) := by decide +kernel
theorem d_Mo_taking_57 : decode b_Mo_taking 57 = .ok (.iload_n 2, 1) := by decide +kernel
theorem d_Mo_taking_58 : decode b_Mo_taking 58 = .ok (.iaload, 1) := by decide +kernel
theorem d_Mo_taking_59 : decode b_Mo_taking 59 = .ok (.iastore, 1) := by decide +kernel
theorem d_Mo_taking_60 : decode b_Mo_taking 60 = .ok (.aload_n 0, 1) := by decide +kernel
theorem d_Mo_taking_61 : decode b_Mo_taking 61 = .ok (.getfield 51, 3) := by decide +kernel
theorem d_Mo_taking_64 : decode b_Mo_taking 64 = .ok (.iload_n 1, 1) := by decide +kernel
theorem d_Mo_taking_65 : decode b_Mo_taking 65 = .ok (.aload_n 0, 1) := by decide +kernel
theorem d_Mo_taking_66 : decode b_Mo_taking 66 = .ok (.getfield 19, 3) := by decide +kernel
theorem d_Mo_taking_69 : decode b_Mo_taking 69 = .ok (.iload_n 2, 1) := by decide +kernel
theorem d_Mo_taking_70 : decode b_Mo_taking 70 = .ok (.laload, 1) := by decide +kernel
theorem d_Mo_taking_71 : decode b_Mo_taking 71 = .ok (.lastore, 1) := by decide +kernel
theorem d_Mo_taking_72 : decode b_Mo_taking 72 = .ok (.aload_n 0, 1) := by decide +kernel
theorem d_Mo_taking_73 : decode b_Mo_taking 73 = .ok (.getfield 45, 3) := by decide +kernel
theorem d_Mo_taking_76 : decode b_Mo_taking 76 = .ok (.iload_n 1, 1) := by decide +kernel
theorem d_Mo_taking_77 : decode b_Mo_taking 77 = .ok (.iconst 1, 1) := by decide +kernel
theorem d_Mo_taking_78 : decode b_Mo_taking 78 = .ok (.bastore, 1) := by decide +kernel
theorem d_Mo_taking_79 : decode b_Mo_taking 79 = .ok (.aload_n 0, 1) := by decide +kernel
theorem d_Mo_taking_80 : decode b_Mo_taking 80 = .ok (.iload_n 2, 1) := by decide +kernel
theorem d_Mo_taking_81 : decode b_Mo_taking 81 = .ok (.invokevirtual 136, 3) := by decide +kernel
theorem d_Mo_taking_84 : decode b_Mo_taking 84 = .ok (.aload_n 0, 1) := by decide +kernel
theorem d_Mo_taking_85 : decode b_Mo_taking 85 = .ok (.getfield 38, 3) := by decide +kernel
theorem d_Mo_taking_88 : decode b_Mo_taking 88 = .ok (.iload_n 1, 1) := by decide +kernel
theorem d_Mo_taking_89 : decode b_Mo_taking 89 = .ok (.iaload, 1) := by decide +kernel
theorem d_Mo_taking_90 : decode b_Mo_taking 90 = .ok (.ireturn, 1) := by decide +kernel
theorem d_Mo_remove_0 : decode b_Mo_remove 0 = .ok (.aload_n 0, 1) := by decide +kernel
theorem d_Mo_remove_1 : decode b_Mo_remove 1 = .ok (.getfield 7, 3) := by decide +kernel
theorem d_Mo_remove_4 : decode b_Mo_remove 4 = .ok (.iload_n 1, 1) := by decide +kernel
theorem d_Mo_remove_5 : decode b_Mo_remove 5 = .ok (.iaload, 1) := by decide +kernel
theorem d_Mo_remove_6 : decode b_Mo_remove 6 = .ok (.istore_n 2, 1) := by decide +kernel
theorem d_Mo_remove_7 : decode b_Mo_remove 7 = .ok (.aload_n 0, 1) := by decide +kernel
theorem d_Mo_remove_8 : decode b_Mo_remove 8 = .ok (.dup, 1) := by decide +kernel
theorem d_Mo_remove_9 : decode b_Mo_remove 9 = .ok (.getfield 79, 3) := by decide +kernel
theorem d_Mo_remove_12 : decode b_Mo_remove 12 = .ok (.iconst 1, 1) := by decide +kernel
theorem d_Mo_remove_13 : decode b_Mo_remove 13 = .ok (.isub, 1) := by decide +kernel
theorem d_Mo_remove_14 : decode b_Mo_remove 14 = .ok (.putfield 79, 3) := by decide +kernel
theorem d_Mo_remove_17 : decode b_Mo_remove 17 = .ok (.iload_n 1, 1) := by decide +kernel
theorem d_Mo_remove_18 : decode b_Mo_remove 18 = .ok (.istore_n 3, 1) := by decide +kernel
theorem d_Mo_remove_19 : decode b_Mo_remove 19 = .ok (.iload_n 3, 1) := by decide +kernel
theorem d_Mo_remove_20 : decode b_Mo_remove 20 = .ok (.aload_n 0, 1) := by decide +kernel
theorem d_Mo_remove_21 : decode b_Mo_remove 21 = .ok (.getfield 79, 3) := by decide +kernel
theorem d_Mo_remove_24 : decode b_Mo_remove 24 = .ok (.if_icmp .ge 65, 3) := by decide +kernel
theorem d_Mo_remove_27 : decode b_Mo_remove 27 = .ok (.aload_n 0, 1) := by decide +kernel
theorem d_Mo_remove_28 : decode b_Mo_remove 28 = .ok (.getfield 7, 3) := by decide +kernel
theorem d_Mo_remove_31 : decode b_Mo_remove 31 = .ok (.iload_n 3, 1) := by decide +kernel
theorem d_Mo_remove_32 : decode b_Mo_remove 32 = .ok (.aload_n 0, 1) := by decide +kernel
theorem d_Mo_remove_33 : decode b_Mo_remove 33 = .ok (.getfield 7, 3) := by decide +kernel
theorem d_Mo_remove_36 : decode b_Mo_remove 36 = .ok (.iload_n 3, 1) := by decide +kernel
theorem d_Mo_remove_37 : decode b_Mo_remove 37 = .ok (.iconst 1, 1) := by decide +kernel
theorem d_Mo_remove_38 : decode b_Mo_remove 38 = .ok (.iadd, 1) := by decide +kernel
theorem d_Mo_remove_39 : decode b_Mo_remove 39 = .ok (.iaload, 1) := by decide +kernel
theorem d_Mo_remove_40 : decode b_Mo_remove 40 = .ok (.iastore, 1) := by decide +kernel
theorem d_Mo_remove_41 : decode b_Mo_remove 41 = .ok (.aload_n 0, 1) := by decide +kernel
theorem d_Mo_remove_42 : decode b_Mo_remove 42 = .ok (.getfield 13, 3) := by decide +kernel
theorem d_Mo_remove_45 : decode b_Mo_remove 45 = .ok (.iload_n 3, 1) := by decide +kernel
theorem d_Mo_remove_46 : decode b_Mo_remove 46 = .ok (.aload_n 0, 1) := by decide +kernel
theorem d_Mo_remove_47 : decode b_Mo_remove 47 = .ok (.getfield 13, 3) := by decide +kernel
theorem d_Mo_remove_50 : decode b_Mo_remove 50 = .ok (.iload_n 3, 1) := by decide +kernel
theorem d_Mo_remove_51 : decode b_Mo_remove 51 = .ok (.iconst 1, 1) := by decide +kernel
theorem d_Mo_remove_52 : decode b_Mo_remove 52 = .ok (.iadd, 1) := by decide +kernel
theorem d_Mo_remove_53 : decode b_Mo_remove 53 = .ok (.iaload, 1) := by decide +kernel
theorem d_Mo_remove_54 : decode b_Mo_remove 54 = .ok (.iastore, 1) := by decide +kernel
theorem d_Mo_remove_55 : decode b_Mo_remove 55 = .ok (.aload_n 0, 1) := by decide +kernel
theorem d_Mo_remove_56 : decode b_Mo_remove 56 = .ok (.getfield 16, 3) := by decide +kernel
theorem d_Mo_remove_59 : decode b_Mo_remove 59 = .ok (.iload_n 3, 1) := by decide +kernel
theorem d_Mo_remove_60 : decode b_Mo_remove 60 = .ok (.aload_n 0, 1) := by decide +kernel
theorem d_Mo_remove_61 : decode b_Mo_remove 61 = .ok (.getfield 16, 3) := by decide +kernel
theorem d_Mo_remove_64 : decode b_Mo_remove 64 = .ok (.iload_n 3, 1) := by decide +kernel
theorem d_Mo_remove_65 : decode b_Mo_remove 65 = .ok (.iconst 1, 1) := by decide +kernel
theorem d_Mo_remove_66 : decode b_Mo_remove 66 = .ok (.iadd, 1) := by decide +kernel
theorem d_Mo_remove_67 : decode b_Mo_remove 67 = .ok (.iaload, 1) := by decide +kernel
theorem d_Mo_remove_68 : decode b_Mo_remove 68 = .ok (.iastore, 1) := by decide +kernel
theorem d_Mo_remove_69 : decode b_Mo_remove 69 = .ok (.aload_n 0, 1) := by decide +kernel
theorem d_Mo_remove_70 : decode b_Mo_remove 70 = .ok (.getfield 19, 3) := by decide +kernel
theorem d_Mo_remove_73 : decode b_Mo_remove 73 = .ok (.iload_n 3, 1) := by decide +kernel
theorem d_Mo_remove_74 : decode b_Mo_remove 74 = .ok (.aload_n 0, 1) := by decide +kernel
theorem d_Mo_remove_75 : decode b_Mo_remove 75 = .ok (.getfield 19, 3) := by decide +kernel
theorem d_Mo_remove_78 : decode b_Mo_remove 78 = .ok (.iload_n 3, 1) := by decide +kernel
theorem d_Mo_remove_79 : decode b_Mo_remove 79 = .ok (.iconst 1, 1) := by decide +kernel
theorem d_Mo_remove_80 : decode b_Mo_remove 80 = .ok (.iadd, 1) := by decide +kernel
theorem d_Mo_remove_81 : decode b_Mo_remove 81 = .ok (.laload, 1) := by decide +kernel
theorem d_Mo_remove_82 : decode b_Mo_remove 82 = .ok (.lastore, 1) := by decide +kernel
theorem d_Mo_remove_83 : decode b_Mo_remove 83 = .ok (.iinc 3 1, 3) := by decide +kernel
theorem d_Mo_remove_86 : decode b_Mo_remove 86 = .ok (.goto (-67), 3) := by decide +kernel
theorem d_Mo_remove_89 : decode b_Mo_remove 89 = .ok (.aload_n 0, 1) := by decide +kernel
theorem d_Mo_remove_90 : decode b_Mo_remove 90 = .ok (.iload_n 2, 1) := by decide +kernel
theorem d_Mo_remove_91 : decode b_Mo_remove 91 = .ok (.invokevirtual 82, 3) := by decide +kernel
theorem d_Mo_remove_94 : decode b_Mo_remove 94 = .ok (.ifCond .ne 8, 3) := by decide +kernel
theorem d_Mo_remove_97 : decode b_Mo_remove 97 = .ok (.aload_n 0, 1) := by decide +kernel
theorem d_Mo_remove_98 : decode b_Mo_remove 98 = .ok (.iload_n 2, 1) := by decide +kernel
theorem d_Mo_remove_99 : decode b_Mo_remove 99 = .ok (.invokevirtual 86, 3) := by decide +kernel
theorem d_Mo_remove_102 : decode b_Mo_remove 102 = .ok (.return_, 1) := by decide +kernel
theorem d_Mo_emptied_0 : decode b_Mo_emptied 0 = .ok (.aload_n 0, 1) := by decide +kernel
theorem d_Mo_emptied_1 : decode b_Mo_emptied 1 = .ok (.getfield 23, 3) := by decide +kernel
theorem d_Mo_emptied_4 : decode b_Mo_emptied 4 = .ok (.iload_n 1, 1) := by decide +kernel
theorem d_Mo_emptied_5 : decode b_Mo_emptied 5 = .ok (.iconst (-1), 1) := by decide +kernel
theorem d_Mo_emptied_6 : decode b_Mo_emptied 6 = .ok (.iastore, 1) := by decide +kernel
theorem d_Mo_emptied_7 : decode b_Mo_emptied 7 = .ok (.iconst 0, 1) := by decide +kernel
theorem d_Mo_emptied_8 : decode b_Mo_emptied 8 = .ok (.istore_n 2, 1) := by decide +kernel
theorem d_Mo_emptied_9 : decode b_Mo_emptied 9 = .ok (.iload_n 2, 1) := by decide +kernel
theorem d_Mo_emptied_10 : decode b_Mo_emptied 10 = .ok (.bipush 8, 2) := by decide +kernel
theorem d_Mo_emptied_12 : decode b_Mo_emptied 12 = .ok (.if_icmp .ge 21, 3) := by decide +kernel
theorem d_Mo_emptied_15 : decode b_Mo_emptied 15 = .ok (.aload_n 0, 1) := by decide +kernel
theorem d_Mo_emptied_16 : decode b_Mo_emptied 16 = .ok (.getfield 54, 3) := by decide +kernel
theorem d_Mo_emptied_19 : decode b_Mo_emptied 19 = .ok (.bipush 8, 2) := by decide +kernel
theorem d_Mo_emptied_21 : decode b_Mo_emptied 21 = .ok (.iload_n 1, 1) := by decide +kernel
theorem d_Mo_emptied_22 : decode b_Mo_emptied 22 = .ok (.imul, 1) := by decide +kernel
theorem d_Mo_emptied_23 : decode b_Mo_emptied 23 = .ok (.iload_n 2, 1) := by decide +kernel
theorem d_Mo_emptied_24 : decode b_Mo_emptied 24 = .ok (.iadd, 1) := by decide +kernel
theorem d_Mo_emptied_25 : decode b_Mo_emptied 25 = .ok (.iconst 0, 1) := by decide +kernel
theorem d_Mo_emptied_26 : decode b_Mo_emptied 26 = .ok (.iastore, 1) := by decide +kernel
theorem d_Mo_emptied_27 : decode b_Mo_emptied 27 = .ok (.iinc 2 1, 3) := by decide +kernel
theorem d_Mo_emptied_30 : decode b_Mo_emptied 30 = .ok (.goto (-21), 3) := by decide +kernel
theorem d_Mo_emptied_33 : decode b_Mo_emptied 33 = .ok (.return_, 1) := by decide +kernel
theorem d_Mo_trigger_0 : decode b_Mo_trigger 0 = .ok (.aload_n 0, 1) := by decide +kernel
theorem d_Mo_trigger_1 : decode b_Mo_trigger 1 = .ok (.aload_n 0, 1) := by decide +kernel
theorem d_Mo_trigger_2 : decode b_Mo_trigger 2 = .ok (.iload_n 1, 1) := by decide +kernel
theorem d_Mo_trigger_3 : decode b_Mo_trigger 3 = .ok (.iload_n 2, 1) := by decide +kernel
theorem d_Mo_trigger_4 : decode b_Mo_trigger 4 = .ok (.iload_n 3, 1) := by decide +kernel
theorem d_Mo_trigger_5 : decode b_Mo_trigger 5 = .ok (.invokevirtual 142, 3) := by decide +kernel
theorem d_Mo_trigger_8 : decode b_Mo_trigger 8 = .ok (.invokevirtual 120, 3) := by decide +kernel
theorem d_Mo_trigger_11 : decode b_Mo_trigger 11 = .ok (.ireturn, 1) := by decide +kernel
theorem d_Mo_triggers_0 : decode b_Mo_triggers 0 = .ok (.iload_n 1, 1) := by decide +kernel
theorem d_Mo_triggers_1 : decode b_Mo_triggers 1 = .ok (.invokestatic 105, 3) := by decide +kernel
theorem d_Mo_triggers_4 : decode b_Mo_triggers 4 = .ok (.ifCond .eq 14, 3) := by decide +kernel
theorem d_Mo_triggers_7 : decode b_Mo_triggers 7 = .ok (.iload_n 2, 1) := by decide +kernel
theorem d_Mo_triggers_8 : decode b_Mo_triggers 8 = .ok (.ifCond .lt 10, 3) := by decide +kernel
theorem d_Mo_triggers_11 : decode b_Mo_triggers 11 = .ok (.iload_n 2, 1) := by decide +kernel
theorem d_Mo_triggers_12 : decode b_Mo_triggers 12 = .ok (.sipush 4096, 3) := by decide +kernel
theorem d_Mo_triggers_15 : decode b_Mo_triggers 15 = .ok (.if_icmp .le 6, 3) := by decide +kernel
theorem d_Mo_triggers_18 : decode b_Mo_triggers 18 = .ok (.bipush (-2), 2) := by decide +kernel
theorem d_Mo_triggers_20 : decode b_Mo_triggers 20 = .ok (.ireturn, 1) := by decide +kernel
theorem d_Mo_triggers_21 : decode b_Mo_triggers 21 = .ok (.aload_n 0, 1) := by decide +kernel
theorem d_Mo_triggers_22 : decode b_Mo_triggers 22 = .ok (.iload_n 1, 1) := by decide +kernel
theorem d_Mo_triggers_23 : decode b_Mo_triggers 23 = .ok (.invokevirtual 123, 3) := by decide +kernel
theorem d_Mo_triggers_26 : decode b_Mo_triggers 26 = .ok (.ifCond .eq 6, 3) := by decide +kernel
theorem d_Mo_triggers_29 : decode b_Mo_triggers 29 = .ok (.bipush (-3), 2) := by decide +kernel
theorem d_Mo_triggers_31 : decode b_Mo_triggers 31 = .ok (.ireturn, 1) := by decide +kernel
theorem d_Mo_triggers_32 : decode b_Mo_triggers 32 = .ok (.aload_n 0, 1) := by decide +kernel
theorem d_Mo_triggers_33 : decode b_Mo_triggers 33 = .ok (.getfield 29, 3) := by decide +kernel
theorem d_Mo_triggers_36 : decode b_Mo_triggers 36 = .ok (.iload_n 1, 1) := by decide +kernel
theorem d_Mo_triggers_37 : decode b_Mo_triggers 37 = .ok (.iload_n 2, 1) := by decide +kernel
theorem d_Mo_triggers_38 : decode b_Mo_triggers 38 = .ok (.iastore, 1) := by decide +kernel
theorem d_Mo_triggers_39 : decode b_Mo_triggers 39 = .ok (.aload_n 0, 1) := by decide +kernel
theorem d_Mo_triggers_40 : decode b_Mo_triggers 40 = .ok (.getfield 32, 3) := by decide +kernel
theorem d_Mo_triggers_43 : decode b_Mo_triggers 43 = .ok (.iload_n 1, 1) := by decide +kernel
theorem d_Mo_triggers_44 : decode b_Mo_triggers 44 = .ok (.iload_n 3, 1) := by decide +kernel
theorem d_Mo_triggers_45 : decode b_Mo_triggers 45 = .ok (.iastore, 1) := by decide +kernel
theorem d_Mo_triggers_46 : decode b_Mo_triggers 46 = .ok (.aload_n 0, 1) := by decide +kernel
theorem d_Mo_triggers_47 : decode b_Mo_triggers 47 = .ok (.getfield 41, 3) := by decide +kernel
theorem d_Mo_triggers_50 : decode b_Mo_triggers 50 = .ok (.iload_n 1, 1) := by decide +kernel
theorem d_Mo_triggers_51 : decode b_Mo_triggers 51 = .ok (.iconst 1, 1) := by decide +kernel
theorem d_Mo_triggers_52 : decode b_Mo_triggers 52 = .ok (.bastore, 1) := by decide +kernel
theorem d_Mo_triggers_53 : decode b_Mo_triggers 53 = .ok (.aload_n 0, 1) := by decide +kernel
theorem d_Mo_triggers_54 : decode b_Mo_triggers 54 = .ok (.getfield 35, 3) := by decide +kernel
theorem d_Mo_triggers_57 : decode b_Mo_triggers 57 = .ok (.iload_n 1, 1) := by decide +kernel
theorem d_Mo_triggers_58 : decode b_Mo_triggers 58 = .ok (.iconst 0, 1) := by decide +kernel
theorem d_Mo_triggers_59 : decode b_Mo_triggers 59 = .ok (.iastore, 1) := by decide +kernel
theorem d_Mo_triggers_60 : decode b_Mo_triggers 60 = .ok (.aload_n 0, 1) := by decide +kernel
theorem d_Mo_triggers_61 : decode b_Mo_triggers 61 = .ok (.getfield 45, 3) := by decide +kernel
theorem d_Mo_triggers_64 : decode b_Mo_triggers 64 = .ok (.iload_n 1, 1) := by decide +kernel
theorem d_Mo_triggers_65 : decode b_Mo_triggers 65 = .ok (.iconst 0, 1) := by decide +kernel
theorem d_Mo_triggers_66 : decode b_Mo_triggers 66 = .ok (.bastore, 1) := by decide +kernel
theorem d_Mo_triggers_67 : decode b_Mo_triggers 67 = .ok (.iconst 1, 1) := by decide +kernel
theorem d_Mo_triggers_68 : decode b_Mo_triggers 68 = .ok (.ireturn, 1) := by decide +kernel
theorem d_Mo_started_0 : decode b_Mo_started 0 = .ok (.aload_n 0, 1) := by decide +kernel
theorem d_Mo_started_1 : decode b_Mo_started 1 = .ok (.iconst 0, 1) := by decide +kernel
theorem d_Mo_started_2 : decode b_Mo_started 2 = .ok (.putfield 76, 3) := by decide +kernel
theorem d_Mo_started_5 : decode b_Mo_started 5 = .ok (.iload_n 1, 1) := by decide +kernel
theorem d_Mo_started_6 : decode b_Mo_started 6 = .ok (.ifCond .le 22, 3) := by decide +kernel
theorem d_Mo_started_9 : decode b_Mo_started 9 = .ok (.iload_n 1, 1) := by decide +kernel
theorem d_Mo_started_10 : decode b_Mo_started 10 = .ok (.aload_n 0, 1) := by decide +kernel
theorem d_Mo_started_11 : decode b_Mo_started 11 = .ok (.getfield 90, 3) := by decide +kernel
theorem d_Mo_started_14 : decode b_Mo_started 14 = .ok (.if_icmp .gt 14, 3) := by decide +kernel
theorem d_Mo_started_17 : decode b_Mo_started 17 = .ok (.aload_n 0, 1) := by decide +kernel
theorem d_Mo_started_18 : decode b_Mo_started 18 = .ok (.getfield 57, 3) := by decide +kernel
theorem d_Mo_started_21 : decode b_Mo_started 21 = .ok (.iload_n 1, 1) := by decide +kernel
theorem d_Mo_started_22 : decode b_Mo_started 22 = .ok (.iconst 1, 1) := by decide +kernel
theorem d_Mo_started_23 : decode b_Mo_started 23 = .ok (.isub, 1) := by decide +kernel
theorem d_Mo_started_24 : decode b_Mo_started 24 = .ok (.iaload, 1) := by decide +kernel
theorem d_Mo_started_25 : decode b_Mo_started 25 = .ok (.goto 4, 3) := by decide +kernel
theorem d_Mo_started_28 : decode b_Mo_started 28 = .ok (.iconst 0, 1) := by decide +kernel
theorem d_Mo_started_29 : decode b_Mo_started 29 = .ok (.ireturn, 1) := by decide +kernel
theorem d_Mo_end_0 : decode b_Mo_end 0 = .ok (.aload_n 0, 1) := by decide +kernel
theorem d_Mo_end_1 : decode b_Mo_end 1 = .ok (.aload_n 0, 1) := by decide +kernel
theorem d_Mo_end_2 : decode b_Mo_end 2 = .ok (.iload_n 1, 1) := by decide +kernel
theorem d_Mo_end_3 : decode b_Mo_end 3 = .ok (.invokevirtual 146, 3) := by decide +kernel
theorem d_Mo_end_6 : decode b_Mo_end 6 = .ok (.invokevirtual 120, 3) := by decide +kernel
theorem d_Mo_end_9 : decode b_Mo_end 9 = .ok (.ireturn, 1) := by decide +kernel
theorem d_Mo_ending_0 : decode b_Mo_ending 0 = .ok (.iload_n 1, 1) := by decide +kernel
theorem d_Mo_ending_1 : decode b_Mo_ending 1 = .ok (.iconst 1, 1) := by decide +kernel
theorem d_Mo_ending_2 : decode b_Mo_ending 2 = .ok (.if_icmp .lt 22, 3) := by decide +kernel
theorem d_Mo_ending_5 : decode b_Mo_ending 5 = .ok (.iload_n 1, 1) := by decide +kernel
theorem d_Mo_ending_6 : decode b_Mo_ending 6 = .ok (.aload_n 0, 1) := by decide +kernel
theorem d_Mo_ending_7 : decode b_Mo_ending 7 = .ok (.getfield 90, 3) := by decide +kernel
theorem d_Mo_ending_10 : decode b_Mo_ending 10 = .ok (.if_icmp .gt 14, 3) := by decide +kernel
theorem d_Mo_ending_13 : decode b_Mo_ending 13 = .ok (.aload_n 0, 1) := by decide +kernel
theorem d_Mo_ending_14 : decode b_Mo_ending 14 = .ok (.getfield 60, 3) := by decide +kernel
theorem d_Mo_ending_17 : decode b_Mo_ending 17 = .ok (.iload_n 1, 1) := by decide +kernel
theorem d_Mo_ending_18 : decode b_Mo_ending 18 = .ok (.iconst 1, 1) := by decide +kernel
theorem d_Mo_ending_19 : decode b_Mo_ending 19 = .ok (.isub, 1) := by decide +kernel
theorem d_Mo_ending_20 : decode b_Mo_ending 20 = .ok (.baload, 1) := by decide +kernel
theorem d_Mo_ending_21 : decode b_Mo_ending 21 = .ok (.ifCond .ne 6, 3) := by decide +kernel
theorem d_Mo_ending_24 : decode b_Mo_ending 24 = .ok (.bipush (-4), 2) := by decide +kernel
theorem d_Mo_ending_26 : decode b_Mo_ending 26 = .ok (.ireturn, 1) := by decide +kernel
theorem d_Mo_ending_27 : decode b_Mo_ending 27 = .ok (.aload_n 0, 1) := by decide +kernel
theorem d_Mo_ending_28 : decode b_Mo_ending 28 = .ok (.getfield 60, 3) := by decide +kernel
theorem d_Mo_ending_31 : decode b_Mo_ending 31 = .ok (.iload_n 1, 1) := by decide +kernel
theorem d_Mo_ending_32 : decode b_Mo_ending 32 = .ok (.iconst 1, 1) := by decide +kernel
theorem d_Mo_ending_33 : decode b_Mo_ending 33 = .ok (.isub, 1) := by decide +kernel
theorem d_Mo_ending_34 : decode b_Mo_ending 34 = .ok (.iconst 0, 1) := by decide +kernel
theorem d_Mo_ending_35 : decode b_Mo_ending 35 = .ok (.bastore, 1) := by decide +kernel
theorem d_Mo_ending_36 : decode b_Mo_ending 36 = .ok (.aload_n 0, 1) := by decide +kernel
theorem d_Mo_ending_37 : decode b_Mo_ending 37 = .ok (.dup, 1) := by decide +kernel
theorem d_Mo_ending_38 : decode b_Mo_ending 38 = .ok (.getfield 93, 3) := by decide +kernel
theorem d_Mo_ending_41 : decode b_Mo_ending 41 = .ok (.iconst 1, 1) := by decide +kernel
theorem d_Mo_ending_42 : decode b_Mo_ending 42 = .ok (.isub, 1) := by decide +kernel
theorem d_Mo_ending_43 : decode b_Mo_ending 43 = .ok (.putfield 93, 3) := by decide +kernel
theorem d_Mo_ending_46 : decode b_Mo_ending 46 = .ok (.iconst 0, 1) := by decide +kernel
theorem d_Mo_ending_47 : decode b_Mo_ending 47 = .ok (.istore_n 2, 1) := by decide +kernel
theorem d_Mo_ending_48 : decode b_Mo_ending 48 = .ok (.iload_n 2, 1) := by decide +kernel
theorem d_Mo_ending_49 : decode b_Mo_ending 49 = .ok (.bipush 32, 2) := by decide +kernel
theorem d_Mo_ending_51 : decode b_Mo_ending 51 = .ok (.if_icmp .ge 92, 3) := by decide +kernel
theorem d_Mo_ending_54 : decode b_Mo_ending 54 = .ok (.aload_n 0, 1) := by decide +kernel
theorem d_Mo_ending_55 : decode b_Mo_ending 55 = .ok (.getfield 29, 3) := by decide +kernel
theorem d_Mo_ending_58 : decode b_Mo_ending 58 = .ok (.iload_n 2, 1) := by decide +kernel
theorem d_Mo_ending_59 : decode b_Mo_ending 59 = .ok (.iaload, 1) := by decide +kernel
theorem d_Mo_ending_60 : decode b_Mo_ending 60 = .ok (.ifCond .eq 77, 3) := by decide +kernel
theorem d_Mo_ending_63 : decode b_Mo_ending 63 = .ok (.aload_n 0, 1) := by decide +kernel
theorem d_Mo_ending_64 : decode b_Mo_ending 64 = .ok (.getfield 35, 3) := by decide +kernel
theorem d_Mo_ending_67 : decode b_Mo_ending 67 = .ok (.iload_n 2, 1) := by decide +kernel
theorem d_Mo_ending_68 : decode b_Mo_ending 68 = .ok (.iaload, 1) := by decide +kernel
theorem d_Mo_ending_69 : decode b_Mo_ending 69 = .ok (.iload_n 1, 1) := by decide +kernel
theorem d_Mo_ending_70 : decode b_Mo_ending 70 = .ok (.if_icmp .eq 6, 3) := by decide +kernel
theorem d_Mo_ending_73 : decode b_Mo_ending 73 = .ok (.goto 64, 3) := by decide +kernel
theorem d_Mo_ending_76 : decode b_Mo_ending 76 = .ok (.aload_n 0, 1) := by decide +kernel
theorem d_Mo_ending_77 : decode b_Mo_ending 77 = .ok (.getfield 45, 3) := by decide +kernel
theorem d_Mo_ending_80 : decode b_Mo_ending 80 = .ok (.iload_n 2, 1) := by decide +kernel
theorem d_Mo_ending_81 : decode b_Mo_ending 81 = .ok (.baload, 1) := by decide +kernel
theorem d_Mo_ending_82 : decode b_Mo_ending 82 = .ok (.ifCond .ne 15, 3) := by decide +kernel
theorem d_Mo_ending_85 : decode b_Mo_ending 85 = .ok (.aload_n 0, 1) := by decide +kernel
theorem d_Mo_ending_86 : decode b_Mo_ending 86 = .ok (.iload_n 2, 1) := by decide +kernel
theorem d_Mo_ending_87 : decode b_Mo_ending 87 = .ok (.invokevirtual 96, 3) := by decide +kernel
theorem d_Mo_ending_90 : decode b_Mo_ending 90 = .ok (.ifCond .le 7, 3) := by decide +kernel
theorem d_Mo_ending_93 : decode b_Mo_ending 93 = .ok (.iconst 1, 1) := by decide +kernel
theorem d_Mo_ending_94 : decode b_Mo_ending 94 = .ok (.goto 4, 3) := by decide +kernel
theorem d_Mo_ending_97 : decode b_Mo_ending 97 = .ok (.iconst 0, 1) := by decide +kernel
theorem d_Mo_ending_98 : decode b_Mo_ending 98 = .ok (.istore_n 3, 1) := by decide +kernel
theorem d_Mo_ending_99 : decode b_Mo_ending 99 = .ok (.aload_n 0, 1) := by decide +kernel
theorem d_Mo_ending_100 : decode b_Mo_ending 100 = .ok (.getfield 35, 3) := by decide +kernel
theorem d_Mo_ending_103 : decode b_Mo_ending 103 = .ok (.iload_n 2, 1) := by decide +kernel
theorem d_Mo_ending_104 : decode b_Mo_ending 104 = .ok (.iload_n 3, 1) := by decide +kernel
theorem d_Mo_ending_105 : decode b_Mo_ending 105 = .ok (.ifCond .eq 16, 3) := by decide +kernel
theorem d_Mo_ending_108 : decode b_Mo_ending 108 = .ok (.aload_n 0, 1) := by decide +kernel
theorem d_Mo_ending_109 : decode b_Mo_ending 109 = .ok (.aload_n 0, 1) := by decide +kernel
theorem d_Mo_ending_110 : decode b_Mo_ending 110 = .ok (.getfield 32, 3) := by decide +kernel
theorem d_Mo_ending_113 : decode b_Mo_ending 113 = .ok (.iload_n 2, 1) := by decide +kernel
theorem d_Mo_ending_114 : decode b_Mo_ending 114 = .ok (.iaload, 1) := by decide +kernel
theorem d_Mo_ending_115 : decode b_Mo_ending 115 = .ok (.invokevirtual 99, 3) := by decide +kernel
theorem d_Mo_ending_118 : decode b_Mo_ending 118 = .ok (.goto 4, 3) := by decide +kernel
theorem d_Mo_ending_121 : decode b_Mo_ending 121 = .ok (.iconst 0, 1) := by decide +kernel
theorem d_Mo_ending_122 : decode b_Mo_ending 122 = .ok (.iastore, 1) := by decide +kernel
theorem d_Mo_ending_123 : decode b_Mo_ending 123 = .ok (.aload_n 0, 1) := by decide +kernel
theorem d_Mo_ending_124 : decode b_Mo_ending 124 = .ok (.getfield 45, 3) := by decide +kernel
theorem d_Mo_ending_127 : decode b_Mo_ending 127 = .ok (.iload_n 2, 1) := by decide +kernel
theorem d_Mo_ending_128 : decode b_Mo_ending 128 = .ok (.iconst 0, 1) := by decide +kernel
theorem d_Mo_ending_129 : decode b_Mo_ending 129 = .ok (.bastore, 1) := by decide +kernel
theorem d_Mo_ending_130 : decode b_Mo_ending 130 = .ok (.aload_n 0, 1) := by decide +kernel
theorem d_Mo_ending_131 : decode b_Mo_ending 131 = .ok (.getfield 35, 3) := by decide +kernel
theorem d_Mo_ending_134 : decode b_Mo_ending 134 = .ok (.iload_n 2, 1) := by decide +kernel
theorem d_Mo_ending_135 : decode b_Mo_ending 135 = .ok (.iaload, 1) := by decide +kernel
theorem d_Mo_ending_136 : decode b_Mo_ending 136 = .ok (.ireturn, 1) := by decide +kernel
theorem d_Mo_ending_137 : decode b_Mo_ending 137 = .ok (.iinc 2 1, 3) := by decide +kernel
theorem d_Mo_ending_140 : decode b_Mo_ending 140 = .ok (.goto (-92), 3) := by decide +kernel
theorem d_Mo_ending_143 : decode b_Mo_ending 143 = .ok (.iconst 0, 1) := by decide +kernel
theorem d_Mo_ending_144 : decode b_Mo_ending 144 = .ok (.ireturn, 1) := by decide +kernel
theorem d_Mo_rewrite_0 : decode b_Mo_rewrite 0 = .ok (.aload_n 0, 1) := by decide +kernel
theorem d_Mo_rewrite_1 : decode b_Mo_rewrite 1 = .ok (.aload_n 0, 1) := by decide +kernel
theorem d_Mo_rewrite_2 : decode b_Mo_rewrite 2 = .ok (.iload_n 1, 1) := by decide +kernel
theorem d_Mo_rewrite_3 : decode b_Mo_rewrite 3 = .ok (.iload_n 2, 1) := by decide +kernel
theorem d_Mo_rewrite_4 : decode b_Mo_rewrite 4 = .ok (.lload_n 3, 1) := by decide +kernel
theorem d_Mo_rewrite_5 : decode b_Mo_rewrite 5 = .ok (.invokevirtual 149, 3) := by decide +kernel
theorem d_Mo_rewrite_8 : decode b_Mo_rewrite 8 = .ok (.invokevirtual 120, 3) := by decide +kernel
theorem d_Mo_rewrite_11 : decode b_Mo_rewrite 11 = .ok (.ireturn, 1) := by decide +kernel
theorem d_Mo_rewriting_0 : decode b_Mo_rewriting 0 = .ok (.iload_n 1, 1) := by decide +kernel
theorem d_Mo_rewriting_1 : decode b_Mo_rewriting 1 = .ok (.invokestatic 105, 3) := by decide +kernel
theorem d_Mo_rewriting_4 : decode b_Mo_rewriting 4 = .ok (.ifCond .ne 6, 3) := by decide +kernel
theorem d_Mo_rewriting_7 : decode b_Mo_rewriting 7 = .ok (.bipush (-2), 2) := by decide +kernel
theorem d_Mo_rewriting_9 : decode b_Mo_rewriting 9 = .ok (.ireturn, 1) := by decide +kernel
theorem d_Mo_rewriting_10 : decode b_Mo_rewriting 10 = .ok (.aload_n 0, 1) := by decide +kernel
theorem d_Mo_rewriting_11 : decode b_Mo_rewriting 11 = .ok (.iload_n 1, 1) := by decide +kernel
theorem d_Mo_rewriting_12 : decode b_Mo_rewriting 12 = .ok (.invokevirtual 130, 3) := by decide +kernel
theorem d_Mo_rewriting_15 : decode b_Mo_rewriting 15 = .ok (.ifCond .eq 6, 3) := by decide +kernel
theorem d_Mo_rewriting_18 : decode b_Mo_rewriting 18 = .ok (.bipush (-3), 2) := by decide +kernel
theorem d_Mo_rewriting_20 : decode b_Mo_rewriting 20 = .ok (.ireturn, 1) := by decide +kernel
theorem d_Mo_rewriting_21 : decode b_Mo_rewriting 21 = .ok (.aload_n 0, 1) := by decide +kernel
theorem d_Mo_rewriting_22 : decode b_Mo_rewriting 22 = .ok (.iload_n 1, 1) := by decide +kernel
theorem d_Mo_rewriting_23 : decode b_Mo_rewriting 23 = .ok (.iload_n 2, 1) := by decide +kernel
theorem d_Mo_rewriting_24 : decode b_Mo_rewriting 24 = .ok (.invokevirtual 126, 3) := by decide +kernel
theorem d_Mo_rewriting_27 : decode b_Mo_rewriting 27 = .ok (.istore 5, 2) := by decide +kernel
theorem d_Mo_rewriting_29 : decode b_Mo_rewriting 29 = .ok (.iload 5, 2) := by decide +kernel
theorem d_Mo_rewriting_31 : decode b_Mo_rewriting 31 = .ok (.iconst (-1), 1) := by decide +kernel
theorem d_Mo_rewriting_32 : decode b_Mo_rewriting 32 = .ok (.if_icmp .ne 6, 3) := by decide +kernel
theorem d_Mo_rewriting_35 : decode b_Mo_rewriting 35 = .ok (.bipush (-4), 2) := by decide +kernel
theorem d_Mo_rewriting_37 : decode b_Mo_rewriting 37 = .ok (.ireturn, 1) := by decide +kernel
theorem d_Mo_rewriting_38 : decode b_Mo_rewriting 38 = .ok (.aload_n 0, 1) := by decide +kernel
theorem d_Mo_rewriting_39 : decode b_Mo_rewriting 39 = .ok (.getfield 19, 3) := by decide +kernel
theorem d_Mo_rewriting_42 : decode b_Mo_rewriting 42 = .ok (.iload 5, 2) := by decide +kernel
theorem d_Mo_rewriting_44 : decode b_Mo_rewriting 44 = .ok (.lload_n 3, 1) := by decide +kernel
theorem d_Mo_rewriting_45 : decode b_Mo_rewriting 45 = .ok (.lastore, 1) := by decide +kernel
theorem d_Mo_rewriting_46 : decode b_Mo_rewriting 46 = .ok (.aload_n 0, 1) := by decide +kernel
theorem d_Mo_rewriting_47 : decode b_Mo_rewriting 47 = .ok (.getfield 48, 3) := by decide +kernel
theorem d_Mo_rewriting_50 : decode b_Mo_rewriting 50 = .ok (.iload_n 1, 1) := by decide +kernel
theorem d_Mo_rewriting_51 : decode b_Mo_rewriting 51 = .ok (.aload_n 0, 1) := by decide +kernel
theorem d_Mo_rewriting_52 : decode b_Mo_rewriting 52 = .ok (.getfield 112, 3) := by decide +kernel
theorem d_Mo_rewriting_55 : decode b_Mo_rewriting 55 = .ok (.lastore, 1) := by decide +kernel
theorem d_Mo_rewriting_56 : decode b_Mo_rewriting 56 = .ok (.iconst 1, 1) := by decide +kernel
theorem d_Mo_rewriting_57 : decode b_Mo_rewriting 57 = .ok (.ireturn, 1) := by decide +kernel
theorem d_Mo_delay_0 : decode b_Mo_delay 0 = .ok (.aload_n 0, 1) := by decide +kernel
theorem d_Mo_delay_1 : decode b_Mo_delay 1 = .ok (.getfield 153, 3) := by decide +kernel
theorem d_Mo_delay_4 : decode b_Mo_delay 4 = .ok (.sipush 200, 3) := by decide +kernel
theorem d_Mo_delay_7 : decode b_Mo_delay 7 = .ok (.if_icmp .ne 9, 3) := by decide +kernel
theorem d_Mo_delay_10 : decode b_Mo_delay 10 = .ok (.aload_n 0, 1) := by decide +kernel
theorem d_Mo_delay_11 : decode b_Mo_delay 11 = .ok (.iconst (-1), 1) := by decide +kernel
theorem d_Mo_delay_12 : decode b_Mo_delay 12 = .ok (.invokevirtual 120, 3) := by decide +kernel
theorem d_Mo_delay_15 : decode b_Mo_delay 15 = .ok (.ireturn, 1) := by decide +kernel
theorem d_Mo_delay_16 : decode b_Mo_delay 16 = .ok (.aload_n 0, 1) := by decide +kernel
theorem d_Mo_delay_17 : decode b_Mo_delay 17 = .ok (.dup, 1) := by decide +kernel
theorem d_Mo_delay_18 : decode b_Mo_delay 18 = .ok (.getfield 156, 3) := by decide +kernel
theorem d_Mo_delay_21 : decode b_Mo_delay 21 = .ok (.iconst 1, 1) := by decide +kernel
theorem d_Mo_delay_22 : decode b_Mo_delay 22 = .ok (.iadd, 1) := by decide +kernel
theorem d_Mo_delay_23 : decode b_Mo_delay 23 = .ok (.putfield 156, 3) := by decide +kernel
theorem d_Mo_delay_26 : decode b_Mo_delay 26 = .ok (.lload_n 2, 1) := by decide +kernel
theorem d_Mo_delay_27 : decode b_Mo_delay 27 = .ok (.aload_n 0, 1) := by decide +kernel
theorem d_Mo_delay_28 : decode b_Mo_delay 28 = .ok (.getfield 112, 3) := by decide +kernel
theorem d_Mo_delay_31 : decode b_Mo_delay 31 = .ok (.lcmp, 1) := by decide +kernel
theorem d_Mo_delay_32 : decode b_Mo_delay 32 = .ok (.ifCond .gt 18, 3) := by decide +kernel
theorem d_Mo_delay_35 : decode b_Mo_delay 35 = .ok (.aload_n 0, 1) := by decide +kernel
theorem d_Mo_delay_36 : decode b_Mo_delay 36 = .ok (.iload_n 1, 1) := by decide +kernel
theorem d_Mo_delay_37 : decode b_Mo_delay 37 = .ok (.invokevirtual 99, 3) := by decide +kernel
theorem d_Mo_delay_40 : decode b_Mo_delay 40 = .ok (.pop, 1) := by decide +kernel
theorem d_Mo_delay_41 : decode b_Mo_delay 41 = .ok (.aload_n 0, 1) := by decide +kernel
theorem d_Mo_delay_42 : decode b_Mo_delay 42 = .ok (.aload_n 0, 1) := by decide +kernel
theorem d_Mo_delay_43 : decode b_Mo_delay 43 = .ok (.getfield 156, 3) := by decide +kernel
theorem d_Mo_delay_46 : decode b_Mo_delay 46 = .ok (.invokevirtual 120, 3) := by decide +kernel
theorem d_Mo_delay_49 : decode b_Mo_delay 49 = .ok (.ireturn, 1) := by decide +kernel
theorem d_Mo_delay_50 : decode b_Mo_delay 50 = .ok (.aload_n 0, 1) := by decide +kernel
theorem d_Mo_delay_51 : decode b_Mo_delay 51 = .ok (.getfield 63, 3) := by decide +kernel
theorem d_Mo_delay_54 : decode b_Mo_delay 54 = .ok (.aload_n 0, 1) := by decide +kernel
theorem d_Mo_delay_55 : decode b_Mo_delay 55 = .ok (.getfield 153, 3) := by decide +kernel
theorem d_Mo_delay_58 : decode b_Mo_delay 58 = .ok (.aload_n 0, 1) := by decide +kernel
theorem d_Mo_delay_59 : decode b_Mo_delay 59 = .ok (.getfield 156, 3) := by decide +kernel
theorem d_Mo_delay_62 : decode b_Mo_delay 62 = .ok (.iastore, 1) := by decide +kernel
theorem d_Mo_delay_63 : decode b_Mo_delay 63 = .ok (.aload_n 0, 1) := by decide +kernel
theorem d_Mo_delay_64 : decode b_Mo_delay 64 = .ok (.getfield 66, 3) := by decide +kernel
theorem d_Mo_delay_67 : decode b_Mo_delay 67 = .ok (.aload_n 0, 1) := by decide +kernel
theorem d_Mo_delay_68 : decode b_Mo_delay 68 = .ok (.getfield 153, 3) := by decide +kernel
theorem d_Mo_delay_71 : decode b_Mo_delay 71 = .ok (.iload_n 1, 1) := by decide +kernel
theorem d_Mo_delay_72 : decode b_Mo_delay 72 = .ok (.iastore, 1) := by decide +kernel
theorem d_Mo_delay_73 : decode b_Mo_delay 73 = .ok (.aload_n 0, 1) := by decide +kernel
theorem d_Mo_delay_74 : decode b_Mo_delay 74 = .ok (.getfield 69, 3) := by decide +kernel
theorem d_Mo_delay_77 : decode b_Mo_delay 77 = .ok (.aload_n 0, 1) := by decide +kernel
theorem d_Mo_delay_78 : decode b_Mo_delay 78 = .ok (.getfield 153, 3) := by decide +kernel
theorem d_Mo_delay_81 : decode b_Mo_delay 81 = .ok (.lload_n 2, 1) := by decide +kernel
theorem d_Mo_delay_82 : decode b_Mo_delay 82 = .ok (.lastore, 1) := by decide +kernel
theorem d_Mo_delay_83 : decode b_Mo_delay 83 = .ok (.aload_n 0, 1) := by decide +kernel
theorem d_Mo_delay_84 : decode b_Mo_delay 84 = .ok (.dup, 1) := by decide +kernel
theorem d_Mo_delay_85 : decode b_Mo_delay 85 = .ok (.getfield 153, 3) := by decide +kernel
theorem d_Mo_delay_88 : decode b_Mo_delay 88 = .ok (.iconst 1, 1) := by decide +kernel
theorem d_Mo_delay_89 : decode b_Mo_delay 89 = .ok (.iadd, 1) := by decide +kernel
theorem d_Mo_delay_90 : decode b_Mo_delay 90 = .ok (.putfield 153, 3) := by decide +kernel
theorem d_Mo_delay_93 : decode b_Mo_delay 93 = .ok (.aload_n 0, 1) := by decide +kernel
theorem d_Mo_delay_94 : decode b_Mo_delay 94 = .ok (.aload_n 0, 1) := by decide +kernel
theorem d_Mo_delay_95 : decode b_Mo_delay 95 = .ok (.getfield 156, 3) := by decide +kernel
theorem d_Mo_delay_98 : decode b_Mo_delay 98 = .ok (.invokevirtual 120, 3) := by decide +kernel
theorem d_Mo_delay_101 : decode b_Mo_delay 101 = .ok (.ireturn, 1) := by decide +kernel
theorem d_Mo_cancel_0 : decode b_Mo_cancel 0 = .ok (.iconst (-1), 1) := by decide +kernel
theorem d_Mo_cancel_1 : decode b_Mo_cancel 1 = .ok (.istore_n 2, 1) := by decide +kernel
theorem d_Mo_cancel_2 : decode b_Mo_cancel 2 = .ok (.iconst 0, 1) := by decide +kernel
theorem d_Mo_cancel_3 : decode b_Mo_cancel 3 = .ok (.istore_n 3, 1) := by decide +kernel
theorem d_Mo_cancel_4 : decode b_Mo_cancel 4 = .ok (.iload_n 3, 1) := by decide +kernel
theorem d_Mo_cancel_5 : decode b_Mo_cancel 5 = .ok (.aload_n 0, 1) := by decide +kernel
theorem d_Mo_cancel_6 : decode b_Mo_cancel 6 = .ok (.getfield 153, 3) := by decide +kernel
theorem d_Mo_cancel_9 : decode b_Mo_cancel 9 = .ok (.if_icmp .ge 25, 3) := by decide +kernel
theorem d_Mo_cancel_12 : decode b_Mo_cancel 12 = .ok (.aload_n 0, 1) := by decide +kernel
theorem d_Mo_cancel_13 : decode b_Mo_cancel 13 = .ok (.getfield 63, 3) := by decide +kernel
theorem d_Mo_cancel_16 : decode b_Mo_cancel 16 = .ok (.iload_n 3, 1) := by decide +kernel
theorem d_Mo_cancel_17 : decode b_Mo_cancel 17 = .ok (.iaload, 1) := by decide +kernel
theorem d_Mo_cancel_18 : decode b_Mo_cancel 18 = .ok (.iload_n 1, 1) := by decide +kernel
theorem d_Mo_cancel_19 : decode b_Mo_cancel 19 = .ok (.if_icmp .ne 7, 3) := by decide +kernel
theorem d_Mo_cancel_22 : decode b_Mo_cancel 22 = .ok (.iload_n 3, 1) := by decide +kernel
theorem d_Mo_cancel_23 : decode b_Mo_cancel 23 = .ok (.goto 4, 3) := by decide +kernel
theorem d_Mo_cancel_26 : decode b_Mo_cancel 26 = .ok (.iload_n 2, 1) := by decide +kernel
theorem d_Mo_cancel_27 : decode b_Mo_cancel 27 = .ok (.istore_n 2, 1) := by decide +kernel
theorem d_Mo_cancel_28 : decode b_Mo_cancel 28 = .ok (.iinc 3 1, 3) := by decide +kernel
theorem d_Mo_cancel_31 : decode b_Mo_cancel 31 = .ok (.goto (-27), 3) := by decide +kernel
theorem d_Mo_cancel_34 : decode b_Mo_cancel 34 = .ok (.iload_n 2, 1) := by decide +kernel
theorem d_Mo_cancel_35 : decode b_Mo_cancel 35 = .ok (.iconst (-1), 1) := by decide +kernel
theorem d_Mo_cancel_36 : decode b_Mo_cancel 36 = .ok (.if_icmp .ne 9, 3) := by decide +kernel
theorem d_Mo_cancel_39 : decode b_Mo_cancel 39 = .ok (.aload_n 0, 1) := by decide +kernel
theorem d_Mo_cancel_40 : decode b_Mo_cancel 40 = .ok (.iconst 0, 1) := by decide +kernel
theorem d_Mo_cancel_41 : decode b_Mo_cancel 41 = .ok (.invokevirtual 120, 3) := by decide +kernel
theorem d_Mo_cancel_44 : decode b_Mo_cancel 44 = .ok (.ireturn, 1) := by decide +kernel
theorem d_Mo_cancel_45 : decode b_Mo_cancel 45 = .ok (.aload_n 0, 1) := by decide +kernel
theorem d_Mo_cancel_46 : decode b_Mo_cancel 46 = .ok (.iload_n 2, 1) := by decide +kernel
theorem d_Mo_cancel_47 : decode b_Mo_cancel 47 = .ok (.invokevirtual 159, 3) := by decide +kernel
theorem d_Mo_cancel_50 : decode b_Mo_cancel 50 = .ok (.aload_n 0, 1) := by decide +kernel
theorem d_Mo_cancel_51 : decode b_Mo_cancel 51 = .ok (.iconst 1, 1) := by decide +kernel
theorem d_Mo_cancel_52 : decode b_Mo_cancel 52 = .ok (.invokevirtual 120, 3) := by decide +kernel
theorem d_Mo_cancel_55 : decode b_Mo_cancel 55 = .ok (.ireturn, 1) := by decide +kernel
theorem d_Mo_drop_0 : decode b_Mo_drop 0 = .ok (.aload_n 0, 1) := by decide +kernel
theorem d_Mo_drop_1 : decode b_Mo_drop 1 = .ok (.dup, 1) := by decide +kernel
theorem d_Mo_drop_2 : decode b_Mo_drop 2 = .ok (.getfield 153, 3) := by decide +kernel
theorem d_Mo_drop_5 : decode b_Mo_drop 5 = .ok (.iconst 1, 1) := by decide +kernel
theorem d_Mo_drop_6 : decode b_Mo_drop 6 = .ok (.isub, 1) := by decide +kernel
theorem d_Mo_drop_7 : decode b_Mo_drop 7 = .ok (.putfield 153, 3) := by decide +kernel
theorem d_Mo_drop_10 : decode b_Mo_drop 10 = .ok (.iload_n 1, 1) := by decide +kernel
theorem d_Mo_drop_11 : decode b_Mo_drop 11 = .ok (.istore_n 2, 1) := by decide +kernel
theorem d_Mo_drop_12 : decode b_Mo_drop 12 = .ok (.iload_n 2, 1) := by decide +kernel
theorem d_Mo_drop_13 : decode b_Mo_drop 13 = .ok (.aload_n 0, 1) := by decide +kernel
theorem d_Mo_drop_14 : decode b_Mo_drop 14 = .ok (.getfield 153, 3) := by decide +kernel
theorem d_Mo_drop_17 : decode b_Mo_drop 17 = .ok (.if_icmp .ge 51, 3) := by decide +kernel
theorem d_Mo_drop_20 : decode b_Mo_drop 20 = .ok (.aload_n 0, 1) := by decide +kernel
theorem d_Mo_drop_21 : decode b_Mo_drop 21 = .ok (.getfield 63, 3) := by decide +kernel
theorem d_Mo_drop_24 : decode b_Mo_drop 24 = .ok (.iload_n 2, 1) := by decide +kernel
theorem d_Mo_drop_25 : decode b_Mo_drop 25 = .ok (.aload_n 0, 1) := by decide +kernel
theorem d_Mo_drop_26 : decode b_Mo_drop 26 = .ok (.getfield 63, 3) := by decide +kernel
theorem d_Mo_drop_29 : decode b_Mo_drop 29 = .ok (.iload_n 2, 1) := by decide +kernel
theorem d_Mo_drop_30 : decode b_Mo_drop 30 = .ok (.iconst 1, 1) := by decide +kernel
theorem d_Mo_drop_31 : decode b_Mo_drop 31 = .ok (.iadd, 1) := by decide +kernel
theorem d_Mo_drop_32 : decode b_Mo_drop 32 = .ok (.iaload, 1) := by decide +kernel
theorem d_Mo_drop_33 : decode b_Mo_drop 33 = .ok (.iastore, 1) := by decide +kernel
theorem d_Mo_drop_34 : decode b_Mo_drop 34 = .ok (.aload_n 0, 1) := by decide +kernel
theorem d_Mo_drop_35 : decode b_Mo_drop 35 = .ok (.getfield 66, 3) := by decide +kernel
theorem d_Mo_drop_38 : decode b_Mo_drop 38 = .ok (.iload_n 2, 1) := by decide +kernel
theorem d_Mo_drop_39 : decode b_Mo_drop 39 = .ok (.aload_n 0, 1) := by decide +kernel
theorem d_Mo_drop_40 : decode b_Mo_drop 40 = .ok (.getfield 66, 3) := by decide +kernel
theorem d_Mo_drop_43 : decode b_Mo_drop 43 = .ok (.iload_n 2, 1) := by decide +kernel
theorem d_Mo_drop_44 : decode b_Mo_drop 44 = .ok (.iconst 1, 1) := by decide +kernel
theorem d_Mo_drop_45 : decode b_Mo_drop 45 = .ok (.iadd, 1) := by decide +kernel
theorem d_Mo_drop_46 : decode b_Mo_drop 46 = .ok (.iaload, 1) := by decide +kernel
theorem d_Mo_drop_47 : decode b_Mo_drop 47 = .ok (.iastore, 1) := by decide +kernel
theorem d_Mo_drop_48 : decode b_Mo_drop 48 = .ok (.aload_n 0, 1) := by decide +kernel
theorem d_Mo_drop_49 : decode b_Mo_drop 49 = .ok (.getfield 69, 3) := by decide +kernel
theorem d_Mo_drop_52 : decode b_Mo_drop 52 = .ok (.iload_n 2, 1) := by decide +kernel
theorem d_Mo_drop_53 : decode b_Mo_drop 53 = .ok (.aload_n 0, 1) := by decide +kernel
theorem d_Mo_drop_54 : decode b_Mo_drop 54 = .ok (.getfield 69, 3) := by decide +kernel
theorem d_Mo_drop_57 : decode b_Mo_drop 57 = .ok (.iload_n 2, 1) := by decide +kernel
theorem d_Mo_drop_58 : decode b_Mo_drop 58 = .ok (.iconst 1, 1) := by decide +kernel
theorem d_Mo_drop_59 : decode b_Mo_drop 59 = .ok (.iadd, 1) := by decide +kernel
theorem d_Mo_drop_60 : decode b_Mo_drop 60 = .ok (.laload, 1) := by decide +kernel
theorem d_Mo_drop_61 : decode b_Mo_drop 61 = .ok (.lastore, 1) := by decide +kernel
theorem d_Mo_drop_62 : decode b_Mo_drop 62 = .ok (.iinc 2 1, 3) := by decide +kernel
theorem d_Mo_drop_65 : decode b_Mo_drop 65 = .ok (.goto (-53), 3) := by decide +kernel
theorem d_Mo_drop_68 : decode b_Mo_drop 68 = .ok (.return_, 1) := by decide +kernel
theorem d_Mo_tick_0 : decode b_Mo_tick 0 = .ok (.lload_n 1, 1) := by decide +kernel
theorem d_Mo_tick_1 : decode b_Mo_tick 1 = .ok (.aload_n 0, 1) := by decide +kernel
theorem d_Mo_tick_2 : decode b_Mo_tick 2 = .ok (.getfield 112, 3) := by decide +kernel
theorem d_Mo_tick_5 : decode b_Mo_tick 5 = .ok (.lcmp, 1) := by decide +kernel
theorem d_Mo_tick_6 : decode b_Mo_tick 6 = .ok (.ifCond .ge 9, 3) := by decide +kernel
theorem d_Mo_tick_9 : decode b_Mo_tick 9 = .ok (.aload_n 0, 1) := by decide +kernel
theorem d_Mo_tick_10 : decode b_Mo_tick 10 = .ok (.iconst (-1), 1) := by decide +kernel
theorem d_Mo_tick_11 : decode b_Mo_tick 11 = .ok (.invokevirtual 120, 3) := by decide +kernel
theorem d_Mo_tick_14 : decode b_Mo_tick 14 = .ok (.ireturn, 1) := by decide +kernel
theorem d_Mo_tick_15 : decode b_Mo_tick 15 = .ok (.aload_n 0, 1) := by decide +kernel
theorem d_Mo_tick_16 : decode b_Mo_tick 16 = .ok (.lload_n 1, 1) := by decide +kernel
theorem d_Mo_tick_17 : decode b_Mo_tick 17 = .ok (.putfield 112, 3) := by decide +kernel
theorem d_Mo_tick_20 : decode b_Mo_tick 20 = .ok (.iconst 0, 1) := by decide +kernel
theorem d_Mo_tick_21 : decode b_Mo_tick 21 = .ok (.istore_n 3, 1) := by decide +kernel
theorem d_Mo_tick_22 : decode b_Mo_tick 22 = .ok (.iconst 1, 1) := by decide +kernel
theorem d_Mo_tick_23 : decode b_Mo_tick 23 = .ok (.istore 4, 2) := by decide +kernel
theorem d_Mo_tick_25 : decode b_Mo_tick 25 = .ok (.iload 4, 2) := by decide +kernel
theorem d_Mo_tick_27 : decode b_Mo_tick 27 = .ok (.ifCond .eq 117, 3) := by decide +kernel
theorem d_Mo_tick_30 : decode b_Mo_tick 30 = .ok (.iconst (-1), 1) := by decide +kernel
theorem d_Mo_tick_31 : decode b_Mo_tick 31 = .ok (.istore 5, 2) := by decide +kernel
theorem d_Mo_tick_33 : decode b_Mo_tick 33 = .ok (.iconst 0, 1) := by decide +kernel
theorem d_Mo_tick_34 : decode b_Mo_tick 34 = .ok (.istore 6, 2) := by decide +kernel
theorem d_Mo_tick_36 : decode b_Mo_tick 36 = .ok (.iload 6, 2) := by decide +kernel
theorem d_Mo_tick_38 : decode b_Mo_tick 38 = .ok (.aload_n 0, 1) := by decide +kernel
theorem d_Mo_tick_39 : decode b_Mo_tick 39 = .ok (.getfield 153, 3) := by decide +kernel
theorem d_Mo_tick_42 : decode b_Mo_tick 42 = .ok (.if_icmp .ge 57, 3) := by decide +kernel
theorem d_Mo_tick_45 : decode b_Mo_tick 45 = .ok (.aload_n 0, 1) := by decide +kernel
theorem d_Mo_tick_46 : decode b_Mo_tick 46 = .ok (.getfield 69, 3) := by decide +kernel
theorem d_Mo_tick_49 : decode b_Mo_tick 49 = .ok (.iload 6, 2) := by decide +kernel
theorem d_Mo_tick_51 : decode b_Mo_tick 51 = .ok (.laload, 1) := by decide +kernel
theorem d_Mo_tick_52 : decode b_Mo_tick 52 = .ok (.aload_n 0, 1) := by decide +kernel
theorem d_Mo_tick_53 : decode b_Mo_tick 53 = .ok (.getfield 112, 3) := by decide +kernel
theorem d_Mo_tick_56 : decode b_Mo_tick 56 = .ok (.lcmp, 1) := by decide +kernel
theorem d_Mo_tick_57 : decode b_Mo_tick 57 = .ok (.ifCond .gt 32, 3) := by decide +kernel
theorem d_Mo_tick_60 : decode b_Mo_tick 60 = .ok (.iload 5, 2) := by decide +kernel
theorem d_Mo_tick_62 : decode b_Mo_tick 62 = .ok (.iconst (-1), 1) := by decide +kernel
theorem d_Mo_tick_63 : decode b_Mo_tick 63 = .ok (.if_icmp .eq 21, 3) := by decide +kernel
theorem d_Mo_tick_66 : decode b_Mo_tick 66 = .ok (.aload_n 0, 1) := by decide +kernel
theorem d_Mo_tick_67 : decode b_Mo_tick 67 = .ok (.getfield 69, 3) := by decide +kernel
theorem d_Mo_tick_70 : decode b_Mo_tick 70 = .ok (.iload 6, 2) := by decide +kernel
theorem d_Mo_tick_72 : decode b_Mo_tick 72 = .ok (.laload, 1) := by decide +kernel
theorem d_Mo_tick_73 : decode b_Mo_tick 73 = .ok (.aload_n 0, 1) := by decide +kernel
theorem d_Mo_tick_74 : decode b_Mo_tick 74 = .ok (.getfield 69, 3) := by decide +kernel
theorem d_Mo_tick_77 : decode b_Mo_tick 77 = .ok (.iload 5, 2) := by decide +kernel
theorem d_Mo_tick_79 : decode b_Mo_tick 79 = .ok (.laload, 1) := by decide +kernel
theorem d_Mo_tick_80 : decode b_Mo_tick 80 = .ok (.lcmp, 1) := by decide +kernel
theorem d_Mo_tick_81 : decode b_Mo_tick 81 = .ok (.ifCond .ge 8, 3) := by decide +kernel
theorem d_Mo_tick_84 : decode b_Mo_tick 84 = .ok (.iload 6, 2) := by decide +kernel
theorem d_Mo_tick_86 : decode b_Mo_tick 86 = .ok (.goto 5, 3) := by decide +kernel
theorem d_Mo_tick_89 : decode b_Mo_tick 89 = .ok (.iload 5, 2) := by decide +kernel
theorem d_Mo_tick_91 : decode b_Mo_tick 91 = .ok (.istore 5, 2) := by decide +kernel
theorem d_Mo_tick_93 : decode b_Mo_tick 93 = .ok (.iinc 6 1, 3) := by decide +kernel
theorem d_Mo_tick_96 : decode b_Mo_tick 96 = .ok (.goto (-60), 3) := by decide +kernel
theorem d_Mo_tick_99 : decode b_Mo_tick 99 = .ok (.iload 5, 2) := by decide +kernel
theorem d_Mo_tick_101 : decode b_Mo_tick 101 = .ok (.iconst (-1), 1) := by decide +kernel
theorem d_Mo_tick_102 : decode b_Mo_tick 102 = .ok (.if_icmp .eq 7, 3) := by decide +kernel
theorem d_Mo_tick_105 : decode b_Mo_tick 105 = .ok (.iconst 1, 1) := by decide +kernel
theorem d_Mo_tick_106 : decode b_Mo_tick 106 = .ok (.goto 4, 3) := by decide +kernel
theorem d_Mo_tick_109 : decode b_Mo_tick 109 = .ok (.iconst 0, 1) := by decide +kernel
theorem d_Mo_tick_110 : decode b_Mo_tick 110 = .ok (.istore 4, 2) := by decide +kernel
theorem d_Mo_tick_112 : decode b_Mo_tick 112 = .ok (.iload 4, 2) := by decide +kernel
theorem d_Mo_tick_114 : decode b_Mo_tick 114 = .ok (.ifCond .ne 6, 3) := by decide +kernel
theorem d_Mo_tick_117 : decode b_Mo_tick 117 = .ok (.goto (-92), 3) := by decide +kernel
theorem d_Mo_tick_120 : decode b_Mo_tick 120 = .ok (.aload_n 0, 1) := by decide +kernel
theorem d_Mo_tick_121 : decode b_Mo_tick 121 = .ok (.aload_n 0, 1) := by decide +kernel
theorem d_Mo_tick_122 : decode b_Mo_tick 122 = .ok (.getfield 66, 3) := by decide +kernel
theorem d_Mo_tick_125 : decode b_Mo_tick 125 = .ok (.iload 5, 2) := by decide +kernel
theorem d_Mo_tick_127 : decode b_Mo_tick 127 = .ok (.iaload, 1) := by decide +kernel
theorem d_Mo_tick_128 : decode b_Mo_tick 128 = .ok (.invokevirtual 99, 3) := by decide +kernel
theorem d_Mo_tick_131 : decode b_Mo_tick 131 = .ok (.pop, 1) := by decide +kernel
theorem d_Mo_tick_132 : decode b_Mo_tick 132 = .ok (.aload_n 0, 1) := by decide +kernel
theorem d_Mo_tick_133 : decode b_Mo_tick 133 = .ok (.iload 5, 2) := by decide +kernel
theorem d_Mo_tick_135 : decode b_Mo_tick 135 = .ok (.invokevirtual 159, 3) := by decide +kernel
theorem d_Mo_tick_138 : decode b_Mo_tick 138 = .ok (.iinc 3 1, 3) := by decide +kernel
theorem d_Mo_tick_141 : decode b_Mo_tick 141 = .ok (.goto (-116), 3) := by decide +kernel
theorem d_Mo_tick_144 : decode b_Mo_tick 144 = .ok (.aload_n 0, 1) := by decide +kernel
theorem d_Mo_tick_145 : decode b_Mo_tick 145 = .ok (.iload_n 3, 1) := by decide +kernel
theorem d_Mo_tick_146 : decode b_Mo_tick 146 = .ok (.invokevirtual 120, 3) := by decide +kernel
theorem d_Mo_tick_149 : decode b_Mo_tick 149 = .ok (.ireturn, 1) := by decide +kernel
theorem d_Mo_unit_0 : decode b_Mo_unit 0 = .ok (.aload_n 0, 1) := by decide +kernel
theorem d_Mo_unit_1 : decode b_Mo_unit 1 = .ok (.aload_n 0, 1) := by decide +kernel
theorem d_Mo_unit_2 : decode b_Mo_unit 2 = .ok (.iload_n 1, 1) := by decide +kernel
theorem d_Mo_unit_3 : decode b_Mo_unit 3 = .ok (.iload_n 2, 1) := by decide +kernel
theorem d_Mo_unit_4 : decode b_Mo_unit 4 = .ok (.invokevirtual 162, 3) := by decide +kernel
theorem d_Mo_unit_7 : decode b_Mo_unit 7 = .ok (.invokevirtual 120, 3) := by decide +kernel
theorem d_Mo_unit_10 : decode b_Mo_unit 10 = .ok (.ireturn, 1) := by decide +kernel
theorem d_Mo_unitEnds_0 : decode b_Mo_unitEnds 0 = .ok (.iload_n 1, 1) := by decide +kernel
theorem d_Mo_unitEnds_1 : decode b_Mo_unitEnds 1 = .ok (.iconst 1, 1) := by decide +kernel
theorem d_Mo_unitEnds_2 : decode b_Mo_unitEnds 2 = .ok (.if_icmp .lt 9, 3) := by decide +kernel
theorem d_Mo_unitEnds_5 : decode b_Mo_unitEnds 5 = .ok (.iload_n 1, 1) := by decide +kernel
theorem d_Mo_unitEnds_6 : decode b_Mo_unitEnds 6 = .ok (.bipush 9, 2) := by decide +kernel
theorem d_Mo_unitEnds_8 : decode b_Mo_unitEnds 8 = .ok (.if_icmp .le 6, 3) := by decide +kernel
theorem d_Mo_unitEnds_11 : decode b_Mo_unitEnds 11 = .ok (.bipush (-2), 2) := by decide +kernel
theorem d_Mo_unitEnds_13 : decode b_Mo_unitEnds 13 = .ok (.ireturn, 1) := by decide +kernel
theorem d_Mo_unitEnds_14 : decode b_Mo_unitEnds 14 = .ok (.iconst 0, 1) := by decide +kernel
theorem d_Mo_unitEnds_15 : decode b_Mo_unitEnds 15 = .ok (.istore_n 3, 1) := by decide +kernel
theorem d_Mo_unitEnds_16 : decode b_Mo_unitEnds 16 = .ok (.aload_n 0, 1) := by decide +kernel
theorem d_Mo_unitEnds_17 : decode b_Mo_unitEnds 17 = .ok (.getfield 79, 3) := by decide +kernel
theorem d_Mo_unitEnds_20 : decode b_Mo_unitEnds 20 = .ok (.iconst 1, 1) := by decide +kernel
theorem d_Mo_unitEnds_21 : decode b_Mo_unitEnds 21 = .ok (.isub, 1) := by decide +kernel
theorem d_Mo_unitEnds_22 : decode b_Mo_unitEnds 22 = .ok (.istore 4, 2) := by decide +kernel
theorem d_Mo_unitEnds_24 : decode b_Mo_unitEnds 24 = .ok (.iload 4, 2) := by decide +kernel
theorem d_Mo_unitEnds_26 : decode b_Mo_unitEnds 26 = .ok (.ifCond .lt 93, 3) := by decide +kernel
theorem d_Mo_unitEnds_29 : decode b_Mo_unitEnds 29 = .ok (.aload_n 0, 1) := by decide +kernel
theorem d_Mo_unitEnds_30 : decode b_Mo_unitEnds 30 = .ok (.getfield 16, 3) := by decide +kernel
theorem d_Mo_unitEnds_33 : decode b_Mo_unitEnds 33 = .ok (.iload 4, 2) := by decide +kernel
theorem d_Mo_unitEnds_35 : decode b_Mo_unitEnds 35 = .ok (.iaload, 1) := by decide +kernel
theorem d_Mo_unitEnds_36 : decode b_Mo_unitEnds 36 = .ok (.iload_n 1, 1) := by decide +kernel
theorem d_Mo_unitEnds_37 : decode b_Mo_unitEnds 37 = .ok (.if_icmp .eq 6, 3) := by decide +kernel
theorem d_Mo_unitEnds_40 : decode b_Mo_unitEnds 40 = .ok (.goto 73, 3) := by decide +kernel
theorem d_Mo_unitEnds_43 : decode b_Mo_unitEnds 43 = .ok (.iinc 3 1, 3) := by decide +kernel
theorem d_Mo_unitEnds_46 : decode b_Mo_unitEnds 46 = .ok (.aload_n 0, 1) := by decide +kernel
theorem d_Mo_unitEnds_47 : decode b_Mo_unitEnds 47 = .ok (.getfield 7, 3) := by decide +kernel
theorem d_Mo_unitEnds_50 : decode b_Mo_unitEnds 50 = .ok (.iload 4, 2) := by decide +kernel
theorem d_Mo_unitEnds_52 : decode b_Mo_unitEnds 52 = .ok (.iaload, 1) := by decide +kernel
theorem d_Mo_unitEnds_53 : decode b_Mo_unitEnds 53 = .ok (.istore 5, 2) := by decide +kernel
theorem d_Mo_unitEnds_55 : decode b_Mo_unitEnds 55 = .ok (.aload_n 0, 1) := by decide +kernel
theorem d_Mo_unitEnds_56 : decode b_Mo_unitEnds 56 = .ok (.getfield 16, 3) := by decide +kernel
theorem d_Mo_unitEnds_59 : decode b_Mo_unitEnds 59 = .ok (.iload 4, 2) := by decide +kernel
theorem d_Mo_unitEnds_61 : decode b_Mo_unitEnds 61 = .ok (.iconst 0, 1) := by decide +kernel
theorem d_Mo_unitEnds_62 : decode b_Mo_unitEnds 62 = .ok (.iastore, 1) := by decide +kernel
theorem d_Mo_unitEnds_63 : decode b_Mo_unitEnds 63 = .ok (.iload_n 2, 1) := by decide +kernel
theorem d_Mo_unitEnds_64 : decode b_Mo_unitEnds 64 = .ok (.ifCond .eq 6, 3) := by decide +kernel
theorem d_Mo_unitEnds_67 : decode b_Mo_unitEnds 67 = .ok (.goto 46, 3) := by decide +kernel
theorem d_Mo_unitEnds_70 : decode b_Mo_unitEnds 70 = .ok (.aload_n 0, 1) := by decide +kernel
theorem d_Mo_unitEnds_71 : decode b_Mo_unitEnds 71 = .ok (.getfield 26, 3) := by decide +kernel
theorem d_Mo_unitEnds_74 : decode b_Mo_unitEnds 74 = .ok (.iload 5, 2) := by decide +kernel
theorem d_Mo_unitEnds_76 : decode b_Mo_unitEnds 76 = .ok (.aload_n 0, 1) := by decide +kernel
theorem d_Mo_unitEnds_77 : decode b_Mo_unitEnds 77 = .ok (.getfield 23, 3) := by decide +kernel
theorem d_Mo_unitEnds_80 : decode b_Mo_unitEnds 80 = .ok (.iload 5, 2) := by decide +kernel
theorem d_Mo_unitEnds_82 : decode b_Mo_unitEnds 82 = .ok (.iaload, 1) := by decide +kernel
theorem d_Mo_unitEnds_83 : decode b_Mo_unitEnds 83 = .ok (.iconst 1, 1) := by decide +kernel
theorem d_Mo_unitEnds_84 : decode b_Mo_unitEnds 84 = .ok (.if_icmp .le 15, 3) := by decide +kernel
theorem d_Mo_unitEnds_87 : decode b_Mo_unitEnds 87 = .ok (.aload_n 0, 1) := by decide +kernel
theorem d_Mo_unitEnds_88 : decode b_Mo_unitEnds 88 = .ok (.getfield 26, 3) := by decide +kernel
theorem d_Mo_unitEnds_91 : decode b_Mo_unitEnds 91 = .ok (.iload 5, 2) := by decide +kernel
theorem d_Mo_unitEnds_93 : decode b_Mo_unitEnds 93 = .ok (.iaload, 1) := by decide +kernel
theorem d_Mo_unitEnds_94 : decode b_Mo_unitEnds 94 = .ok (.iconst 1, 1) := by decide +kernel
theorem d_Mo_unitEnds_95 : decode b_Mo_unitEnds 95 = .ok (.isub, 1) := by decide +kernel
theorem d_Mo_unitEnds_96 : decode b_Mo_unitEnds 96 = .ok (.goto 10, 3) := by decide +kernel
theorem d_Mo_unitEnds_99 : decode b_Mo_unitEnds 99 = .ok (.aload_n 0, 1) := by decide +kernel
theorem d_Mo_unitEnds_100 : decode b_Mo_unitEnds 100 = .ok (.getfield 26, 3) := by decide +kernel
theorem d_Mo_unitEnds_103 : decode b_Mo_unitEnds 103 = .ok (.iload 5, 2) := by decide +kernel
theorem d_Mo_unitEnds_105 : decode b_Mo_unitEnds 105 = .ok (.iaload, 1) := by decide +kernel
theorem d_Mo_unitEnds_106 : decode b_Mo_unitEnds 106 = .ok (.iastore, 1) := by decide +kernel
theorem d_Mo_unitEnds_107 : decode b_Mo_unitEnds 107 = .ok (.aload_n 0, 1) := by decide +kernel
theorem d_Mo_unitEnds_108 : decode b_Mo_unitEnds 108 = .ok (.iload 4, 2) := by decide +kernel
theorem d_Mo_unitEnds_110 : decode b_Mo_unitEnds 110 = .ok (.invokevirtual 136, 3) := by decide +kernel
theorem d_Mo_unitEnds_113 : decode b_Mo_unitEnds 113 = .ok (.iinc 4 (-1), 3) := by decide +kernel
theorem d_Mo_unitEnds_116 : decode b_Mo_unitEnds 116 = .ok (.goto (-92), 3) := by decide +kernel
theorem d_Mo_unitEnds_119 : decode b_Mo_unitEnds 119 = .ok (.iload_n 3, 1) := by decide +kernel
theorem d_Mo_unitEnds_120 : decode b_Mo_unitEnds 120 = .ok (.ireturn, 1) := by decide +kernel
theorem d_Mo_age_0 : decode b_Mo_age 0 = .ok (.iconst 0, 1) := by decide +kernel
theorem d_Mo_age_1 : decode b_Mo_age 1 = .ok (.istore_n 3, 1) := by decide +kernel
theorem d_Mo_age_2 : decode b_Mo_age 2 = .ok (.iconst 0, 1) := by decide +kernel
theorem d_Mo_age_3 : decode b_Mo_age 3 = .ok (.istore 4, 2) := by decide +kernel
theorem d_Mo_age_5 : decode b_Mo_age 5 = .ok (.iload 4, 2) := by decide +kernel
theorem d_Mo_age_7 : decode b_Mo_age 7 = .ok (.bipush 32, 2) := by decide +kernel
theorem d_Mo_age_9 : decode b_Mo_age 9 = .ok (.if_icmp .ge 68, 3) := by decide +kernel
theorem d_Mo_age_12 : decode b_Mo_age 12 = .ok (.aload_n 0, 1) := by decide +kernel
theorem d_Mo_age_13 : decode b_Mo_age 13 = .ok (.iload 4, 2) := by decide +kernel
theorem d_Mo_age_15 : decode b_Mo_age 15 = .ok (.invokevirtual 123, 3) := by decide +kernel
theorem d_Mo_age_18 : decode b_Mo_age 18 = .ok (.ifCond .eq 53, 3) := by decide +kernel
theorem d_Mo_age_21 : decode b_Mo_age 21 = .ok (.aload_n 0, 1) := by decide +kernel
theorem d_Mo_age_22 : decode b_Mo_age 22 = .ok (.getfield 48, 3) := by decide +kernel
theorem d_Mo_age_25 : decode b_Mo_age 25 = .ok (.iload 4, 2) := by decide +kernel
theorem d_Mo_age_27 : decode b_Mo_age 27 = .ok (.laload, 1) := by decide +kernel
theorem d_Mo_age_28 : decode b_Mo_age 28 = .ok (.lload_n 1, 1) := by decide +kernel
theorem d_Mo_age_29 : decode b_Mo_age 29 = .ok (.lcmp, 1) := by decide +kernel
theorem d_Mo_age_30 : decode b_Mo_age 30 = .ok (.ifCond .ge 41, 3) := by decide +kernel
theorem d_Mo_age_33 : decode b_Mo_age 33 = .ok (.aload_n 0, 1) := by decide +kernel
theorem d_Mo_age_34 : decode b_Mo_age 34 = .ok (.iload 4, 2) := by decide +kernel
theorem d_Mo_age_36 : decode b_Mo_age 36 = .ok (.invokevirtual 109, 3) := by decide +kernel
theorem d_Mo_age_39 : decode b_Mo_age 39 = .ok (.ifCond .eq 6, 3) := by decide +kernel
theorem d_Mo_age_42 : decode b_Mo_age 42 = .ok (.goto 29, 3) := by decide +kernel
theorem d_Mo_age_45 : decode b_Mo_age 45 = .ok (.aload_n 0, 1) := by decide +kernel
theorem d_Mo_age_46 : decode b_Mo_age 46 = .ok (.iload 4, 2) := by decide +kernel
theorem d_Mo_age_48 : decode b_Mo_age 48 = .ok (.invokevirtual 82, 3) := by decide +kernel
theorem d_Mo_age_51 : decode b_Mo_age 51 = .ok (.ifCond .le 17, 3) := by decide +kernel
theorem d_Mo_age_54 : decode b_Mo_age 54 = .ok (.aload_n 0, 1) := by decide +kernel
theorem d_Mo_age_55 : decode b_Mo_age 55 = .ok (.aload_n 0, 1) := by decide +kernel
theorem d_Mo_age_56 : decode b_Mo_age 56 = .ok (.iload 4, 2) := by decide +kernel
theorem d_Mo_age_58 : decode b_Mo_age 58 = .ok (.iconst 1, 1) := by decide +kernel
theorem d_Mo_age_59 : decode b_Mo_age 59 = .ok (.invokevirtual 126, 3) := by decide +kernel
theorem d_Mo_age_62 : decode b_Mo_age 62 = .ok (.invokevirtual 136, 3) := by decide +kernel
theorem d_Mo_age_65 : decode b_Mo_age 65 = .ok (.goto (-20), 3) := by decide +kernel
theorem d_Mo_age_68 : decode b_Mo_age 68 = .ok (.iinc 3 1, 3) := by decide +kernel
theorem d_Mo_age_71 : decode b_Mo_age 71 = .ok (.iinc 4 1, 3) := by decide +kernel
theorem d_Mo_age_74 : decode b_Mo_age 74 = .ok (.goto (-69), 3) := by decide +kernel
theorem d_Mo_age_77 : decode b_Mo_age 77 = .ok (.aload_n 0, 1) := by decide +kernel
theorem d_Mo_age_78 : decode b_Mo_age 78 = .ok (.iload_n 3, 1) := by decide +kernel
theorem d_Mo_age_79 : decode b_Mo_age 79 = .ok (.invokevirtual 120, 3) := by decide +kernel
theorem d_Mo_age_82 : decode b_Mo_age 82 = .ok (.ireturn, 1) := by decide +kernel
theorem d_Mo_count_0 : decode b_Mo_count 0 = .ok (.aload_n 0, 1) := by decide +kernel
theorem d_Mo_count_1 : decode b_Mo_count 1 = .ok (.iconst 0, 1) := by decide +kernel
theorem d_Mo_count_2 : decode b_Mo_count 2 = .ok (.putfield 76, 3) := by decide +kernel
theorem d_Mo_count_5 : decode b_Mo_count 5 = .ok (.iload_n 1, 1) := by decide +kernel
theorem d_Mo_count_6 : decode b_Mo_count 6 = .ok (.ifCond .lt 15, 3) := by decide +kernel
theorem d_Mo_count_9 : decode b_Mo_count 9 = .ok (.iload_n 1, 1) := by decide +kernel
theorem d_Mo_count_10 : decode b_Mo_count 10 = .ok (.bipush 32, 2) := by decide +kernel
theorem d_Mo_count_12 : decode b_Mo_count 12 = .ok (.if_icmp .ge 9, 3) := by decide +kernel
theorem d_Mo_count_15 : decode b_Mo_count 15 = .ok (.aload_n 0, 1) := by decide +kernel
theorem d_Mo_count_16 : decode b_Mo_count 16 = .ok (.iload_n 1, 1) := by decide +kernel
theorem d_Mo_count_17 : decode b_Mo_count 17 = .ok (.invokevirtual 82, 3) := by decide +kernel
theorem d_Mo_count_20 : decode b_Mo_count 20 = .ok (.ireturn, 1) := by decide +kernel
theorem d_Mo_count_21 : decode b_Mo_count 21 = .ok (.iload_n 1, 1) := by decide +kernel
theorem d_Mo_count_22 : decode b_Mo_count 22 = .ok (.bipush 32, 2) := by decide +kernel
theorem d_Mo_count_24 : decode b_Mo_count 24 = .ok (.if_icmp .lt 19, 3) := by decide +kernel
theorem d_Mo_count_27 : decode b_Mo_count 27 = .ok (.iload_n 1, 1) := by decide +kernel
theorem d_Mo_count_28 : decode b_Mo_count 28 = .ok (.bipush 64, 2) := by decide +kernel
theorem d_Mo_count_30 : decode b_Mo_count 30 = .ok (.if_icmp .ge 13, 3) := by decide +kernel
theorem d_Mo_count_33 : decode b_Mo_count 33 = .ok (.aload_n 0, 1) := by decide +kernel
theorem d_Mo_count_34 : decode b_Mo_count 34 = .ok (.getfield 23, 3) := by decide +kernel
theorem d_Mo_count_37 : decode b_Mo_count 37 = .ok (.iload_n 1, 1) := by decide +kernel
theorem d_Mo_count_38 : decode b_Mo_count 38 = .ok (.bipush 32, 2) := by decide +kernel
theorem d_Mo_count_40 : decode b_Mo_count 40 = .ok (.isub, 1) := by decide +kernel
theorem d_Mo_count_41 : decode b_Mo_count 41 = .ok (.iaload, 1) := by decide +kernel
theorem d_Mo_count_42 : decode b_Mo_count 42 = .ok (.ireturn, 1) := by decide +kernel
theorem d_Mo_count_43 : decode b_Mo_count 43 = .ok (.iload_n 1, 1) := by decide +kernel
theorem d_Mo_count_44 : decode b_Mo_count 44 = .ok (.tableswitch 52 64 67 #[32, 37, 42, 47], 32) := by decide +kernel
theorem d_Mo_count_76 : decode b_Mo_count 76 = .ok (.aload_n 0, 1) := by decide +kernel
theorem d_Mo_count_77 : decode b_Mo_count 77 = .ok (.getfield 79, 3) := by decide +kernel
theorem d_Mo_count_80 : decode b_Mo_count 80 = .ok (.ireturn, 1) := by decide +kernel
theorem d_Mo_count_81 : decode b_Mo_count 81 = .ok (.aload_n 0, 1) := by decide +kernel
theorem d_Mo_count_82 : decode b_Mo_count 82 = .ok (.getfield 90, 3) := by decide +kernel
theorem d_Mo_count_85 : decode b_Mo_count 85 = .ok (.ireturn, 1) := by decide +kernel
theorem d_Mo_count_86 : decode b_Mo_count 86 = .ok (.aload_n 0, 1) := by decide +kernel
theorem d_Mo_count_87 : decode b_Mo_count 87 = .ok (.getfield 93, 3) := by decide +kernel
theorem d_Mo_count_90 : decode b_Mo_count 90 = .ok (.ireturn, 1) := by decide +kernel
theorem d_Mo_count_91 : decode b_Mo_count 91 = .ok (.aload_n 0, 1) := by decide +kernel
theorem d_Mo_count_92 : decode b_Mo_count 92 = .ok (.getfield 153, 3) := by decide +kernel
theorem d_Mo_count_95 : decode b_Mo_count 95 = .ok (.ireturn, 1) := by decide +kernel
theorem d_Mo_count_96 : decode b_Mo_count 96 = .ok (.bipush (-2), 2) := by decide +kernel
theorem d_Mo_count_98 : decode b_Mo_count 98 = .ok (.ireturn, 1) := by decide +kernel
