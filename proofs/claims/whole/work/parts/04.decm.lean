theorem dX7_init_0 : decode cX7_init 0 = .ok (.aload_n 0, 1) := by decide +kernel
theorem dX7_init_1 : decode cX7_init 1 = .ok (.invokespecial 1, 3) := by decide +kernel
theorem dX7_init_4 : decode cX7_init 4 = .ok (.aload_n 0, 1) := by decide +kernel
theorem dX7_init_5 : decode cX7_init 5 = .ok (.bipush 60, 2) := by decide +kernel
theorem dX7_init_7 : decode cX7_init 7 = .ok (.newarray .int, 2) := by decide +kernel
theorem dX7_init_9 : decode cX7_init 9 = .ok (.putfield 7, 3) := by decide +kernel
theorem dX7_init_12 : decode cX7_init 12 = .ok (.aload_n 0, 1) := by decide +kernel
theorem dX7_init_13 : decode cX7_init 13 = .ok (.bipush 60, 2) := by decide +kernel
theorem dX7_init_15 : decode cX7_init 15 = .ok (.newarray .int, 2) := by decide +kernel
theorem dX7_init_17 : decode cX7_init 17 = .ok (.putfield 13, 3) := by decide +kernel
theorem dX7_init_20 : decode cX7_init 20 = .ok (.aload_n 0, 1) := by decide +kernel
theorem dX7_init_21 : decode cX7_init 21 = .ok (.bipush 60, 2) := by decide +kernel
theorem dX7_init_23 : decode cX7_init 23 = .ok (.newarray .int, 2) := by decide +kernel
theorem dX7_init_25 : decode cX7_init 25 = .ok (.putfield 16, 3) := by decide +kernel
theorem dX7_init_28 : decode cX7_init 28 = .ok (.aload_n 0, 1) := by decide +kernel
theorem dX7_init_29 : decode cX7_init 29 = .ok (.bipush 60, 2) := by decide +kernel
theorem dX7_init_31 : decode cX7_init 31 = .ok (.newarray .int, 2) := by decide +kernel
theorem dX7_init_33 : decode cX7_init 33 = .ok (.putfield 19, 3) := by decide +kernel
theorem dX7_init_36 : decode cX7_init 36 = .ok (.aload_n 0, 1) := by decide +kernel
theorem dX7_init_37 : decode cX7_init 37 = .ok (.sipush 1344, 3) := by decide +kernel
theorem dX7_init_40 : decode cX7_init 40 = .ok (.newarray .int, 2) := by decide +kernel
theorem dX7_init_42 : decode cX7_init 42 = .ok (.putfield 22, 3) := by decide +kernel
theorem dX7_init_45 : decode cX7_init 45 = .ok (.aload_n 0, 1) := by decide +kernel
theorem dX7_init_46 : decode cX7_init 46 = .ok (.bipush 14, 2) := by decide +kernel
theorem dX7_init_48 : decode cX7_init 48 = .ok (.newarray .int, 2) := by decide +kernel
theorem dX7_init_50 : decode cX7_init 50 = .ok (.putfield 25, 3) := by decide +kernel
theorem dX7_init_53 : decode cX7_init 53 = .ok (.aload_n 0, 1) := by decide +kernel
theorem dX7_init_54 : decode cX7_init 54 = .ok (.bipush 14, 2) := by decide +kernel
theorem dX7_init_56 : decode cX7_init 56 = .ok (.newarray .int, 2) := by decide +kernel
theorem dX7_init_58 : decode cX7_init 58 = .ok (.putfield 28, 3) := by decide +kernel
theorem dX7_init_61 : decode cX7_init 61 = .ok (.aload_n 0, 1) := by decide +kernel
theorem dX7_init_62 : decode cX7_init 62 = .ok (.bipush 14, 2) := by decide +kernel
theorem dX7_init_64 : decode cX7_init 64 = .ok (.newarray .int, 2) := by decide +kernel
theorem dX7_init_66 : decode cX7_init 66 = .ok (.putfield 31, 3) := by decide +kernel
theorem dX7_init_69 : decode cX7_init 69 = .ok (.aload_n 0, 1) := by decide +kernel
theorem dX7_init_70 : decode cX7_init 70 = .ok (.bipush 96, 2) := by decide +kernel
theorem dX7_init_72 : decode cX7_init 72 = .ok (.newarray .int, 2) := by decide +kernel
theorem dX7_init_74 : decode cX7_init 74 = .ok (.putfield 34, 3) := by decide +kernel
theorem dX7_init_77 : decode cX7_init 77 = .ok (.aload_n 0, 1) := by decide +kernel
theorem dX7_init_78 : decode cX7_init 78 = .ok (.bipush 96, 2) := by decide +kernel
theorem dX7_init_80 : decode cX7_init 80 = .ok (.newarray .int, 2) := by decide +kernel
theorem dX7_init_82 : decode cX7_init 82 = .ok (.putfield 37, 3) := by decide +kernel
theorem dX7_init_85 : decode cX7_init 85 = .ok (.aload_n 0, 1) := by decide +kernel
theorem dX7_init_86 : decode cX7_init 86 = .ok (.bipush 96, 2) := by decide +kernel
theorem dX7_init_88 : decode cX7_init 88 = .ok (.newarray .int, 2) := by decide +kernel
theorem dX7_init_90 : decode cX7_init 90 = .ok (.putfield 40, 3) := by decide +kernel
theorem dX7_init_93 : decode cX7_init 93 = .ok (.aload_n 0, 1) := by decide +kernel
theorem dX7_init_94 : decode cX7_init 94 = .ok (.iconst 4, 1) := by decide +kernel
theorem dX7_init_95 : decode cX7_init 95 = .ok (.newarray .int, 2) := by decide +kernel
theorem dX7_init_97 : decode cX7_init 97 = .ok (.dup, 1) := by decide +kernel
theorem dX7_init_98 : decode cX7_init 98 = .ok (.iconst 0, 1) := by decide +kernel
theorem dX7_init_99 : decode cX7_init 99 = .ok (.iconst (-1), 1) := by decide +kernel
theorem dX7_init_100 : decode cX7_init 100 = .ok (.iastore, 1) := by decide +kernel
theorem dX7_init_101 : decode cX7_init 101 = .ok (.dup, 1) := by decide +kernel
theorem dX7_init_102 : decode cX7_init 102 = .ok (.iconst 1, 1) := by decide +kernel
theorem dX7_init_103 : decode cX7_init 103 = .ok (.iconst (-1), 1) := by decide +kernel
theorem dX7_init_104 : decode cX7_init 104 = .ok (.iastore, 1) := by decide +kernel
theorem dX7_init_105 : decode cX7_init 105 = .ok (.dup, 1) := by decide +kernel
theorem dX7_init_106 : decode cX7_init 106 = .ok (.iconst 2, 1) := by decide +kernel
theorem dX7_init_107 : decode cX7_init 107 = .ok (.iconst (-1), 1) := by decide +kernel
theorem dX7_init_108 : decode cX7_init 108 = .ok (.iastore, 1) := by decide +kernel
theorem dX7_init_109 : decode cX7_init 109 = .ok (.dup, 1) := by decide +kernel
theorem dX7_init_110 : decode cX7_init 110 = .ok (.iconst 3, 1) := by decide +kernel
theorem dX7_init_111 : decode cX7_init 111 = .ok (.iconst (-1), 1) := by decide +kernel
theorem dX7_init_112 : decode cX7_init 112 = .ok (.iastore, 1) := by decide +kernel
theorem dX7_init_113 : decode cX7_init 113 = .ok (.putfield 43, 3) := by decide +kernel
theorem dX7_init_116 : decode cX7_init 116 = .ok (.aload_n 0, 1) := by decide +kernel
theorem dX7_init_117 : decode cX7_init 117 = .ok (.iconst 4, 1) := by decide +kernel
theorem dX7_init_118 : decode cX7_init 118 = .ok (.newarray .int, 2) := by decide +kernel
theorem dX7_init_120 : decode cX7_init 120 = .ok (.putfield 46, 3) := by decide +kernel
theorem dX7_init_123 : decode cX7_init 123 = .ok (.aload_n 0, 1) := by decide +kernel
theorem dX7_init_124 : decode cX7_init 124 = .ok (.bipush 96, 2) := by decide +kernel
theorem dX7_init_126 : decode cX7_init 126 = .ok (.newarray .int, 2) := by decide +kernel
theorem dX7_init_128 : decode cX7_init 128 = .ok (.putfield 49, 3) := by decide +kernel
theorem dX7_init_131 : decode cX7_init 131 = .ok (.aload_n 0, 1) := by decide +kernel
theorem dX7_init_132 : decode cX7_init 132 = .ok (.bipush 96, 2) := by decide +kernel
theorem dX7_init_134 : decode cX7_init 134 = .ok (.newarray .boolean, 2) := by decide +kernel
theorem dX7_init_136 : decode cX7_init 136 = .ok (.putfield 52, 3) := by decide +kernel
theorem dX7_init_139 : decode cX7_init 139 = .ok (.aload_n 0, 1) := by decide +kernel
theorem dX7_init_140 : decode cX7_init 140 = .ok (.bipush 10, 2) := by decide +kernel
theorem dX7_init_142 : decode cX7_init 142 = .ok (.newarray .int, 2) := by decide +kernel
theorem dX7_init_144 : decode cX7_init 144 = .ok (.putfield 56, 3) := by decide +kernel
theorem dX7_init_147 : decode cX7_init 147 = .ok (.aload_n 0, 1) := by decide +kernel
theorem dX7_init_148 : decode cX7_init 148 = .ok (.bipush 24, 2) := by decide +kernel
theorem dX7_init_150 : decode cX7_init 150 = .ok (.newarray .int, 2) := by decide +kernel
theorem dX7_init_152 : decode cX7_init 152 = .ok (.putfield 59, 3) := by decide +kernel
theorem dX7_init_155 : decode cX7_init 155 = .ok (.aload_n 0, 1) := by decide +kernel
theorem dX7_init_156 : decode cX7_init 156 = .ok (.bipush 24, 2) := by decide +kernel
theorem dX7_init_158 : decode cX7_init 158 = .ok (.newarray .boolean, 2) := by decide +kernel
theorem dX7_init_160 : decode cX7_init 160 = .ok (.putfield 62, 3) := by decide +kernel
theorem dX7_init_163 : decode cX7_init 163 = .ok (.aload_n 0, 1) := by decide +kernel
theorem dX7_init_164 : decode cX7_init 164 = .ok (.iconst 5, 1) := by decide +kernel
theorem dX7_init_165 : decode cX7_init 165 = .ok (.newarray .int, 2) := by decide +kernel
theorem dX7_init_167 : decode cX7_init 167 = .ok (.putfield 65, 3) := by decide +kernel
theorem dX7_init_170 : decode cX7_init 170 = .ok (.aload_n 0, 1) := by decide +kernel
theorem dX7_init_171 : decode cX7_init 171 = .ok (.iconst 5, 1) := by decide +kernel
theorem dX7_init_172 : decode cX7_init 172 = .ok (.newarray .int, 2) := by decide +kernel
theorem dX7_init_174 : decode cX7_init 174 = .ok (.putfield 68, 3) := by decide +kernel
theorem dX7_init_177 : decode cX7_init 177 = .ok (.aload_n 0, 1) := by decide +kernel
theorem dX7_init_178 : decode cX7_init 178 = .ok (.iconst 5, 1) := by decide +kernel
theorem dX7_init_179 : decode cX7_init 179 = .ok (.newarray .int, 2) := by decide +kernel
theorem dX7_init_181 : decode cX7_init 181 = .ok (.putfield 71, 3) := by decide +kernel
theorem dX7_init_184 : decode cX7_init 184 = .ok (.aload_n 0, 1) := by decide +kernel
theorem dX7_init_185 : decode cX7_init 185 = .ok (.iconst 5, 1) := by decide +kernel
theorem dX7_init_186 : decode cX7_init 186 = .ok (.newarray .int, 2) := by decide +kernel
theorem dX7_init_188 : decode cX7_init 188 = .ok (.putfield 74, 3) := by decide +kernel
theorem dX7_init_191 : decode cX7_init 191 = .ok (.aload_n 0, 1) := by decide +kernel
theorem dX7_init_192 : decode cX7_init 192 = .ok (.bipush 120, 2) := by decide +kernel
theorem dX7_init_194 : decode cX7_init 194 = .ok (.newarray .int, 2) := by decide +kernel
theorem dX7_init_196 : decode cX7_init 196 = .ok (.putfield 77, 3) := by decide +kernel
theorem dX7_init_199 : decode cX7_init 199 = .ok (.aload_n 0, 1) := by decide +kernel
theorem dX7_init_200 : decode cX7_init 200 = .ok (.bipush 120, 2) := by decide +kernel
theorem dX7_init_202 : decode cX7_init 202 = .ok (.newarray .boolean, 2) := by decide +kernel
theorem dX7_init_204 : decode cX7_init 204 = .ok (.putfield 80, 3) := by decide +kernel
theorem dX7_init_207 : decode cX7_init 207 = .ok (.aload_n 0, 1) := by decide +kernel
theorem dX7_init_208 : decode cX7_init 208 = .ok (.bipush 60, 2) := by decide +kernel
theorem dX7_init_210 : decode cX7_init 210 = .ok (.newarray .int, 2) := by decide +kernel
theorem dX7_init_212 : decode cX7_init 212 = .ok (.putfield 83, 3) := by decide +kernel
theorem dX7_init_215 : decode cX7_init 215 = .ok (.aload_n 0, 1) := by decide +kernel
theorem dX7_init_216 : decode cX7_init 216 = .ok (.getfield 7, 3) := by decide +kernel
theorem dX7_init_219 : decode cX7_init 219 = .ok (.iconst 2, 1) := by decide +kernel
theorem dX7_init_220 : decode cX7_init 220 = .ok (.bipush 10, 2) := by decide +kernel
theorem dX7_init_222 : decode cX7_init 222 = .ok (.iastore, 1) := by decide +kernel
theorem dX7_init_223 : decode cX7_init 223 = .ok (.aload_n 0, 1) := by decide +kernel
theorem dX7_init_224 : decode cX7_init 224 = .ok (.getfield 7, 3) := by decide +kernel
theorem dX7_init_227 : decode cX7_init 227 = .ok (.iconst 3, 1) := by decide +kernel
theorem dX7_init_228 : decode cX7_init 228 = .ok (.bipush 20, 2) := by decide +kernel
theorem dX7_init_230 : decode cX7_init 230 = .ok (.iastore, 1) := by decide +kernel
theorem dX7_init_231 : decode cX7_init 231 = .ok (.aload_n 0, 1) := by decide +kernel
theorem dX7_init_232 : decode cX7_init 232 = .ok (.getfield 7, 3) := by decide +kernel
theorem dX7_init_235 : decode cX7_init 235 = .ok (.bipush 8, 2) := by decide +kernel
theorem dX7_init_237 : decode cX7_init 237 = .ok (.iconst 1, 1) := by decide +kernel
theorem dX7_init_238 : decode cX7_init 238 = .ok (.iastore, 1) := by decide +kernel
theorem dX7_init_239 : decode cX7_init 239 = .ok (.return_, 1) := by decide +kernel
theorem dX7_in_0 : decode cX7_in 0 = .ok (.lload_n 0, 1) := by decide +kernel
theorem dX7_in_1 : decode cX7_in 1 = .ok (.lload_n 2, 1) := by decide +kernel
theorem dX7_in_2 : decode cX7_in 2 = .ok (.lcmp, 1) := by decide +kernel
theorem dX7_in_3 : decode cX7_in 3 = .ok (.ifCond .lt 14, 3) := by decide +kernel
theorem dX7_in_6 : decode cX7_in 6 = .ok (.lload_n 0, 1) := by decide +kernel
theorem dX7_in_7 : decode cX7_in 7 = .ok (.lload 4, 2) := by decide +kernel
theorem dX7_in_9 : decode cX7_in 9 = .ok (.lcmp, 1) := by decide +kernel
theorem dX7_in_10 : decode cX7_in 10 = .ok (.ifCond .gt 7, 3) := by decide +kernel
theorem dX7_in_13 : decode cX7_in 13 = .ok (.iconst 1, 1) := by decide +kernel
theorem dX7_in_14 : decode cX7_in 14 = .ok (.goto 4, 3) := by decide +kernel
theorem dX7_in_17 : decode cX7_in 17 = .ok (.iconst 0, 1) := by decide +kernel
theorem dX7_in_18 : decode cX7_in 18 = .ok (.ireturn, 1) := by decide +kernel
theorem dX7_held_0 : decode cX7_held 0 = .ok (.iload_n 0, 1) := by decide +kernel
theorem dX7_held_1 : decode cX7_held 1 = .ok (.iload_n 1, 1) := by decide +kernel
theorem dX7_held_2 : decode cX7_held 2 = .ok (.if_icmp .ge 7, 3) := by decide +kernel
theorem dX7_held_5 : decode cX7_held 5 = .ok (.iload_n 1, 1) := by decide +kernel
theorem dX7_held_6 : decode cX7_held 6 = .ok (.goto 13, 3) := by decide +kernel
theorem dX7_held_9 : decode cX7_held 9 = .ok (.iload_n 0, 1) := by decide +kernel
theorem dX7_held_10 : decode cX7_held 10 = .ok (.iload_n 2, 1) := by decide +kernel
theorem dX7_held_11 : decode cX7_held 11 = .ok (.if_icmp .le 7, 3) := by decide +kernel
theorem dX7_held_14 : decode cX7_held 14 = .ok (.iload_n 2, 1) := by decide +kernel
theorem dX7_held_15 : decode cX7_held 15 = .ok (.goto 4, 3) := by decide +kernel
theorem dX7_held_18 : decode cX7_held 18 = .ok (.iload_n 0, 1) := by decide +kernel
theorem dX7_held_19 : decode cX7_held 19 = .ok (.ireturn, 1) := by decide +kernel
theorem dX7_size_0 : decode cX7_size 0 = .ok (.iload_n 0, 1) := by decide +kernel
theorem dX7_size_1 : decode cX7_size 1 = .ok (.ifCond .ge 8, 3) := by decide +kernel
theorem dX7_size_4 : decode cX7_size 4 = .ok (.iload_n 0, 1) := by decide +kernel
theorem dX7_size_5 : decode cX7_size 5 = .ok (.ineg, 1) := by decide +kernel
theorem dX7_size_6 : decode cX7_size 6 = .ok (.goto 4, 3) := by decide +kernel
theorem dX7_size_9 : decode cX7_size 9 = .ok (.iload_n 0, 1) := by decide +kernel
theorem dX7_size_10 : decode cX7_size 10 = .ok (.ireturn, 1) := by decide +kernel
theorem dX7_copies_0 : decode cX7_copies 0 = .ok (.iconst 0, 1) := by decide +kernel
theorem dX7_copies_1 : decode cX7_copies 1 = .ok (.istore_n 2, 1) := by decide +kernel
theorem dX7_copies_2 : decode cX7_copies 2 = .ok (.iload_n 2, 1) := by decide +kernel
theorem dX7_copies_3 : decode cX7_copies 3 = .ok (.bipush 60, 2) := by decide +kernel
theorem dX7_copies_5 : decode cX7_copies 5 = .ok (.if_icmp .ge 15, 3) := by decide +kernel
theorem dX7_copies_8 : decode cX7_copies 8 = .ok (.aload_n 1, 1) := by decide +kernel
theorem dX7_copies_9 : decode cX7_copies 9 = .ok (.iload_n 2, 1) := by decide +kernel
theorem dX7_copies_10 : decode cX7_copies 10 = .ok (.aload_n 0, 1) := by decide +kernel
theorem dX7_copies_11 : decode cX7_copies 11 = .ok (.iload_n 2, 1) := by decide +kernel
theorem dX7_copies_12 : decode cX7_copies 12 = .ok (.iaload, 1) := by decide +kernel
theorem dX7_copies_13 : decode cX7_copies 13 = .ok (.iastore, 1) := by decide +kernel
theorem dX7_copies_14 : decode cX7_copies 14 = .ok (.iinc 2 1, 3) := by decide +kernel
theorem dX7_copies_17 : decode cX7_copies 17 = .ok (.goto (-15), 3) := by decide +kernel
theorem dX7_copies_20 : decode cX7_copies 20 = .ok (.return_, 1) := by decide +kernel
theorem dX7_isHouse_0 : decode cX7_isHouse 0 = .ok (.iload_n 1, 1) := by decide +kernel
theorem dX7_isHouse_1 : decode cX7_isHouse 1 = .ok (.i2l, 1) := by decide +kernel
theorem dX7_isHouse_2 : decode cX7_isHouse 2 = .ok (.lconst 0, 1) := by decide +kernel
theorem dX7_isHouse_3 : decode cX7_isHouse 3 = .ok (.aload_n 0, 1) := by decide +kernel
theorem dX7_isHouse_4 : decode cX7_isHouse 4 = .ok (.getfield 7, 3) := by decide +kernel
theorem dX7_isHouse_7 : decode cX7_isHouse 7 = .ok (.iconst 0, 1) := by decide +kernel
theorem dX7_isHouse_8 : decode cX7_isHouse 8 = .ok (.iaload, 1) := by decide +kernel
theorem dX7_isHouse_9 : decode cX7_isHouse 9 = .ok (.iconst 1, 1) := by decide +kernel
theorem dX7_isHouse_10 : decode cX7_isHouse 10 = .ok (.isub, 1) := by decide +kernel
theorem dX7_isHouse_11 : decode cX7_isHouse 11 = .ok (.i2l, 1) := by decide +kernel
theorem dX7_isHouse_12 : decode cX7_isHouse 12 = .ok (.invokestatic 86, 3) := by decide +kernel
theorem dX7_isHouse_15 : decode cX7_isHouse 15 = .ok (.ireturn, 1) := by decide +kernel
theorem dX7_of_0 : decode cX7_of 0 = .ok (.aload_n 0, 1) := by decide +kernel
theorem dX7_of_1 : decode cX7_of 1 = .ok (.getfield 7, 3) := by decide +kernel
theorem dX7_of_4 : decode cX7_of 4 = .ok (.bipush 10, 2) := by decide +kernel
theorem dX7_of_6 : decode cX7_of 6 = .ok (.iconst 5, 1) := by decide +kernel
theorem dX7_of_7 : decode cX7_of 7 = .ok (.iload_n 1, 1) := by decide +kernel
theorem dX7_of_8 : decode cX7_of 8 = .ok (.imul, 1) := by decide +kernel
theorem dX7_of_9 : decode cX7_of 9 = .ok (.iadd, 1) := by decide +kernel
theorem dX7_of_10 : decode cX7_of 10 = .ok (.iload_n 2, 1) := by decide +kernel
theorem dX7_of_11 : decode cX7_of 11 = .ok (.iadd, 1) := by decide +kernel
theorem dX7_of_12 : decode cX7_of 12 = .ok (.iaload, 1) := by decide +kernel
theorem dX7_of_13 : decode cX7_of 13 = .ok (.ireturn, 1) := by decide +kernel
theorem dX7_sets_0 : decode cX7_sets 0 = .ok (.aload_n 0, 1) := by decide +kernel
theorem dX7_sets_1 : decode cX7_sets 1 = .ok (.getfield 7, 3) := by decide +kernel
theorem dX7_sets_4 : decode cX7_sets 4 = .ok (.bipush 10, 2) := by decide +kernel
theorem dX7_sets_6 : decode cX7_sets 6 = .ok (.iconst 5, 1) := by decide +kernel
theorem dX7_sets_7 : decode cX7_sets 7 = .ok (.iload_n 1, 1) := by decide +kernel
theorem dX7_sets_8 : decode cX7_sets 8 = .ok (.imul, 1) := by decide +kernel
theorem dX7_sets_9 : decode cX7_sets 9 = .ok (.iadd, 1) := by decide +kernel
theorem dX7_sets_10 : decode cX7_sets 10 = .ok (.iload_n 2, 1) := by decide +kernel
theorem dX7_sets_11 : decode cX7_sets 11 = .ok (.iadd, 1) := by decide +kernel
theorem dX7_sets_12 : decode cX7_sets 12 = .ok (.iload_n 3, 1) := by decide +kernel
theorem dX7_sets_13 : decode cX7_sets 13 = .ok (.iastore, 1) := by decide +kernel
theorem dX7_sets_14 : decode cX7_sets 14 = .ok (.return_, 1) := by decide +kernel
theorem dX7_becomesAt_0 : decode cX7_becomesAt 0 = .ok (.aload_n 0, 1) := by decide +kernel
theorem dX7_becomesAt_1 : decode cX7_becomesAt 1 = .ok (.getfield 7, 3) := by decide +kernel
theorem dX7_becomesAt_4 : decode cX7_becomesAt 4 = .ok (.iload_n 1, 1) := by decide +kernel
theorem dX7_becomesAt_5 : decode cX7_becomesAt 5 = .ok (.iaload, 1) := by decide +kernel
theorem dX7_becomesAt_6 : decode cX7_becomesAt 6 = .ok (.istore_n 3, 1) := by decide +kernel
theorem dX7_becomesAt_7 : decode cX7_becomesAt 7 = .ok (.aload_n 0, 1) := by decide +kernel
theorem dX7_becomesAt_8 : decode cX7_becomesAt 8 = .ok (.getfield 7, 3) := by decide +kernel
theorem dX7_becomesAt_11 : decode cX7_becomesAt 11 = .ok (.iload_n 1, 1) := by decide +kernel
theorem dX7_becomesAt_12 : decode cX7_becomesAt 12 = .ok (.iload_n 2, 1) := by decide +kernel
theorem dX7_becomesAt_13 : decode cX7_becomesAt 13 = .ok (.iastore, 1) := by decide +kernel
theorem dX7_becomesAt_14 : decode cX7_becomesAt 14 = .ok (.iload_n 3, 1) := by decide +kernel
theorem dX7_becomesAt_15 : decode cX7_becomesAt 15 = .ok (.ireturn, 1) := by decide +kernel
theorem dX7_ones_0 : decode cX7_ones 0 = .ok (.iconst 0, 1) := by decide +kernel
theorem dX7_ones_1 : decode cX7_ones 1 = .ok (.istore_n 1, 1) := by decide +kernel
theorem dX7_ones_2 : decode cX7_ones 2 = .ok (.iconst 0, 1) := by decide +kernel
theorem dX7_ones_3 : decode cX7_ones 3 = .ok (.istore_n 2, 1) := by decide +kernel
theorem dX7_ones_4 : decode cX7_ones 4 = .ok (.iload_n 2, 1) := by decide +kernel
theorem dX7_ones_5 : decode cX7_ones 5 = .ok (.bipush 10, 2) := by decide +kernel
theorem dX7_ones_7 : decode cX7_ones 7 = .ok (.if_icmp .ge 17, 3) := by decide +kernel
theorem dX7_ones_10 : decode cX7_ones 10 = .ok (.iload_n 1, 1) := by decide +kernel
theorem dX7_ones_11 : decode cX7_ones 11 = .ok (.iload_n 0, 1) := by decide +kernel
theorem dX7_ones_12 : decode cX7_ones 12 = .ok (.iload_n 2, 1) := by decide +kernel
theorem dX7_ones_13 : decode cX7_ones 13 = .ok (.ishr, 1) := by decide +kernel
theorem dX7_ones_14 : decode cX7_ones 14 = .ok (.iconst 1, 1) := by decide +kernel
theorem dX7_ones_15 : decode cX7_ones 15 = .ok (.iand, 1) := by decide +kernel
theorem dX7_ones_16 : decode cX7_ones 16 = .ok (.iadd, 1) := by decide +kernel
theorem dX7_ones_17 : decode cX7_ones 17 = .ok (.istore_n 1, 1) := by decide +kernel
theorem dX7_ones_18 : decode cX7_ones 18 = .ok (.iinc 2 1, 3) := by decide +kernel
theorem dX7_ones_21 : decode cX7_ones 21 = .ok (.goto (-17), 3) := by decide +kernel
theorem dX7_ones_24 : decode cX7_ones 24 = .ok (.iload_n 1, 1) := by decide +kernel
theorem dX7_ones_25 : decode cX7_ones 25 = .ok (.ireturn, 1) := by decide +kernel
theorem dX7_above_0 : decode cX7_above 0 = .ok (.iload_n 0, 1) := by decide +kernel
theorem dX7_above_1 : decode cX7_above 1 = .ok (.iconst 3, 1) := by decide +kernel
theorem dX7_above_2 : decode cX7_above 2 = .ok (.if_icmp .ne 7, 3) := by decide +kernel
theorem dX7_above_5 : decode cX7_above 5 = .ok (.iconst 1, 1) := by decide +kernel
theorem dX7_above_6 : decode cX7_above 6 = .ok (.goto 13, 3) := by decide +kernel
theorem dX7_above_9 : decode cX7_above 9 = .ok (.iload_n 0, 1) := by decide +kernel
theorem dX7_above_10 : decode cX7_above 10 = .ok (.iconst 4, 1) := by decide +kernel
theorem dX7_above_11 : decode cX7_above 11 = .ok (.if_icmp .ne 7, 3) := by decide +kernel
theorem dX7_above_14 : decode cX7_above 14 = .ok (.iconst 2, 1) := by decide +kernel
theorem dX7_above_15 : decode cX7_above 15 = .ok (.goto 4, 3) := by decide +kernel
theorem dX7_above_18 : decode cX7_above 18 = .ok (.iconst 0, 1) := by decide +kernel
theorem dX7_above_19 : decode cX7_above 19 = .ok (.ireturn, 1) := by decide +kernel
theorem dX7_isUnder_0 : decode cX7_isUnder 0 = .ok (.iload_n 1, 1) := by decide +kernel
theorem dX7_isUnder_1 : decode cX7_isUnder 1 = .ok (.ifCond .eq 16, 3) := by decide +kernel
theorem dX7_isUnder_4 : decode cX7_isUnder 4 = .ok (.iload_n 0, 1) := by decide +kernel
theorem dX7_isUnder_5 : decode cX7_isUnder 5 = .ok (.iload_n 1, 1) := by decide +kernel
theorem dX7_isUnder_6 : decode cX7_isUnder 6 = .ok (.if_icmp .eq 11, 3) := by decide +kernel
theorem dX7_isUnder_9 : decode cX7_isUnder 9 = .ok (.iload_n 0, 1) := by decide +kernel
theorem dX7_isUnder_10 : decode cX7_isUnder 10 = .ok (.invokestatic 90, 3) := by decide +kernel
theorem dX7_isUnder_13 : decode cX7_isUnder 13 = .ok (.iload_n 1, 1) := by decide +kernel
theorem dX7_isUnder_14 : decode cX7_isUnder 14 = .ok (.if_icmp .ne 7, 3) := by decide +kernel
theorem dX7_isUnder_17 : decode cX7_isUnder 17 = .ok (.iconst 1, 1) := by decide +kernel
theorem dX7_isUnder_18 : decode cX7_isUnder 18 = .ok (.goto 4, 3) := by decide +kernel
theorem dX7_isUnder_21 : decode cX7_isUnder 21 = .ok (.iconst 0, 1) := by decide +kernel
theorem dX7_isUnder_22 : decode cX7_isUnder 22 = .ok (.ireturn, 1) := by decide +kernel
theorem dX7_counts_0 : decode cX7_counts 0 = .ok (.aload_n 0, 1) := by decide +kernel
theorem dX7_counts_1 : decode cX7_counts 1 = .ok (.getfield 7, 3) := by decide +kernel
theorem dX7_counts_4 : decode cX7_counts 4 = .ok (.bipush 9, 2) := by decide +kernel
theorem dX7_counts_6 : decode cX7_counts 6 = .ok (.iaload, 1) := by decide +kernel
theorem dX7_counts_7 : decode cX7_counts 7 = .ok (.iconst 1, 1) := by decide +kernel
theorem dX7_counts_8 : decode cX7_counts 8 = .ok (.isub, 1) := by decide +kernel
theorem dX7_counts_9 : decode cX7_counts 9 = .ok (.istore_n 2, 1) := by decide +kernel
theorem dX7_counts_10 : decode cX7_counts 10 = .ok (.iload_n 2, 1) := by decide +kernel
theorem dX7_counts_11 : decode cX7_counts 11 = .ok (.ifCond .lt 21, 3) := by decide +kernel
theorem dX7_counts_14 : decode cX7_counts 14 = .ok (.aload_n 0, 1) := by decide +kernel
theorem dX7_counts_15 : decode cX7_counts 15 = .ok (.getfield 25, 3) := by decide +kernel
theorem dX7_counts_18 : decode cX7_counts 18 = .ok (.iload_n 2, 1) := by decide +kernel
theorem dX7_counts_19 : decode cX7_counts 19 = .ok (.iaload, 1) := by decide +kernel
theorem dX7_counts_20 : decode cX7_counts 20 = .ok (.iload_n 1, 1) := by decide +kernel
theorem dX7_counts_21 : decode cX7_counts 21 = .ok (.if_icmp .ne 5, 3) := by decide +kernel
theorem dX7_counts_24 : decode cX7_counts 24 = .ok (.iload_n 2, 1) := by decide +kernel
theorem dX7_counts_25 : decode cX7_counts 25 = .ok (.ireturn, 1) := by decide +kernel
theorem dX7_counts_26 : decode cX7_counts 26 = .ok (.iinc 2 (-1), 3) := by decide +kernel
theorem dX7_counts_29 : decode cX7_counts 29 = .ok (.goto (-19), 3) := by decide +kernel
theorem dX7_counts_32 : decode cX7_counts 32 = .ok (.iconst (-1), 1) := by decide +kernel
theorem dX7_counts_33 : decode cX7_counts 33 = .ok (.ireturn, 1) := by decide +kernel
theorem dX7_done_0 : decode cX7_done 0 = .ok (.iload_n 0, 1) := by decide +kernel
theorem dX7_done_1 : decode cX7_done 1 = .ok (.tableswitch 197 38 62 #[183, 197, 197, 197, 123, 115, 197, 119, 197, 127, 197, 197, 197, 197, 197, 197, 197, 197, 197, 197, 197, 197, 150, 161, 172], 115) := by decide +kernel
theorem dX7_done_116 : decode cX7_done 116 = .ok (.iload_n 1, 1) := by decide +kernel
theorem dX7_done_117 : decode cX7_done 117 = .ok (.iload_n 2, 1) := by decide +kernel
theorem dX7_done_118 : decode cX7_done 118 = .ok (.iadd, 1) := by decide +kernel
theorem dX7_done_119 : decode cX7_done 119 = .ok (.ireturn, 1) := by decide +kernel
theorem dX7_done_120 : decode cX7_done 120 = .ok (.iload_n 1, 1) := by decide +kernel
theorem dX7_done_121 : decode cX7_done 121 = .ok (.iload_n 2, 1) := by decide +kernel
theorem dX7_done_122 : decode cX7_done 122 = .ok (.isub, 1) := by decide +kernel
theorem dX7_done_123 : decode cX7_done 123 = .ok (.ireturn, 1) := by decide +kernel
theorem dX7_done_124 : decode cX7_done 124 = .ok (.iload_n 1, 1) := by decide +kernel
theorem dX7_done_125 : decode cX7_done 125 = .ok (.iload_n 2, 1) := by decide +kernel
theorem dX7_done_126 : decode cX7_done 126 = .ok (.imul, 1) := by decide +kernel
theorem dX7_done_127 : decode cX7_done 127 = .ok (.ireturn, 1) := by decide +kernel
theorem dX7_done_128 : decode cX7_done 128 = .ok (.iload_n 2, 1) := by decide +kernel
theorem dX7_done_129 : decode cX7_done 129 = .ok (.ifCond .ne 7, 3) := by decide +kernel
theorem dX7_done_132 : decode cX7_done 132 = .ok (.iconst 0, 1) := by decide +kernel
theorem dX7_done_133 : decode cX7_done 133 = .ok (.goto 17, 3) := by decide +kernel
theorem dX7_done_136 : decode cX7_done 136 = .ok (.iload_n 2, 1) := by decide +kernel
theorem dX7_done_137 : decode cX7_done 137 = .ok (.iconst (-1), 1) := by decide +kernel
theorem dX7_done_138 : decode cX7_done 138 = .ok (.if_icmp .ne 9, 3) := by decide +kernel
theorem dX7_done_141 : decode cX7_done 141 = .ok (.iconst 0, 1) := by decide +kernel
theorem dX7_done_142 : decode cX7_done 142 = .ok (.iload_n 1, 1) := by decide +kernel
theorem dX7_done_143 : decode cX7_done 143 = .ok (.isub, 1) := by decide +kernel
theorem dX7_done_144 : decode cX7_done 144 = .ok (.goto 6, 3) := by decide +kernel
theorem dX7_done_147 : decode cX7_done 147 = .ok (.iload_n 1, 1) := by decide +kernel
theorem dX7_done_148 : decode cX7_done 148 = .ok (.iload_n 2, 1) := by decide +kernel
theorem dX7_done_149 : decode cX7_done 149 = .ok (.idiv, 1) := by decide +kernel
theorem dX7_done_150 : decode cX7_done 150 = .ok (.ireturn, 1) := by decide +kernel
theorem dX7_done_151 : decode cX7_done 151 = .ok (.iload_n 1, 1) := by decide +kernel
theorem dX7_done_152 : decode cX7_done 152 = .ok (.iload_n 2, 1) := by decide +kernel
theorem dX7_done_153 : decode cX7_done 153 = .ok (.if_icmp .ge 7, 3) := by decide +kernel
theorem dX7_done_156 : decode cX7_done 156 = .ok (.iconst 1, 1) := by decide +kernel
theorem dX7_done_157 : decode cX7_done 157 = .ok (.goto 4, 3) := by decide +kernel
theorem dX7_done_160 : decode cX7_done 160 = .ok (.iconst 0, 1) := by decide +kernel
theorem dX7_done_161 : decode cX7_done 161 = .ok (.ireturn, 1) := by decide +kernel
theorem dX7_done_162 : decode cX7_done 162 = .ok (.iload_n 1, 1) := by decide +kernel
theorem dX7_done_163 : decode cX7_done 163 = .ok (.iload_n 2, 1) := by decide +kernel
theorem dX7_done_164 : decode cX7_done 164 = .ok (.if_icmp .ne 7, 3) := by decide +kernel
theorem dX7_done_167 : decode cX7_done 167 = .ok (.iconst 1, 1) := by decide +kernel
theorem dX7_done_168 : decode cX7_done 168 = .ok (.goto 4, 3) := by decide +kernel
theorem dX7_done_171 : decode cX7_done 171 = .ok (.iconst 0, 1) := by decide +kernel
theorem dX7_done_172 : decode cX7_done 172 = .ok (.ireturn, 1) := by decide +kernel
theorem dX7_done_173 : decode cX7_done 173 = .ok (.iload_n 1, 1) := by decide +kernel
theorem dX7_done_174 : decode cX7_done 174 = .ok (.iload_n 2, 1) := by decide +kernel
theorem dX7_done_175 : decode cX7_done 175 = .ok (.if_icmp .le 7, 3) := by decide +kernel
theorem dX7_done_178 : decode cX7_done 178 = .ok (.iconst 1, 1) := by decide +kernel
theorem dX7_done_179 : decode cX7_done 179 = .ok (.goto 4, 3) := by decide +kernel
theorem dX7_done_182 : decode cX7_done 182 = .ok (.iconst 0, 1) := by decide +kernel
theorem dX7_done_183 : decode cX7_done 183 = .ok (.ireturn, 1) := by decide +kernel
theorem dX7_done_184 : decode cX7_done 184 = .ok (.iload_n 1, 1) := by decide +kernel
theorem dX7_done_185 : decode cX7_done 185 = .ok (.ifCond .eq 11, 3) := by decide +kernel
theorem dX7_done_188 : decode cX7_done 188 = .ok (.iload_n 2, 1) := by decide +kernel
theorem dX7_done_189 : decode cX7_done 189 = .ok (.ifCond .eq 7, 3) := by decide +kernel
theorem dX7_done_192 : decode cX7_done 192 = .ok (.iconst 1, 1) := by decide +kernel
theorem dX7_done_193 : decode cX7_done 193 = .ok (.goto 4, 3) := by decide +kernel
theorem dX7_done_196 : decode cX7_done 196 = .ok (.iconst 0, 1) := by decide +kernel
theorem dX7_done_197 : decode cX7_done 197 = .ok (.ireturn, 1) := by decide +kernel
theorem dX7_done_198 : decode cX7_done 198 = .ok (.iload_n 1, 1) := by decide +kernel
theorem dX7_done_199 : decode cX7_done 199 = .ok (.ifCond .ne 7, 3) := by decide +kernel
theorem dX7_done_202 : decode cX7_done 202 = .ok (.iload_n 2, 1) := by decide +kernel
theorem dX7_done_203 : decode cX7_done 203 = .ok (.ifCond .eq 7, 3) := by decide +kernel
theorem dX7_done_206 : decode cX7_done 206 = .ok (.iconst 1, 1) := by decide +kernel
theorem dX7_done_207 : decode cX7_done 207 = .ok (.goto 4, 3) := by decide +kernel
theorem dX7_done_210 : decode cX7_done 210 = .ok (.iconst 0, 1) := by decide +kernel
theorem dX7_done_211 : decode cX7_done 211 = .ok (.ireturn, 1) := by decide +kernel
theorem dX7_gives_0 : decode cX7_gives 0 = .ok (.iconst 0, 1) := by decide +kernel
theorem dX7_gives_1 : decode cX7_gives 1 = .ok (.istore 6, 2) := by decide +kernel
theorem dX7_gives_3 : decode cX7_gives 3 = .ok (.iconst 0, 1) := by decide +kernel
theorem dX7_gives_4 : decode cX7_gives 4 = .ok (.istore 7, 2) := by decide +kernel
theorem dX7_gives_6 : decode cX7_gives 6 = .ok (.iload 7, 2) := by decide +kernel
theorem dX7_gives_8 : decode cX7_gives 8 = .ok (.aload_n 0, 1) := by decide +kernel
theorem dX7_gives_9 : decode cX7_gives 9 = .ok (.getfield 28, 3) := by decide +kernel
theorem dX7_gives_12 : decode cX7_gives 12 = .ok (.iload_n 1, 1) := by decide +kernel
theorem dX7_gives_13 : decode cX7_gives 13 = .ok (.iaload, 1) := by decide +kernel
theorem dX7_gives_14 : decode cX7_gives 14 = .ok (.if_icmp .ge 180, 3) := by decide +kernel
theorem dX7_gives_17 : decode cX7_gives 17 = .ok (.aload_n 0, 1) := by decide +kernel
theorem dX7_gives_18 : decode cX7_gives 18 = .ok (.getfield 22, 3) := by decide +kernel
theorem dX7_gives_21 : decode cX7_gives 21 = .ok (.bipush 96, 2) := by decide +kernel
theorem dX7_gives_23 : decode cX7_gives 23 = .ok (.iload_n 1, 1) := by decide +kernel
theorem dX7_gives_24 : decode cX7_gives 24 = .ok (.imul, 1) := by decide +kernel
theorem dX7_gives_25 : decode cX7_gives 25 = .ok (.iload 7, 2) := by decide +kernel
theorem dX7_gives_27 : decode cX7_gives 27 = .ok (.iadd, 1) := by decide +kernel
theorem dX7_gives_28 : decode cX7_gives 28 = .ok (.iaload, 1) := by decide +kernel
theorem dX7_gives_29 : decode cX7_gives 29 = .ok (.istore 8, 2) := by decide +kernel
theorem dX7_gives_31 : decode cX7_gives 31 = .ok (.iload 8, 2) := by decide +kernel
theorem dX7_gives_33 : decode cX7_gives 33 = .ok (.sipush 10000, 3) := by decide +kernel
theorem dX7_gives_36 : decode cX7_gives 36 = .ok (.if_icmp .ge 18, 3) := by decide +kernel
theorem dX7_gives_39 : decode cX7_gives 39 = .ok (.aload_n 0, 1) := by decide +kernel
theorem dX7_gives_40 : decode cX7_gives 40 = .ok (.getfield 34, 3) := by decide +kernel
theorem dX7_gives_43 : decode cX7_gives 43 = .ok (.iload 6, 2) := by decide +kernel
theorem dX7_gives_45 : decode cX7_gives 45 = .ok (.iload 8, 2) := by decide +kernel
theorem dX7_gives_47 : decode cX7_gives 47 = .ok (.iastore, 1) := by decide +kernel
theorem dX7_gives_48 : decode cX7_gives 48 = .ok (.iinc 6 1, 3) := by decide +kernel
theorem dX7_gives_51 : decode cX7_gives 51 = .ok (.goto 137, 3) := by decide +kernel
theorem dX7_gives_54 : decode cX7_gives 54 = .ok (.iload 8, 2) := by decide +kernel
theorem dX7_gives_56 : decode cX7_gives 56 = .ok (.sipush 20000, 3) := by decide +kernel
theorem dX7_gives_59 : decode cX7_gives 59 = .ok (.if_icmp .ge 55, 3) := by decide +kernel
theorem dX7_gives_62 : decode cX7_gives 62 = .ok (.aload_n 0, 1) := by decide +kernel
theorem dX7_gives_63 : decode cX7_gives 63 = .ok (.getfield 34, 3) := by decide +kernel
theorem dX7_gives_66 : decode cX7_gives 66 = .ok (.iload 6, 2) := by decide +kernel
theorem dX7_gives_68 : decode cX7_gives 68 = .ok (.iload 8, 2) := by decide +kernel
theorem dX7_gives_70 : decode cX7_gives 70 = .ok (.sipush 10000, 3) := by decide +kernel
theorem dX7_gives_73 : decode cX7_gives 73 = .ok (.if_icmp .ne 7, 3) := by decide +kernel
theorem dX7_gives_76 : decode cX7_gives 76 = .ok (.iload_n 2, 1) := by decide +kernel
theorem dX7_gives_77 : decode cX7_gives 77 = .ok (.goto 30, 3) := by decide +kernel
theorem dX7_gives_80 : decode cX7_gives 80 = .ok (.iload 8, 2) := by decide +kernel
theorem dX7_gives_82 : decode cX7_gives 82 = .ok (.sipush 10001, 3) := by decide +kernel
theorem dX7_gives_85 : decode cX7_gives 85 = .ok (.if_icmp .ne 7, 3) := by decide +kernel
theorem dX7_gives_88 : decode cX7_gives 88 = .ok (.iload_n 3, 1) := by decide +kernel
theorem dX7_gives_89 : decode cX7_gives 89 = .ok (.goto 18, 3) := by decide +kernel
theorem dX7_gives_92 : decode cX7_gives 92 = .ok (.iload 8, 2) := by decide +kernel
theorem dX7_gives_94 : decode cX7_gives 94 = .ok (.sipush 10002, 3) := by decide +kernel
theorem dX7_gives_97 : decode cX7_gives 97 = .ok (.if_icmp .ne 8, 3) := by decide +kernel
theorem dX7_gives_100 : decode cX7_gives 100 = .ok (.iload 4, 2) := by decide +kernel
theorem dX7_gives_102 : decode cX7_gives 102 = .ok (.goto 5, 3) := by decide +kernel
theorem dX7_gives_105 : decode cX7_gives 105 = .ok (.iload 5, 2) := by decide +kernel
theorem dX7_gives_107 : decode cX7_gives 107 = .ok (.iastore, 1) := by decide +kernel
theorem dX7_gives_108 : decode cX7_gives 108 = .ok (.iinc 6 1, 3) := by decide +kernel
theorem dX7_gives_111 : decode cX7_gives 111 = .ok (.goto 77, 3) := by decide +kernel
theorem dX7_gives_114 : decode cX7_gives 114 = .ok (.iload 8, 2) := by decide +kernel
theorem dX7_gives_116 : decode cX7_gives 116 = .ok (.sipush 20033, 3) := by decide +kernel
theorem dX7_gives_119 : decode cX7_gives 119 = .ok (.if_icmp .ne 32, 3) := by decide +kernel
theorem dX7_gives_122 : decode cX7_gives 122 = .ok (.aload_n 0, 1) := by decide +kernel
theorem dX7_gives_123 : decode cX7_gives 123 = .ok (.getfield 34, 3) := by decide +kernel
theorem dX7_gives_126 : decode cX7_gives 126 = .ok (.iload 6, 2) := by decide +kernel
theorem dX7_gives_128 : decode cX7_gives 128 = .ok (.iconst 1, 1) := by decide +kernel
theorem dX7_gives_129 : decode cX7_gives 129 = .ok (.isub, 1) := by decide +kernel
theorem dX7_gives_130 : decode cX7_gives 130 = .ok (.aload_n 0, 1) := by decide +kernel
theorem dX7_gives_131 : decode cX7_gives 131 = .ok (.getfield 34, 3) := by decide +kernel
theorem dX7_gives_134 : decode cX7_gives 134 = .ok (.iload 6, 2) := by decide +kernel
theorem dX7_gives_136 : decode cX7_gives 136 = .ok (.iconst 1, 1) := by decide +kernel
theorem dX7_gives_137 : decode cX7_gives 137 = .ok (.isub, 1) := by decide +kernel
theorem dX7_gives_138 : decode cX7_gives 138 = .ok (.iaload, 1) := by decide +kernel
theorem dX7_gives_139 : decode cX7_gives 139 = .ok (.ifCond .ne 7, 3) := by decide +kernel
theorem dX7_gives_142 : decode cX7_gives 142 = .ok (.iconst 1, 1) := by decide +kernel
theorem dX7_gives_143 : decode cX7_gives 143 = .ok (.goto 4, 3) := by decide +kernel
theorem dX7_gives_146 : decode cX7_gives 146 = .ok (.iconst 0, 1) := by decide +kernel
theorem dX7_gives_147 : decode cX7_gives 147 = .ok (.iastore, 1) := by decide +kernel
theorem dX7_gives_148 : decode cX7_gives 148 = .ok (.goto 40, 3) := by decide +kernel
theorem dX7_gives_151 : decode cX7_gives 151 = .ok (.iinc 6 (-1), 3) := by decide +kernel
theorem dX7_gives_154 : decode cX7_gives 154 = .ok (.aload_n 0, 1) := by decide +kernel
theorem dX7_gives_155 : decode cX7_gives 155 = .ok (.getfield 34, 3) := by decide +kernel
theorem dX7_gives_158 : decode cX7_gives 158 = .ok (.iload 6, 2) := by decide +kernel
theorem dX7_gives_160 : decode cX7_gives 160 = .ok (.iconst 1, 1) := by decide +kernel
theorem dX7_gives_161 : decode cX7_gives 161 = .ok (.isub, 1) := by decide +kernel
theorem dX7_gives_162 : decode cX7_gives 162 = .ok (.iload 8, 2) := by decide +kernel
theorem dX7_gives_164 : decode cX7_gives 164 = .ok (.sipush 20000, 3) := by decide +kernel
theorem dX7_gives_167 : decode cX7_gives 167 = .ok (.isub, 1) := by decide +kernel
theorem dX7_gives_168 : decode cX7_gives 168 = .ok (.aload_n 0, 1) := by decide +kernel
theorem dX7_gives_169 : decode cX7_gives 169 = .ok (.getfield 34, 3) := by decide +kernel
theorem dX7_gives_172 : decode cX7_gives 172 = .ok (.iload 6, 2) := by decide +kernel
theorem dX7_gives_174 : decode cX7_gives 174 = .ok (.iconst 1, 1) := by decide +kernel
theorem dX7_gives_175 : decode cX7_gives 175 = .ok (.isub, 1) := by decide +kernel
theorem dX7_gives_176 : decode cX7_gives 176 = .ok (.iaload, 1) := by decide +kernel
theorem dX7_gives_177 : decode cX7_gives 177 = .ok (.aload_n 0, 1) := by decide +kernel
theorem dX7_gives_178 : decode cX7_gives 178 = .ok (.getfield 34, 3) := by decide +kernel
theorem dX7_gives_181 : decode cX7_gives 181 = .ok (.iload 6, 2) := by decide +kernel
theorem dX7_gives_183 : decode cX7_gives 183 = .ok (.iaload, 1) := by decide +kernel
theorem dX7_gives_184 : decode cX7_gives 184 = .ok (.invokestatic 94, 3) := by decide +kernel
theorem dX7_gives_187 : decode cX7_gives 187 = .ok (.iastore, 1) := by decide +kernel
theorem dX7_gives_188 : decode cX7_gives 188 = .ok (.iinc 7 1, 3) := by decide +kernel
theorem dX7_gives_191 : decode cX7_gives 191 = .ok (.goto (-185), 3) := by decide +kernel
theorem dX7_gives_194 : decode cX7_gives 194 = .ok (.aload_n 0, 1) := by decide +kernel
theorem dX7_gives_195 : decode cX7_gives 195 = .ok (.getfield 34, 3) := by decide +kernel
theorem dX7_gives_198 : decode cX7_gives 198 = .ok (.iconst 0, 1) := by decide +kernel
theorem dX7_gives_199 : decode cX7_gives 199 = .ok (.iaload, 1) := by decide +kernel
theorem dX7_gives_200 : decode cX7_gives 200 = .ok (.ireturn, 1) := by decide +kernel
theorem dX7_plain_0 : decode cX7_plain 0 = .ok (.aload_n 0, 1) := by decide +kernel
theorem dX7_plain_1 : decode cX7_plain 1 = .ok (.iconst 0, 1) := by decide +kernel
theorem dX7_plain_2 : decode cX7_plain 2 = .ok (.invokevirtual 98, 3) := by decide +kernel
theorem dX7_plain_5 : decode cX7_plain 5 = .ok (.istore_n 2, 1) := by decide +kernel
theorem dX7_plain_6 : decode cX7_plain 6 = .ok (.iload_n 2, 1) := by decide +kernel
theorem dX7_plain_7 : decode cX7_plain 7 = .ok (.ifCond .ge 22, 3) := by decide +kernel
theorem dX7_plain_10 : decode cX7_plain 10 = .ok (.aload_n 0, 1) := by decide +kernel
theorem dX7_plain_11 : decode cX7_plain 11 = .ok (.iload_n 1, 1) := by decide +kernel
theorem dX7_plain_12 : decode cX7_plain 12 = .ok (.iconst 1, 1) := by decide +kernel
theorem dX7_plain_13 : decode cX7_plain 13 = .ok (.invokevirtual 101, 3) := by decide +kernel
theorem dX7_plain_16 : decode cX7_plain 16 = .ok (.aload_n 0, 1) := by decide +kernel
theorem dX7_plain_17 : decode cX7_plain 17 = .ok (.iload_n 1, 1) := by decide +kernel
theorem dX7_plain_18 : decode cX7_plain 18 = .ok (.iconst 2, 1) := by decide +kernel
theorem dX7_plain_19 : decode cX7_plain 19 = .ok (.invokevirtual 101, 3) := by decide +kernel
theorem dX7_plain_22 : decode cX7_plain 22 = .ok (.isub, 1) := by decide +kernel
theorem dX7_plain_23 : decode cX7_plain 23 = .ok (.invokestatic 105, 3) := by decide +kernel
theorem dX7_plain_26 : decode cX7_plain 26 = .ok (.goto 38, 3) := by decide +kernel
theorem dX7_plain_29 : decode cX7_plain 29 = .ok (.aload_n 0, 1) := by decide +kernel
theorem dX7_plain_30 : decode cX7_plain 30 = .ok (.iload_n 2, 1) := by decide +kernel
theorem dX7_plain_31 : decode cX7_plain 31 = .ok (.aload_n 0, 1) := by decide +kernel
theorem dX7_plain_32 : decode cX7_plain 32 = .ok (.iload_n 1, 1) := by decide +kernel
theorem dX7_plain_33 : decode cX7_plain 33 = .ok (.iconst 1, 1) := by decide +kernel
theorem dX7_plain_34 : decode cX7_plain 34 = .ok (.invokevirtual 101, 3) := by decide +kernel
theorem dX7_plain_37 : decode cX7_plain 37 = .ok (.aload_n 0, 1) := by decide +kernel
theorem dX7_plain_38 : decode cX7_plain 38 = .ok (.iload_n 1, 1) := by decide +kernel
theorem dX7_plain_39 : decode cX7_plain 39 = .ok (.iconst 2, 1) := by decide +kernel
theorem dX7_plain_40 : decode cX7_plain 40 = .ok (.invokevirtual 101, 3) := by decide +kernel
theorem dX7_plain_43 : decode cX7_plain 43 = .ok (.aload_n 0, 1) := by decide +kernel
theorem dX7_plain_44 : decode cX7_plain 44 = .ok (.iload_n 1, 1) := by decide +kernel
theorem dX7_plain_45 : decode cX7_plain 45 = .ok (.iconst 3, 1) := by decide +kernel
theorem dX7_plain_46 : decode cX7_plain 46 = .ok (.invokevirtual 101, 3) := by decide +kernel
theorem dX7_plain_49 : decode cX7_plain 49 = .ok (.aload_n 0, 1) := by decide +kernel
theorem dX7_plain_50 : decode cX7_plain 50 = .ok (.getfield 7, 3) := by decide +kernel
theorem dX7_plain_53 : decode cX7_plain 53 = .ok (.iconst 0, 1) := by decide +kernel
theorem dX7_plain_54 : decode cX7_plain 54 = .ok (.iaload, 1) := by decide +kernel
theorem dX7_plain_55 : decode cX7_plain 55 = .ok (.invokevirtual 108, 3) := by decide +kernel
theorem dX7_plain_58 : decode cX7_plain 58 = .ok (.iconst 0, 1) := by decide +kernel
theorem dX7_plain_59 : decode cX7_plain 59 = .ok (.bipush 99, 2) := by decide +kernel
theorem dX7_plain_61 : decode cX7_plain 61 = .ok (.invokestatic 112, 3) := by decide +kernel
theorem dX7_plain_64 : decode cX7_plain 64 = .ok (.ireturn, 1) := by decide +kernel
theorem dX7_slack_0 : decode cX7_slack 0 = .ok (.aload_n 0, 1) := by decide +kernel
theorem dX7_slack_1 : decode cX7_slack 1 = .ok (.iload_n 1, 1) := by decide +kernel
theorem dX7_slack_2 : decode cX7_slack 2 = .ok (.invokevirtual 115, 3) := by decide +kernel
theorem dX7_slack_5 : decode cX7_slack 5 = .ok (.istore_n 2, 1) := by decide +kernel
theorem dX7_slack_6 : decode cX7_slack 6 = .ok (.iload_n 2, 1) := by decide +kernel
theorem dX7_slack_7 : decode cX7_slack 7 = .ok (.iconst 2, 1) := by decide +kernel
theorem dX7_slack_8 : decode cX7_slack 8 = .ok (.aload_n 0, 1) := by decide +kernel
theorem dX7_slack_9 : decode cX7_slack 9 = .ok (.getfield 7, 3) := by decide +kernel
theorem dX7_slack_12 : decode cX7_slack 12 = .ok (.iconst 5, 1) := by decide +kernel
theorem dX7_slack_13 : decode cX7_slack 13 = .ok (.iaload, 1) := by decide +kernel
theorem dX7_slack_14 : decode cX7_slack 14 = .ok (.iconst 1, 1) := by decide +kernel
theorem dX7_slack_15 : decode cX7_slack 15 = .ok (.iload_n 1, 1) := by decide +kernel
theorem dX7_slack_16 : decode cX7_slack 16 = .ok (.ishl, 1) := by decide +kernel
theorem dX7_slack_17 : decode cX7_slack 17 = .ok (.iconst (-1), 1) := by decide +kernel
theorem dX7_slack_18 : decode cX7_slack 18 = .ok (.ixor, 1) := by decide +kernel
theorem dX7_slack_19 : decode cX7_slack 19 = .ok (.iand, 1) := by decide +kernel
theorem dX7_slack_20 : decode cX7_slack 20 = .ok (.invokestatic 118, 3) := by decide +kernel
theorem dX7_slack_23 : decode cX7_slack 23 = .ok (.imul, 1) := by decide +kernel
theorem dX7_slack_24 : decode cX7_slack 24 = .ok (.iadd, 1) := by decide +kernel
theorem dX7_slack_25 : decode cX7_slack 25 = .ok (.iconst 0, 1) := by decide +kernel
theorem dX7_slack_26 : decode cX7_slack 26 = .ok (.bipush 99, 2) := by decide +kernel
theorem dX7_slack_28 : decode cX7_slack 28 = .ok (.invokestatic 112, 3) := by decide +kernel
theorem dX7_slack_31 : decode cX7_slack 31 = .ok (.istore_n 3, 1) := by decide +kernel
theorem dX7_slack_32 : decode cX7_slack 32 = .ok (.aload_n 0, 1) := by decide +kernel
theorem dX7_slack_33 : decode cX7_slack 33 = .ok (.iload_n 1, 1) := by decide +kernel
theorem dX7_slack_34 : decode cX7_slack 34 = .ok (.iconst 0, 1) := by decide +kernel
theorem dX7_slack_35 : decode cX7_slack 35 = .ok (.invokevirtual 101, 3) := by decide +kernel
theorem dX7_slack_38 : decode cX7_slack 38 = .ok (.tableswitch 66 1 5 #[34, 50, 38, 52, 63], 34) := by decide +kernel
theorem dX7_slack_72 : decode cX7_slack 72 = .ok (.iload_n 2, 1) := by decide +kernel
theorem dX7_slack_73 : decode cX7_slack 73 = .ok (.iconst 2, 1) := by decide +kernel
theorem dX7_slack_74 : decode cX7_slack 74 = .ok (.idiv, 1) := by decide +kernel
theorem dX7_slack_75 : decode cX7_slack 75 = .ok (.ireturn, 1) := by decide +kernel
theorem dX7_slack_76 : decode cX7_slack 76 = .ok (.iload_n 2, 1) := by decide +kernel
theorem dX7_slack_77 : decode cX7_slack 77 = .ok (.iconst 2, 1) := by decide +kernel
theorem dX7_slack_78 : decode cX7_slack 78 = .ok (.idiv, 1) := by decide +kernel
theorem dX7_slack_79 : decode cX7_slack 79 = .ok (.iconst 5, 1) := by decide +kernel
theorem dX7_slack_80 : decode cX7_slack 80 = .ok (.isub, 1) := by decide +kernel
theorem dX7_slack_81 : decode cX7_slack 81 = .ok (.iconst 0, 1) := by decide +kernel
theorem dX7_slack_82 : decode cX7_slack 82 = .ok (.bipush 99, 2) := by decide +kernel
theorem dX7_slack_84 : decode cX7_slack 84 = .ok (.invokestatic 112, 3) := by decide +kernel
theorem dX7_slack_87 : decode cX7_slack 87 = .ok (.ireturn, 1) := by decide +kernel
theorem dX7_slack_88 : decode cX7_slack 88 = .ok (.iload_n 3, 1) := by decide +kernel
theorem dX7_slack_89 : decode cX7_slack 89 = .ok (.ireturn, 1) := by decide +kernel
theorem dX7_slack_90 : decode cX7_slack 90 = .ok (.iload_n 3, 1) := by decide +kernel
theorem dX7_slack_91 : decode cX7_slack 91 = .ok (.bipush 10, 2) := by decide +kernel
theorem dX7_slack_93 : decode cX7_slack 93 = .ok (.iadd, 1) := by decide +kernel
theorem dX7_slack_94 : decode cX7_slack 94 = .ok (.iconst 0, 1) := by decide +kernel
theorem dX7_slack_95 : decode cX7_slack 95 = .ok (.bipush 99, 2) := by decide +kernel
theorem dX7_slack_97 : decode cX7_slack 97 = .ok (.invokestatic 112, 3) := by decide +kernel
theorem dX7_slack_100 : decode cX7_slack 100 = .ok (.ireturn, 1) := by decide +kernel
theorem dX7_slack_101 : decode cX7_slack 101 = .ok (.bipush 50, 2) := by decide +kernel
theorem dX7_slack_103 : decode cX7_slack 103 = .ok (.ireturn, 1) := by decide +kernel
theorem dX7_slack_104 : decode cX7_slack 104 = .ok (.iload_n 2, 1) := by decide +kernel
theorem dX7_slack_105 : decode cX7_slack 105 = .ok (.ireturn, 1) := by decide +kernel
theorem dX7_bends_0 : decode cX7_bends 0 = .ok (.iconst (-1), 1) := by decide +kernel
theorem dX7_bends_1 : decode cX7_bends 1 = .ok (.aload_n 0, 1) := by decide +kernel
theorem dX7_bends_2 : decode cX7_bends 2 = .ok (.iload_n 1, 1) := by decide +kernel
theorem dX7_bends_3 : decode cX7_bends 3 = .ok (.iconst 3, 1) := by decide +kernel
theorem dX7_bends_4 : decode cX7_bends 4 = .ok (.invokevirtual 101, 3) := by decide +kernel
theorem dX7_bends_7 : decode cX7_bends 7 = .ok (.bipush 10, 2) := by decide +kernel
theorem dX7_bends_9 : decode cX7_bends 9 = .ok (.idiv, 1) := by decide +kernel
theorem dX7_bends_10 : decode cX7_bends 10 = .ok (.isub, 1) := by decide +kernel
theorem dX7_bends_11 : decode cX7_bends 11 = .ok (.istore_n 2, 1) := by decide +kernel
theorem dX7_bends_12 : decode cX7_bends 12 = .ok (.aload_n 0, 1) := by decide +kernel
theorem dX7_bends_13 : decode cX7_bends 13 = .ok (.iload_n 1, 1) := by decide +kernel
theorem dX7_bends_14 : decode cX7_bends 14 = .ok (.iconst 0, 1) := by decide +kernel
theorem dX7_bends_15 : decode cX7_bends 15 = .ok (.invokevirtual 101, 3) := by decide +kernel
theorem dX7_bends_18 : decode cX7_bends 18 = .ok (.tableswitch 46 1 5 #[34, 38, 36, 40, 44], 34) := by decide +kernel
theorem dX7_bends_52 : decode cX7_bends 52 = .ok (.iconst 1, 1) := by decide +kernel
theorem dX7_bends_53 : decode cX7_bends 53 = .ok (.ireturn, 1) := by decide +kernel
theorem dX7_bends_54 : decode cX7_bends 54 = .ok (.iconst 2, 1) := by decide +kernel
theorem dX7_bends_55 : decode cX7_bends 55 = .ok (.ireturn, 1) := by decide +kernel
theorem dX7_bends_56 : decode cX7_bends 56 = .ok (.iload_n 2, 1) := by decide +kernel
theorem dX7_bends_57 : decode cX7_bends 57 = .ok (.ireturn, 1) := by decide +kernel
theorem dX7_bends_58 : decode cX7_bends 58 = .ok (.iload_n 2, 1) := by decide +kernel
theorem dX7_bends_59 : decode cX7_bends 59 = .ok (.iconst 3, 1) := by decide +kernel
theorem dX7_bends_60 : decode cX7_bends 60 = .ok (.iadd, 1) := by decide +kernel
theorem dX7_bends_61 : decode cX7_bends 61 = .ok (.ireturn, 1) := by decide +kernel
theorem dX7_bends_62 : decode cX7_bends 62 = .ok (.iconst 0, 1) := by decide +kernel
theorem dX7_bends_63 : decode cX7_bends 63 = .ok (.ireturn, 1) := by decide +kernel
theorem dX7_bends_64 : decode cX7_bends 64 = .ok (.iconst (-1), 1) := by decide +kernel
theorem dX7_bends_65 : decode cX7_bends 65 = .ok (.ireturn, 1) := by decide +kernel
theorem dX7_burns_0 : decode cX7_burns 0 = .ok (.aload_n 0, 1) := by decide +kernel
theorem dX7_burns_1 : decode cX7_burns 1 = .ok (.iload_n 1, 1) := by decide +kernel
theorem dX7_burns_2 : decode cX7_burns 2 = .ok (.iconst 0, 1) := by decide +kernel
theorem dX7_burns_3 : decode cX7_burns 3 = .ok (.invokevirtual 101, 3) := by decide +kernel
theorem dX7_burns_6 : decode cX7_burns 6 = .ok (.tableswitch 46 1 5 #[34, 38, 36, 41, 44], 34) := by decide +kernel
theorem dX7_burns_40 : decode cX7_burns 40 = .ok (.iconst 3, 1) := by decide +kernel
theorem dX7_burns_41 : decode cX7_burns 41 = .ok (.ireturn, 1) := by decide +kernel
theorem dX7_burns_42 : decode cX7_burns 42 = .ok (.iconst 4, 1) := by decide +kernel
theorem dX7_burns_43 : decode cX7_burns 43 = .ok (.ireturn, 1) := by decide +kernel
theorem dX7_burns_44 : decode cX7_burns 44 = .ok (.bipush 10, 2) := by decide +kernel
theorem dX7_burns_46 : decode cX7_burns 46 = .ok (.ireturn, 1) := by decide +kernel
theorem dX7_burns_47 : decode cX7_burns 47 = .ok (.bipush 6, 2) := by decide +kernel
theorem dX7_burns_49 : decode cX7_burns 49 = .ok (.ireturn, 1) := by decide +kernel
theorem dX7_burns_50 : decode cX7_burns 50 = .ok (.iconst 0, 1) := by decide +kernel
theorem dX7_burns_51 : decode cX7_burns 51 = .ok (.ireturn, 1) := by decide +kernel
theorem dX7_burns_52 : decode cX7_burns 52 = .ok (.iconst 5, 1) := by decide +kernel
theorem dX7_burns_53 : decode cX7_burns 53 = .ok (.ireturn, 1) := by decide +kernel
theorem dX7_worthOf_0 : decode cX7_worthOf 0 = .ok (.iload_n 0, 1) := by decide +kernel
theorem dX7_worthOf_1 : decode cX7_worthOf 1 = .ok (.tableswitch 60 1 5 #[35, 45, 39, 50, 58], 35) := by decide +kernel
theorem dX7_worthOf_36 : decode cX7_worthOf 36 = .ok (.iload_n 2, 1) := by decide +kernel
theorem dX7_worthOf_37 : decode cX7_worthOf 37 = .ok (.iload_n 1, 1) := by decide +kernel
theorem dX7_worthOf_38 : decode cX7_worthOf 38 = .ok (.iadd, 1) := by decide +kernel
theorem dX7_worthOf_39 : decode cX7_worthOf 39 = .ok (.ireturn, 1) := by decide +kernel
theorem dX7_worthOf_40 : decode cX7_worthOf 40 = .ok (.iload_n 2, 1) := by decide +kernel
theorem dX7_worthOf_41 : decode cX7_worthOf 41 = .ok (.iload_n 1, 1) := by decide +kernel
theorem dX7_worthOf_42 : decode cX7_worthOf 42 = .ok (.iadd, 1) := by decide +kernel
theorem dX7_worthOf_43 : decode cX7_worthOf 43 = .ok (.iconst 2, 1) := by decide +kernel
theorem dX7_worthOf_44 : decode cX7_worthOf 44 = .ok (.idiv, 1) := by decide +kernel
theorem dX7_worthOf_45 : decode cX7_worthOf 45 = .ok (.ireturn, 1) := by decide +kernel
theorem dX7_worthOf_46 : decode cX7_worthOf 46 = .ok (.bipush 99, 2) := by decide +kernel
theorem dX7_worthOf_48 : decode cX7_worthOf 48 = .ok (.iload_n 1, 1) := by decide +kernel
theorem dX7_worthOf_49 : decode cX7_worthOf 49 = .ok (.isub, 1) := by decide +kernel
theorem dX7_worthOf_50 : decode cX7_worthOf 50 = .ok (.ireturn, 1) := by decide +kernel
theorem dX7_worthOf_51 : decode cX7_worthOf 51 = .ok (.bipush 99, 2) := by decide +kernel
theorem dX7_worthOf_53 : decode cX7_worthOf 53 = .ok (.iload_n 1, 1) := by decide +kernel
theorem dX7_worthOf_54 : decode cX7_worthOf 54 = .ok (.isub, 1) := by decide +kernel
theorem dX7_worthOf_55 : decode cX7_worthOf 55 = .ok (.bipush 7, 2) := by decide +kernel
theorem dX7_worthOf_57 : decode cX7_worthOf 57 = .ok (.iadd, 1) := by decide +kernel
theorem dX7_worthOf_58 : decode cX7_worthOf 58 = .ok (.ireturn, 1) := by decide +kernel
theorem dX7_worthOf_59 : decode cX7_worthOf 59 = .ok (.iload_n 3, 1) := by decide +kernel
theorem dX7_worthOf_60 : decode cX7_worthOf 60 = .ok (.ireturn, 1) := by decide +kernel
theorem dX7_worthOf_61 : decode cX7_worthOf 61 = .ok (.iload_n 2, 1) := by decide +kernel
theorem dX7_worthOf_62 : decode cX7_worthOf 62 = .ok (.ireturn, 1) := by decide +kernel
theorem dX7_draw_0 : decode cX7_draw 0 = .ok (.aload_n 0, 1) := by decide +kernel
theorem dX7_draw_1 : decode cX7_draw 1 = .ok (.getfield 7, 3) := by decide +kernel
theorem dX7_draw_4 : decode cX7_draw 4 = .ok (.bipush 8, 2) := by decide +kernel
theorem dX7_draw_6 : decode cX7_draw 6 = .ok (.aload_n 0, 1) := by decide +kernel
theorem dX7_draw_7 : decode cX7_draw 7 = .ok (.getfield 7, 3) := by decide +kernel
theorem dX7_draw_10 : decode cX7_draw 10 = .ok (.bipush 8, 2) := by decide +kernel
theorem dX7_draw_12 : decode cX7_draw 12 = .ok (.iaload, 1) := by decide +kernel
theorem dX7_draw_13 : decode cX7_draw 13 = .ok (.ldc 121, 2) := by decide +kernel
theorem dX7_draw_15 : decode cX7_draw 15 = .ok (.imul, 1) := by decide +kernel
theorem dX7_draw_16 : decode cX7_draw 16 = .ok (.sipush 12345, 3) := by decide +kernel
theorem dX7_draw_19 : decode cX7_draw 19 = .ok (.iadd, 1) := by decide +kernel
theorem dX7_draw_20 : decode cX7_draw 20 = .ok (.iastore, 1) := by decide +kernel
theorem dX7_draw_21 : decode cX7_draw 21 = .ok (.aload_n 0, 1) := by decide +kernel
theorem dX7_draw_22 : decode cX7_draw 22 = .ok (.getfield 7, 3) := by decide +kernel
theorem dX7_draw_25 : decode cX7_draw 25 = .ok (.bipush 8, 2) := by decide +kernel
theorem dX7_draw_27 : decode cX7_draw 27 = .ok (.iaload, 1) := by decide +kernel
theorem dX7_draw_28 : decode cX7_draw 28 = .ok (.bipush 8, 2) := by decide +kernel
theorem dX7_draw_30 : decode cX7_draw 30 = .ok (.iushr, 1) := by decide +kernel
theorem dX7_draw_31 : decode cX7_draw 31 = .ok (.ireturn, 1) := by decide +kernel
theorem dX7_roundGoes_0 : decode cX7_roundGoes 0 = .ok (.iconst 0, 1) := by decide +kernel
theorem dX7_roundGoes_1 : decode cX7_roundGoes 1 = .ok (.istore_n 1, 1) := by decide +kernel
theorem dX7_roundGoes_2 : decode cX7_roundGoes 2 = .ok (.iconst 0, 1) := by decide +kernel
theorem dX7_roundGoes_3 : decode cX7_roundGoes 3 = .ok (.istore_n 2, 1) := by decide +kernel
theorem dX7_roundGoes_4 : decode cX7_roundGoes 4 = .ok (.iload_n 2, 1) := by decide +kernel
theorem dX7_roundGoes_5 : decode cX7_roundGoes 5 = .ok (.aload_n 0, 1) := by decide +kernel
theorem dX7_roundGoes_6 : decode cX7_roundGoes 6 = .ok (.getfield 7, 3) := by decide +kernel
theorem dX7_roundGoes_9 : decode cX7_roundGoes 9 = .ok (.iconst 0, 1) := by decide +kernel
theorem dX7_roundGoes_10 : decode cX7_roundGoes 10 = .ok (.iaload, 1) := by decide +kernel
theorem dX7_roundGoes_11 : decode cX7_roundGoes 11 = .ok (.if_icmp .ge 33, 3) := by decide +kernel
theorem dX7_roundGoes_14 : decode cX7_roundGoes 14 = .ok (.iload_n 1, 1) := by decide +kernel
theorem dX7_roundGoes_15 : decode cX7_roundGoes 15 = .ok (.aload_n 0, 1) := by decide +kernel
theorem dX7_roundGoes_16 : decode cX7_roundGoes 16 = .ok (.iload_n 2, 1) := by decide +kernel
theorem dX7_roundGoes_17 : decode cX7_roundGoes 17 = .ok (.invokevirtual 122, 3) := by decide +kernel
theorem dX7_roundGoes_20 : decode cX7_roundGoes 20 = .ok (.aload_n 0, 1) := by decide +kernel
theorem dX7_roundGoes_21 : decode cX7_roundGoes 21 = .ok (.getfield 7, 3) := by decide +kernel
theorem dX7_roundGoes_24 : decode cX7_roundGoes 24 = .ok (.iconst 2, 1) := by decide +kernel
theorem dX7_roundGoes_25 : decode cX7_roundGoes 25 = .ok (.iaload, 1) := by decide +kernel
theorem dX7_roundGoes_26 : decode cX7_roundGoes 26 = .ok (.if_icmp .lt 9, 3) := by decide +kernel
theorem dX7_roundGoes_29 : decode cX7_roundGoes 29 = .ok (.iconst 1, 1) := by decide +kernel
theorem dX7_roundGoes_30 : decode cX7_roundGoes 30 = .ok (.iload_n 2, 1) := by decide +kernel
theorem dX7_roundGoes_31 : decode cX7_roundGoes 31 = .ok (.ishl, 1) := by decide +kernel
theorem dX7_roundGoes_32 : decode cX7_roundGoes 32 = .ok (.goto 4, 3) := by decide +kernel
theorem dX7_roundGoes_35 : decode cX7_roundGoes 35 = .ok (.iconst 0, 1) := by decide +kernel
theorem dX7_roundGoes_36 : decode cX7_roundGoes 36 = .ok (.ior, 1) := by decide +kernel
theorem dX7_roundGoes_37 : decode cX7_roundGoes 37 = .ok (.istore_n 1, 1) := by decide +kernel
theorem dX7_roundGoes_38 : decode cX7_roundGoes 38 = .ok (.iinc 2 1, 3) := by decide +kernel
theorem dX7_roundGoes_41 : decode cX7_roundGoes 41 = .ok (.goto (-37), 3) := by decide +kernel
theorem dX7_roundGoes_44 : decode cX7_roundGoes 44 = .ok (.aload_n 0, 1) := by decide +kernel
theorem dX7_roundGoes_45 : decode cX7_roundGoes 45 = .ok (.getfield 7, 3) := by decide +kernel
theorem dX7_roundGoes_48 : decode cX7_roundGoes 48 = .ok (.iconst 5, 1) := by decide +kernel
theorem dX7_roundGoes_49 : decode cX7_roundGoes 49 = .ok (.iload_n 1, 1) := by decide +kernel
theorem dX7_roundGoes_50 : decode cX7_roundGoes 50 = .ok (.iastore, 1) := by decide +kernel
theorem dX7_roundGoes_51 : decode cX7_roundGoes 51 = .ok (.iconst 0, 1) := by decide +kernel
theorem dX7_roundGoes_52 : decode cX7_roundGoes 52 = .ok (.istore_n 2, 1) := by decide +kernel
theorem dX7_roundGoes_53 : decode cX7_roundGoes 53 = .ok (.iload_n 2, 1) := by decide +kernel
theorem dX7_roundGoes_54 : decode cX7_roundGoes 54 = .ok (.aload_n 0, 1) := by decide +kernel
theorem dX7_roundGoes_55 : decode cX7_roundGoes 55 = .ok (.getfield 7, 3) := by decide +kernel
theorem dX7_roundGoes_58 : decode cX7_roundGoes 58 = .ok (.iconst 0, 1) := by decide +kernel
theorem dX7_roundGoes_59 : decode cX7_roundGoes 59 = .ok (.iaload, 1) := by decide +kernel
theorem dX7_roundGoes_60 : decode cX7_roundGoes 60 = .ok (.if_icmp .ge 34, 3) := by decide +kernel
theorem dX7_roundGoes_63 : decode cX7_roundGoes 63 = .ok (.aload_n 0, 1) := by decide +kernel
theorem dX7_roundGoes_64 : decode cX7_roundGoes 64 = .ok (.iload_n 2, 1) := by decide +kernel
theorem dX7_roundGoes_65 : decode cX7_roundGoes 65 = .ok (.iconst 4, 1) := by decide +kernel
theorem dX7_roundGoes_66 : decode cX7_roundGoes 66 = .ok (.aload_n 0, 1) := by decide +kernel
theorem dX7_roundGoes_67 : decode cX7_roundGoes 67 = .ok (.iload_n 2, 1) := by decide +kernel
theorem dX7_roundGoes_68 : decode cX7_roundGoes 68 = .ok (.iconst 4, 1) := by decide +kernel
theorem dX7_roundGoes_69 : decode cX7_roundGoes 69 = .ok (.invokevirtual 101, 3) := by decide +kernel
theorem dX7_roundGoes_72 : decode cX7_roundGoes 72 = .ok (.iload_n 1, 1) := by decide +kernel
theorem dX7_roundGoes_73 : decode cX7_roundGoes 73 = .ok (.iload_n 2, 1) := by decide +kernel
theorem dX7_roundGoes_74 : decode cX7_roundGoes 74 = .ok (.ishr, 1) := by decide +kernel
theorem dX7_roundGoes_75 : decode cX7_roundGoes 75 = .ok (.iconst 1, 1) := by decide +kernel
theorem dX7_roundGoes_76 : decode cX7_roundGoes 76 = .ok (.iand, 1) := by decide +kernel
theorem dX7_roundGoes_77 : decode cX7_roundGoes 77 = .ok (.iadd, 1) := by decide +kernel
theorem dX7_roundGoes_78 : decode cX7_roundGoes 78 = .ok (.iconst 0, 1) := by decide +kernel
theorem dX7_roundGoes_79 : decode cX7_roundGoes 79 = .ok (.sipush 9999, 3) := by decide +kernel
theorem dX7_roundGoes_82 : decode cX7_roundGoes 82 = .ok (.invokestatic 112, 3) := by decide +kernel
theorem dX7_roundGoes_85 : decode cX7_roundGoes 85 = .ok (.invokevirtual 125, 3) := by decide +kernel
theorem dX7_roundGoes_88 : decode cX7_roundGoes 88 = .ok (.iinc 2 1, 3) := by decide +kernel
theorem dX7_roundGoes_91 : decode cX7_roundGoes 91 = .ok (.goto (-38), 3) := by decide +kernel
theorem dX7_roundGoes_94 : decode cX7_roundGoes 94 = .ok (.aload_n 0, 1) := by decide +kernel
theorem dX7_roundGoes_95 : decode cX7_roundGoes 95 = .ok (.getfield 7, 3) := by decide +kernel
theorem dX7_roundGoes_98 : decode cX7_roundGoes 98 = .ok (.bipush 6, 2) := by decide +kernel
theorem dX7_roundGoes_100 : decode cX7_roundGoes 100 = .ok (.aload_n 0, 1) := by decide +kernel
theorem dX7_roundGoes_101 : decode cX7_roundGoes 101 = .ok (.getfield 7, 3) := by decide +kernel
theorem dX7_roundGoes_104 : decode cX7_roundGoes 104 = .ok (.bipush 6, 2) := by decide +kernel
theorem dX7_roundGoes_106 : decode cX7_roundGoes 106 = .ok (.iaload, 1) := by decide +kernel
theorem dX7_roundGoes_107 : decode cX7_roundGoes 107 = .ok (.iload_n 1, 1) := by decide +kernel
theorem dX7_roundGoes_108 : decode cX7_roundGoes 108 = .ok (.invokestatic 118, 3) := by decide +kernel
theorem dX7_roundGoes_111 : decode cX7_roundGoes 111 = .ok (.iadd, 1) := by decide +kernel
theorem dX7_roundGoes_112 : decode cX7_roundGoes 112 = .ok (.iconst 0, 1) := by decide +kernel
theorem dX7_roundGoes_113 : decode cX7_roundGoes 113 = .ok (.ldc 129, 2) := by decide +kernel
theorem dX7_roundGoes_115 : decode cX7_roundGoes 115 = .ok (.invokestatic 112, 3) := by decide +kernel
theorem dX7_roundGoes_118 : decode cX7_roundGoes 118 = .ok (.iastore, 1) := by decide +kernel
theorem dX7_roundGoes_119 : decode cX7_roundGoes 119 = .ok (.return_, 1) := by decide +kernel
theorem dX7_delivers_0 : decode cX7_delivers 0 = .ok (.aload_n 0, 1) := by decide +kernel
theorem dX7_delivers_1 : decode cX7_delivers 1 = .ok (.iload_n 1, 1) := by decide +kernel
theorem dX7_delivers_2 : decode cX7_delivers 2 = .ok (.invokevirtual 122, 3) := by decide +kernel
theorem dX7_delivers_5 : decode cX7_delivers 5 = .ok (.ifCond .ne 28, 3) := by decide +kernel
theorem dX7_delivers_8 : decode cX7_delivers 8 = .ok (.aload_n 0, 1) := by decide +kernel
theorem dX7_delivers_9 : decode cX7_delivers 9 = .ok (.getfield 7, 3) := by decide +kernel
theorem dX7_delivers_12 : decode cX7_delivers 12 = .ok (.bipush 7, 2) := by decide +kernel
theorem dX7_delivers_14 : decode cX7_delivers 14 = .ok (.aload_n 0, 1) := by decide +kernel
theorem dX7_delivers_15 : decode cX7_delivers 15 = .ok (.getfield 7, 3) := by decide +kernel
theorem dX7_delivers_18 : decode cX7_delivers 18 = .ok (.bipush 7, 2) := by decide +kernel
theorem dX7_delivers_20 : decode cX7_delivers 20 = .ok (.iaload, 1) := by decide +kernel
theorem dX7_delivers_21 : decode cX7_delivers 21 = .ok (.iconst 1, 1) := by decide +kernel
theorem dX7_delivers_22 : decode cX7_delivers 22 = .ok (.iadd, 1) := by decide +kernel
theorem dX7_delivers_23 : decode cX7_delivers 23 = .ok (.iconst 0, 1) := by decide +kernel
theorem dX7_delivers_24 : decode cX7_delivers 24 = .ok (.ldc 129, 2) := by decide +kernel
theorem dX7_delivers_26 : decode cX7_delivers 26 = .ok (.invokestatic 112, 3) := by decide +kernel
theorem dX7_delivers_29 : decode cX7_delivers 29 = .ok (.iastore, 1) := by decide +kernel
theorem dX7_delivers_30 : decode cX7_delivers 30 = .ok (.goto 28, 3) := by decide +kernel
theorem dX7_delivers_33 : decode cX7_delivers 33 = .ok (.aload_n 0, 1) := by decide +kernel
theorem dX7_delivers_34 : decode cX7_delivers 34 = .ok (.iload_n 1, 1) := by decide +kernel
theorem dX7_delivers_35 : decode cX7_delivers 35 = .ok (.iconst 3, 1) := by decide +kernel
theorem dX7_delivers_36 : decode cX7_delivers 36 = .ok (.aload_n 0, 1) := by decide +kernel
theorem dX7_delivers_37 : decode cX7_delivers 37 = .ok (.iload_n 1, 1) := by decide +kernel
theorem dX7_delivers_38 : decode cX7_delivers 38 = .ok (.iconst 3, 1) := by decide +kernel
theorem dX7_delivers_39 : decode cX7_delivers 39 = .ok (.invokevirtual 101, 3) := by decide +kernel
theorem dX7_delivers_42 : decode cX7_delivers 42 = .ok (.aload_n 0, 1) := by decide +kernel
theorem dX7_delivers_43 : decode cX7_delivers 43 = .ok (.getfield 7, 3) := by decide +kernel
theorem dX7_delivers_46 : decode cX7_delivers 46 = .ok (.iconst 3, 1) := by decide +kernel
theorem dX7_delivers_47 : decode cX7_delivers 47 = .ok (.iaload, 1) := by decide +kernel
theorem dX7_delivers_48 : decode cX7_delivers 48 = .ok (.iadd, 1) := by decide +kernel
theorem dX7_delivers_49 : decode cX7_delivers 49 = .ok (.iconst 0, 1) := by decide +kernel
theorem dX7_delivers_50 : decode cX7_delivers 50 = .ok (.bipush 99, 2) := by decide +kernel
theorem dX7_delivers_52 : decode cX7_delivers 52 = .ok (.invokestatic 112, 3) := by decide +kernel
theorem dX7_delivers_55 : decode cX7_delivers 55 = .ok (.invokevirtual 125, 3) := by decide +kernel
theorem dX7_delivers_58 : decode cX7_delivers 58 = .ok (.return_, 1) := by decide +kernel
theorem dX7_nightGoes_0 : decode cX7_nightGoes 0 = .ok (.aload_n 0, 1) := by decide +kernel
theorem dX7_nightGoes_1 : decode cX7_nightGoes 1 = .ok (.invokevirtual 130, 3) := by decide +kernel
theorem dX7_nightGoes_4 : decode cX7_nightGoes 4 = .ok (.aload_n 0, 1) := by decide +kernel
theorem dX7_nightGoes_5 : decode cX7_nightGoes 5 = .ok (.getfield 7, 3) := by decide +kernel
theorem dX7_nightGoes_8 : decode cX7_nightGoes 8 = .ok (.iconst 0, 1) := by decide +kernel
theorem dX7_nightGoes_9 : decode cX7_nightGoes 9 = .ok (.iaload, 1) := by decide +kernel
theorem dX7_nightGoes_10 : decode cX7_nightGoes 10 = .ok (.ifCond .le 20, 3) := by decide +kernel
theorem dX7_nightGoes_13 : decode cX7_nightGoes 13 = .ok (.aload_n 0, 1) := by decide +kernel
theorem dX7_nightGoes_14 : decode cX7_nightGoes 14 = .ok (.aload_n 0, 1) := by decide +kernel
theorem dX7_nightGoes_15 : decode cX7_nightGoes 15 = .ok (.getfield 7, 3) := by decide +kernel
theorem dX7_nightGoes_18 : decode cX7_nightGoes 18 = .ok (.iconst 1, 1) := by decide +kernel
theorem dX7_nightGoes_19 : decode cX7_nightGoes 19 = .ok (.iaload, 1) := by decide +kernel
theorem dX7_nightGoes_20 : decode cX7_nightGoes 20 = .ok (.aload_n 0, 1) := by decide +kernel
theorem dX7_nightGoes_21 : decode cX7_nightGoes 21 = .ok (.getfield 7, 3) := by decide +kernel
theorem dX7_nightGoes_24 : decode cX7_nightGoes 24 = .ok (.iconst 0, 1) := by decide +kernel
theorem dX7_nightGoes_25 : decode cX7_nightGoes 25 = .ok (.iaload, 1) := by decide +kernel
theorem dX7_nightGoes_26 : decode cX7_nightGoes 26 = .ok (.irem, 1) := by decide +kernel
theorem dX7_nightGoes_27 : decode cX7_nightGoes 27 = .ok (.invokevirtual 133, 3) := by decide +kernel
theorem dX7_nightGoes_30 : decode cX7_nightGoes 30 = .ok (.iconst 0, 1) := by decide +kernel
theorem dX7_nightGoes_31 : decode cX7_nightGoes 31 = .ok (.istore_n 1, 1) := by decide +kernel
theorem dX7_nightGoes_32 : decode cX7_nightGoes 32 = .ok (.iload_n 1, 1) := by decide +kernel
theorem dX7_nightGoes_33 : decode cX7_nightGoes 33 = .ok (.aload_n 0, 1) := by decide +kernel
theorem dX7_nightGoes_34 : decode cX7_nightGoes 34 = .ok (.getfield 7, 3) := by decide +kernel
theorem dX7_nightGoes_37 : decode cX7_nightGoes 37 = .ok (.iconst 0, 1) := by decide +kernel
theorem dX7_nightGoes_38 : decode cX7_nightGoes 38 = .ok (.iaload, 1) := by decide +kernel
theorem dX7_nightGoes_39 : decode cX7_nightGoes 39 = .ok (.if_icmp .ge 59, 3) := by decide +kernel
theorem dX7_nightGoes_42 : decode cX7_nightGoes 42 = .ok (.aload_n 0, 1) := by decide +kernel
theorem dX7_nightGoes_43 : decode cX7_nightGoes 43 = .ok (.iload_n 1, 1) := by decide +kernel
theorem dX7_nightGoes_44 : decode cX7_nightGoes 44 = .ok (.invokevirtual 137, 3) := by decide +kernel
theorem dX7_nightGoes_47 : decode cX7_nightGoes 47 = .ok (.istore_n 2, 1) := by decide +kernel
theorem dX7_nightGoes_48 : decode cX7_nightGoes 48 = .ok (.aload_n 0, 1) := by decide +kernel
theorem dX7_nightGoes_49 : decode cX7_nightGoes 49 = .ok (.iload_n 1, 1) := by decide +kernel
theorem dX7_nightGoes_50 : decode cX7_nightGoes 50 = .ok (.iconst 3, 1) := by decide +kernel
theorem dX7_nightGoes_51 : decode cX7_nightGoes 51 = .ok (.aload_n 0, 1) := by decide +kernel
theorem dX7_nightGoes_52 : decode cX7_nightGoes 52 = .ok (.iload_n 1, 1) := by decide +kernel
theorem dX7_nightGoes_53 : decode cX7_nightGoes 53 = .ok (.iconst 3, 1) := by decide +kernel
theorem dX7_nightGoes_54 : decode cX7_nightGoes 54 = .ok (.invokevirtual 101, 3) := by decide +kernel
theorem dX7_nightGoes_57 : decode cX7_nightGoes 57 = .ok (.aload_n 0, 1) := by decide +kernel
theorem dX7_nightGoes_58 : decode cX7_nightGoes 58 = .ok (.iload_n 1, 1) := by decide +kernel
theorem dX7_nightGoes_59 : decode cX7_nightGoes 59 = .ok (.invokevirtual 140, 3) := by decide +kernel
theorem dX7_nightGoes_62 : decode cX7_nightGoes 62 = .ok (.isub, 1) := by decide +kernel
theorem dX7_nightGoes_63 : decode cX7_nightGoes 63 = .ok (.iconst 0, 1) := by decide +kernel
theorem dX7_nightGoes_64 : decode cX7_nightGoes 64 = .ok (.bipush 99, 2) := by decide +kernel
theorem dX7_nightGoes_66 : decode cX7_nightGoes 66 = .ok (.invokestatic 112, 3) := by decide +kernel
theorem dX7_nightGoes_69 : decode cX7_nightGoes 69 = .ok (.invokevirtual 125, 3) := by decide +kernel
theorem dX7_nightGoes_72 : decode cX7_nightGoes 72 = .ok (.aload_n 0, 1) := by decide +kernel
theorem dX7_nightGoes_73 : decode cX7_nightGoes 73 = .ok (.iload_n 1, 1) := by decide +kernel
theorem dX7_nightGoes_74 : decode cX7_nightGoes 74 = .ok (.iconst 1, 1) := by decide +kernel
theorem dX7_nightGoes_75 : decode cX7_nightGoes 75 = .ok (.aload_n 0, 1) := by decide +kernel
theorem dX7_nightGoes_76 : decode cX7_nightGoes 76 = .ok (.iload_n 1, 1) := by decide +kernel
theorem dX7_nightGoes_77 : decode cX7_nightGoes 77 = .ok (.iconst 1, 1) := by decide +kernel
theorem dX7_nightGoes_78 : decode cX7_nightGoes 78 = .ok (.invokevirtual 101, 3) := by decide +kernel
theorem dX7_nightGoes_81 : decode cX7_nightGoes 81 = .ok (.iload_n 2, 1) := by decide +kernel
theorem dX7_nightGoes_82 : decode cX7_nightGoes 82 = .ok (.iadd, 1) := by decide +kernel
theorem dX7_nightGoes_83 : decode cX7_nightGoes 83 = .ok (.iconst 0, 1) := by decide +kernel
theorem dX7_nightGoes_84 : decode cX7_nightGoes 84 = .ok (.bipush 99, 2) := by decide +kernel
theorem dX7_nightGoes_86 : decode cX7_nightGoes 86 = .ok (.invokestatic 112, 3) := by decide +kernel
theorem dX7_nightGoes_89 : decode cX7_nightGoes 89 = .ok (.invokevirtual 125, 3) := by decide +kernel
theorem dX7_nightGoes_92 : decode cX7_nightGoes 92 = .ok (.iinc 1 1, 3) := by decide +kernel
theorem dX7_nightGoes_95 : decode cX7_nightGoes 95 = .ok (.goto (-63), 3) := by decide +kernel
theorem dX7_nightGoes_98 : decode cX7_nightGoes 98 = .ok (.aload_n 0, 1) := by decide +kernel
theorem dX7_nightGoes_99 : decode cX7_nightGoes 99 = .ok (.invokevirtual 143, 3) := by decide +kernel
theorem dX7_nightGoes_102 : decode cX7_nightGoes 102 = .ok (.bipush 100, 2) := by decide +kernel
theorem dX7_nightGoes_104 : decode cX7_nightGoes 104 = .ok (.irem, 1) := by decide +kernel
theorem dX7_nightGoes_105 : decode cX7_nightGoes 105 = .ok (.aload_n 0, 1) := by decide +kernel
theorem dX7_nightGoes_106 : decode cX7_nightGoes 106 = .ok (.getfield 7, 3) := by decide +kernel
theorem dX7_nightGoes_109 : decode cX7_nightGoes 109 = .ok (.iconst 4, 1) := by decide +kernel
theorem dX7_nightGoes_110 : decode cX7_nightGoes 110 = .ok (.iaload, 1) := by decide +kernel
theorem dX7_nightGoes_111 : decode cX7_nightGoes 111 = .ok (.if_icmp .ge 37, 3) := by decide +kernel
theorem dX7_nightGoes_114 : decode cX7_nightGoes 114 = .ok (.aload_n 0, 1) := by decide +kernel
theorem dX7_nightGoes_115 : decode cX7_nightGoes 115 = .ok (.getfield 7, 3) := by decide +kernel
theorem dX7_nightGoes_118 : decode cX7_nightGoes 118 = .ok (.iconst 0, 1) := by decide +kernel
theorem dX7_nightGoes_119 : decode cX7_nightGoes 119 = .ok (.iaload, 1) := by decide +kernel
theorem dX7_nightGoes_120 : decode cX7_nightGoes 120 = .ok (.ifCond .le 28, 3) := by decide +kernel
theorem dX7_nightGoes_123 : decode cX7_nightGoes 123 = .ok (.aload_n 0, 1) := by decide +kernel
theorem dX7_nightGoes_124 : decode cX7_nightGoes 124 = .ok (.invokevirtual 143, 3) := by decide +kernel
theorem dX7_nightGoes_127 : decode cX7_nightGoes 127 = .ok (.aload_n 0, 1) := by decide +kernel
theorem dX7_nightGoes_128 : decode cX7_nightGoes 128 = .ok (.getfield 7, 3) := by decide +kernel
theorem dX7_nightGoes_131 : decode cX7_nightGoes 131 = .ok (.iconst 0, 1) := by decide +kernel
theorem dX7_nightGoes_132 : decode cX7_nightGoes 132 = .ok (.iaload, 1) := by decide +kernel
theorem dX7_nightGoes_133 : decode cX7_nightGoes 133 = .ok (.irem, 1) := by decide +kernel
theorem dX7_nightGoes_134 : decode cX7_nightGoes 134 = .ok (.istore_n 1, 1) := by decide +kernel
theorem dX7_nightGoes_135 : decode cX7_nightGoes 135 = .ok (.aload_n 0, 1) := by decide +kernel
theorem dX7_nightGoes_136 : decode cX7_nightGoes 136 = .ok (.iload_n 1, 1) := by decide +kernel
theorem dX7_nightGoes_137 : decode cX7_nightGoes 137 = .ok (.iconst 2, 1) := by decide +kernel
theorem dX7_nightGoes_138 : decode cX7_nightGoes 138 = .ok (.aload_n 0, 1) := by decide +kernel
theorem dX7_nightGoes_139 : decode cX7_nightGoes 139 = .ok (.invokevirtual 143, 3) := by decide +kernel
theorem dX7_nightGoes_142 : decode cX7_nightGoes 142 = .ok (.bipush 100, 2) := by decide +kernel
theorem dX7_nightGoes_144 : decode cX7_nightGoes 144 = .ok (.irem, 1) := by decide +kernel
theorem dX7_nightGoes_145 : decode cX7_nightGoes 145 = .ok (.invokevirtual 125, 3) := by decide +kernel
theorem dX7_nightGoes_148 : decode cX7_nightGoes 148 = .ok (.aload_n 0, 1) := by decide +kernel
theorem dX7_nightGoes_149 : decode cX7_nightGoes 149 = .ok (.getfield 7, 3) := by decide +kernel
theorem dX7_nightGoes_152 : decode cX7_nightGoes 152 = .ok (.iconst 1, 1) := by decide +kernel
theorem dX7_nightGoes_153 : decode cX7_nightGoes 153 = .ok (.dup2, 1) := by decide +kernel
theorem dX7_nightGoes_154 : decode cX7_nightGoes 154 = .ok (.iaload, 1) := by decide +kernel
theorem dX7_nightGoes_155 : decode cX7_nightGoes 155 = .ok (.iconst 1, 1) := by decide +kernel
theorem dX7_nightGoes_156 : decode cX7_nightGoes 156 = .ok (.iadd, 1) := by decide +kernel
theorem dX7_nightGoes_157 : decode cX7_nightGoes 157 = .ok (.iastore, 1) := by decide +kernel
theorem dX7_nightGoes_158 : decode cX7_nightGoes 158 = .ok (.return_, 1) := by decide +kernel
theorem dX7_nightsGo_0 : decode cX7_nightsGo 0 = .ok (.iconst 0, 1) := by decide +kernel
theorem dX7_nightsGo_1 : decode cX7_nightsGo 1 = .ok (.istore_n 2, 1) := by decide +kernel
theorem dX7_nightsGo_2 : decode cX7_nightsGo 2 = .ok (.iload_n 2, 1) := by decide +kernel
theorem dX7_nightsGo_3 : decode cX7_nightsGo 3 = .ok (.iload_n 1, 1) := by decide +kernel
theorem dX7_nightsGo_4 : decode cX7_nightsGo 4 = .ok (.if_icmp .ge 13, 3) := by decide +kernel
theorem dX7_nightsGo_7 : decode cX7_nightsGo 7 = .ok (.aload_n 0, 1) := by decide +kernel
theorem dX7_nightsGo_8 : decode cX7_nightsGo 8 = .ok (.invokevirtual 147, 3) := by decide +kernel
theorem dX7_nightsGo_11 : decode cX7_nightsGo 11 = .ok (.iinc 2 1, 3) := by decide +kernel
theorem dX7_nightsGo_14 : decode cX7_nightsGo 14 = .ok (.goto (-12), 3) := by decide +kernel
theorem dX7_nightsGo_17 : decode cX7_nightsGo 17 = .ok (.return_, 1) := by decide +kernel
theorem dX7_sumOf_0 : decode cX7_sumOf 0 = .ok (.iconst 0, 1) := by decide +kernel
theorem dX7_sumOf_1 : decode cX7_sumOf 1 = .ok (.istore_n 2, 1) := by decide +kernel
theorem dX7_sumOf_2 : decode cX7_sumOf 2 = .ok (.iconst 0, 1) := by decide +kernel
theorem dX7_sumOf_3 : decode cX7_sumOf 3 = .ok (.istore_n 3, 1) := by decide +kernel
theorem dX7_sumOf_4 : decode cX7_sumOf 4 = .ok (.iload_n 3, 1) := by decide +kernel
theorem dX7_sumOf_5 : decode cX7_sumOf 5 = .ok (.aload_n 0, 1) := by decide +kernel
theorem dX7_sumOf_6 : decode cX7_sumOf 6 = .ok (.getfield 7, 3) := by decide +kernel
theorem dX7_sumOf_9 : decode cX7_sumOf 9 = .ok (.iconst 0, 1) := by decide +kernel
theorem dX7_sumOf_10 : decode cX7_sumOf 10 = .ok (.iaload, 1) := by decide +kernel
theorem dX7_sumOf_11 : decode cX7_sumOf 11 = .ok (.if_icmp .ge 18, 3) := by decide +kernel
theorem dX7_sumOf_14 : decode cX7_sumOf 14 = .ok (.iload_n 2, 1) := by decide +kernel
theorem dX7_sumOf_15 : decode cX7_sumOf 15 = .ok (.aload_n 0, 1) := by decide +kernel
theorem dX7_sumOf_16 : decode cX7_sumOf 16 = .ok (.iload_n 3, 1) := by decide +kernel
theorem dX7_sumOf_17 : decode cX7_sumOf 17 = .ok (.iload_n 1, 1) := by decide +kernel
theorem dX7_sumOf_18 : decode cX7_sumOf 18 = .ok (.invokevirtual 101, 3) := by decide +kernel
theorem dX7_sumOf_21 : decode cX7_sumOf 21 = .ok (.iadd, 1) := by decide +kernel
theorem dX7_sumOf_22 : decode cX7_sumOf 22 = .ok (.istore_n 2, 1) := by decide +kernel
theorem dX7_sumOf_23 : decode cX7_sumOf 23 = .ok (.iinc 3 1, 3) := by decide +kernel
theorem dX7_sumOf_26 : decode cX7_sumOf 26 = .ok (.goto (-22), 3) := by decide +kernel
theorem dX7_sumOf_29 : decode cX7_sumOf 29 = .ok (.iload_n 2, 1) := by decide +kernel
theorem dX7_sumOf_30 : decode cX7_sumOf 30 = .ok (.ireturn, 1) := by decide +kernel
theorem dX7_coldOnes_0 : decode cX7_coldOnes 0 = .ok (.iconst 0, 1) := by decide +kernel
theorem dX7_coldOnes_1 : decode cX7_coldOnes 1 = .ok (.istore_n 1, 1) := by decide +kernel
theorem dX7_coldOnes_2 : decode cX7_coldOnes 2 = .ok (.iconst 0, 1) := by decide +kernel
theorem dX7_coldOnes_3 : decode cX7_coldOnes 3 = .ok (.istore_n 2, 1) := by decide +kernel
theorem dX7_coldOnes_4 : decode cX7_coldOnes 4 = .ok (.iload_n 2, 1) := by decide +kernel
theorem dX7_coldOnes_5 : decode cX7_coldOnes 5 = .ok (.aload_n 0, 1) := by decide +kernel
theorem dX7_coldOnes_6 : decode cX7_coldOnes 6 = .ok (.getfield 7, 3) := by decide +kernel
theorem dX7_coldOnes_9 : decode cX7_coldOnes 9 = .ok (.iconst 0, 1) := by decide +kernel
theorem dX7_coldOnes_10 : decode cX7_coldOnes 10 = .ok (.iaload, 1) := by decide +kernel
theorem dX7_coldOnes_11 : decode cX7_coldOnes 11 = .ok (.if_icmp .ge 28, 3) := by decide +kernel
theorem dX7_coldOnes_14 : decode cX7_coldOnes 14 = .ok (.iload_n 1, 1) := by decide +kernel
theorem dX7_coldOnes_15 : decode cX7_coldOnes 15 = .ok (.aload_n 0, 1) := by decide +kernel
theorem dX7_coldOnes_16 : decode cX7_coldOnes 16 = .ok (.iload_n 2, 1) := by decide +kernel
theorem dX7_coldOnes_17 : decode cX7_coldOnes 17 = .ok (.iconst 3, 1) := by decide +kernel
theorem dX7_coldOnes_18 : decode cX7_coldOnes 18 = .ok (.invokevirtual 101, 3) := by decide +kernel
theorem dX7_coldOnes_21 : decode cX7_coldOnes 21 = .ok (.ifCond .ne 9, 3) := by decide +kernel
theorem dX7_coldOnes_24 : decode cX7_coldOnes 24 = .ok (.iconst 1, 1) := by decide +kernel
theorem dX7_coldOnes_25 : decode cX7_coldOnes 25 = .ok (.iload_n 2, 1) := by decide +kernel
theorem dX7_coldOnes_26 : decode cX7_coldOnes 26 = .ok (.ishl, 1) := by decide +kernel
theorem dX7_coldOnes_27 : decode cX7_coldOnes 27 = .ok (.goto 4, 3) := by decide +kernel
theorem dX7_coldOnes_30 : decode cX7_coldOnes 30 = .ok (.iconst 0, 1) := by decide +kernel
theorem dX7_coldOnes_31 : decode cX7_coldOnes 31 = .ok (.ior, 1) := by decide +kernel
theorem dX7_coldOnes_32 : decode cX7_coldOnes 32 = .ok (.istore_n 1, 1) := by decide +kernel
theorem dX7_coldOnes_33 : decode cX7_coldOnes 33 = .ok (.iinc 2 1, 3) := by decide +kernel
theorem dX7_coldOnes_36 : decode cX7_coldOnes 36 = .ok (.goto (-32), 3) := by decide +kernel
theorem dX7_coldOnes_39 : decode cX7_coldOnes 39 = .ok (.iload_n 1, 1) := by decide +kernel
theorem dX7_coldOnes_40 : decode cX7_coldOnes 40 = .ok (.ireturn, 1) := by decide +kernel
theorem dX7_loudest_0 : decode cX7_loudest 0 = .ok (.iconst 0, 1) := by decide +kernel
theorem dX7_loudest_1 : decode cX7_loudest 1 = .ok (.istore_n 1, 1) := by decide +kernel
theorem dX7_loudest_2 : decode cX7_loudest 2 = .ok (.iconst 1, 1) := by decide +kernel
theorem dX7_loudest_3 : decode cX7_loudest 3 = .ok (.istore_n 2, 1) := by decide +kernel
theorem dX7_loudest_4 : decode cX7_loudest 4 = .ok (.iload_n 2, 1) := by decide +kernel
theorem dX7_loudest_5 : decode cX7_loudest 5 = .ok (.aload_n 0, 1) := by decide +kernel
theorem dX7_loudest_6 : decode cX7_loudest 6 = .ok (.getfield 7, 3) := by decide +kernel
theorem dX7_loudest_9 : decode cX7_loudest 9 = .ok (.iconst 0, 1) := by decide +kernel
theorem dX7_loudest_10 : decode cX7_loudest 10 = .ok (.iaload, 1) := by decide +kernel
theorem dX7_loudest_11 : decode cX7_loudest 11 = .ok (.if_icmp .ge 30, 3) := by decide +kernel
theorem dX7_loudest_14 : decode cX7_loudest 14 = .ok (.aload_n 0, 1) := by decide +kernel
theorem dX7_loudest_15 : decode cX7_loudest 15 = .ok (.iload_n 2, 1) := by decide +kernel
theorem dX7_loudest_16 : decode cX7_loudest 16 = .ok (.iconst 4, 1) := by decide +kernel
theorem dX7_loudest_17 : decode cX7_loudest 17 = .ok (.invokevirtual 101, 3) := by decide +kernel
theorem dX7_loudest_20 : decode cX7_loudest 20 = .ok (.aload_n 0, 1) := by decide +kernel
theorem dX7_loudest_21 : decode cX7_loudest 21 = .ok (.iload_n 1, 1) := by decide +kernel
theorem dX7_loudest_22 : decode cX7_loudest 22 = .ok (.iconst 4, 1) := by decide +kernel
theorem dX7_loudest_23 : decode cX7_loudest 23 = .ok (.invokevirtual 101, 3) := by decide +kernel
theorem dX7_loudest_26 : decode cX7_loudest 26 = .ok (.if_icmp .le 7, 3) := by decide +kernel
theorem dX7_loudest_29 : decode cX7_loudest 29 = .ok (.iload_n 2, 1) := by decide +kernel
theorem dX7_loudest_30 : decode cX7_loudest 30 = .ok (.goto 4, 3) := by decide +kernel
theorem dX7_loudest_33 : decode cX7_loudest 33 = .ok (.iload_n 1, 1) := by decide +kernel
theorem dX7_loudest_34 : decode cX7_loudest 34 = .ok (.istore_n 1, 1) := by decide +kernel
theorem dX7_loudest_35 : decode cX7_loudest 35 = .ok (.iinc 2 1, 3) := by decide +kernel
theorem dX7_loudest_38 : decode cX7_loudest 38 = .ok (.goto (-34), 3) := by decide +kernel
theorem dX7_loudest_41 : decode cX7_loudest 41 = .ok (.aload_n 0, 1) := by decide +kernel
theorem dX7_loudest_42 : decode cX7_loudest 42 = .ok (.getfield 7, 3) := by decide +kernel
theorem dX7_loudest_45 : decode cX7_loudest 45 = .ok (.iconst 0, 1) := by decide +kernel
theorem dX7_loudest_46 : decode cX7_loudest 46 = .ok (.iaload, 1) := by decide +kernel
theorem dX7_loudest_47 : decode cX7_loudest 47 = .ok (.ifCond .ne 8, 3) := by decide +kernel
theorem dX7_loudest_50 : decode cX7_loudest 50 = .ok (.ldc 150, 2) := by decide +kernel
theorem dX7_loudest_52 : decode cX7_loudest 52 = .ok (.goto 4, 3) := by decide +kernel
theorem dX7_loudest_55 : decode cX7_loudest 55 = .ok (.iload_n 1, 1) := by decide +kernel
theorem dX7_loudest_56 : decode cX7_loudest 56 = .ok (.ireturn, 1) := by decide +kernel
theorem dX7_house_0 : decode cX7_house 0 = .ok (.iload_n 1, 1) := by decide +kernel
theorem dX7_house_1 : decode cX7_house 1 = .ok (.i2l, 1) := by decide +kernel
theorem dX7_house_2 : decode cX7_house 2 = .ok (.lconst 0, 1) := by decide +kernel
theorem dX7_house_3 : decode cX7_house 3 = .ok (.ldc2_w 151, 3) := by decide +kernel
theorem dX7_house_6 : decode cX7_house 6 = .ok (.invokestatic 86, 3) := by decide +kernel
theorem dX7_house_9 : decode cX7_house 9 = .ok (.ifCond .eq 40, 3) := by decide +kernel
theorem dX7_house_12 : decode cX7_house 12 = .ok (.iload_n 2, 1) := by decide +kernel
theorem dX7_house_13 : decode cX7_house 13 = .ok (.i2l, 1) := by decide +kernel
theorem dX7_house_14 : decode cX7_house 14 = .ok (.lconst 0, 1) := by decide +kernel
theorem dX7_house_15 : decode cX7_house 15 = .ok (.ldc2_w 153, 3) := by decide +kernel
theorem dX7_house_18 : decode cX7_house 18 = .ok (.invokestatic 86, 3) := by decide +kernel
theorem dX7_house_21 : decode cX7_house 21 = .ok (.ifCond .eq 28, 3) := by decide +kernel
theorem dX7_house_24 : decode cX7_house 24 = .ok (.iload_n 3, 1) := by decide +kernel
theorem dX7_house_25 : decode cX7_house 25 = .ok (.i2l, 1) := by decide +kernel
theorem dX7_house_26 : decode cX7_house 26 = .ok (.lconst 0, 1) := by decide +kernel
theorem dX7_house_27 : decode cX7_house 27 = .ok (.ldc2_w 153, 3) := by decide +kernel
theorem dX7_house_30 : decode cX7_house 30 = .ok (.invokestatic 86, 3) := by decide +kernel
theorem dX7_house_33 : decode cX7_house 33 = .ok (.ifCond .eq 16, 3) := by decide +kernel
theorem dX7_house_36 : decode cX7_house 36 = .ok (.iload 4, 2) := by decide +kernel
theorem dX7_house_38 : decode cX7_house 38 = .ok (.i2l, 1) := by decide +kernel
theorem dX7_house_39 : decode cX7_house 39 = .ok (.lconst 0, 1) := by decide +kernel
theorem dX7_house_40 : decode cX7_house 40 = .ok (.ldc2_w 153, 3) := by decide +kernel
theorem dX7_house_43 : decode cX7_house 43 = .ok (.invokestatic 86, 3) := by decide +kernel
theorem dX7_house_46 : decode cX7_house 46 = .ok (.ifCond .ne 6, 3) := by decide +kernel
theorem dX7_house_49 : decode cX7_house 49 = .ok (.ldc 155, 2) := by decide +kernel
theorem dX7_house_51 : decode cX7_house 51 = .ok (.ireturn, 1) := by decide +kernel
theorem dX7_house_52 : decode cX7_house 52 = .ok (.aload_n 0, 1) := by decide +kernel
theorem dX7_house_53 : decode cX7_house 53 = .ok (.getfield 7, 3) := by decide +kernel
theorem dX7_house_56 : decode cX7_house 56 = .ok (.iconst 0, 1) := by decide +kernel
theorem dX7_house_57 : decode cX7_house 57 = .ok (.iaload, 1) := by decide +kernel
theorem dX7_house_58 : decode cX7_house 58 = .ok (.bipush 10, 2) := by decide +kernel
theorem dX7_house_60 : decode cX7_house 60 = .ok (.if_icmp .ne 6, 3) := by decide +kernel
theorem dX7_house_63 : decode cX7_house 63 = .ok (.ldc 156, 2) := by decide +kernel
theorem dX7_house_65 : decode cX7_house 65 = .ok (.ireturn, 1) := by decide +kernel
theorem dX7_house_66 : decode cX7_house 66 = .ok (.aload_n 0, 1) := by decide +kernel
theorem dX7_house_67 : decode cX7_house 67 = .ok (.getfield 7, 3) := by decide +kernel
theorem dX7_house_70 : decode cX7_house 70 = .ok (.iconst 0, 1) := by decide +kernel
theorem dX7_house_71 : decode cX7_house 71 = .ok (.iaload, 1) := by decide +kernel
theorem dX7_house_72 : decode cX7_house 72 = .ok (.istore 5, 2) := by decide +kernel
theorem dX7_house_74 : decode cX7_house 74 = .ok (.aload_n 0, 1) := by decide +kernel
theorem dX7_house_75 : decode cX7_house 75 = .ok (.iload 5, 2) := by decide +kernel
theorem dX7_house_77 : decode cX7_house 77 = .ok (.iconst 0, 1) := by decide +kernel
theorem dX7_house_78 : decode cX7_house 78 = .ok (.iload_n 1, 1) := by decide +kernel
theorem dX7_house_79 : decode cX7_house 79 = .ok (.invokevirtual 125, 3) := by decide +kernel
theorem dX7_house_82 : decode cX7_house 82 = .ok (.aload_n 0, 1) := by decide +kernel
theorem dX7_house_83 : decode cX7_house 83 = .ok (.iload 5, 2) := by decide +kernel
theorem dX7_house_85 : decode cX7_house 85 = .ok (.iconst 1, 1) := by decide +kernel
theorem dX7_house_86 : decode cX7_house 86 = .ok (.iload_n 2, 1) := by decide +kernel
theorem dX7_house_87 : decode cX7_house 87 = .ok (.invokevirtual 125, 3) := by decide +kernel
theorem dX7_house_90 : decode cX7_house 90 = .ok (.aload_n 0, 1) := by decide +kernel
theorem dX7_house_91 : decode cX7_house 91 = .ok (.iload 5, 2) := by decide +kernel
theorem dX7_house_93 : decode cX7_house 93 = .ok (.iconst 2, 1) := by decide +kernel
theorem dX7_house_94 : decode cX7_house 94 = .ok (.iload_n 3, 1) := by decide +kernel
theorem dX7_house_95 : decode cX7_house 95 = .ok (.invokevirtual 125, 3) := by decide +kernel
theorem dX7_house_98 : decode cX7_house 98 = .ok (.aload_n 0, 1) := by decide +kernel
theorem dX7_house_99 : decode cX7_house 99 = .ok (.iload 5, 2) := by decide +kernel
theorem dX7_house_101 : decode cX7_house 101 = .ok (.iconst 3, 1) := by decide +kernel
theorem dX7_house_102 : decode cX7_house 102 = .ok (.iload 4, 2) := by decide +kernel
theorem dX7_house_104 : decode cX7_house 104 = .ok (.invokevirtual 125, 3) := by decide +kernel
theorem dX7_house_107 : decode cX7_house 107 = .ok (.aload_n 0, 1) := by decide +kernel
theorem dX7_house_108 : decode cX7_house 108 = .ok (.iload 5, 2) := by decide +kernel
theorem dX7_house_110 : decode cX7_house 110 = .ok (.iconst 4, 1) := by decide +kernel
theorem dX7_house_111 : decode cX7_house 111 = .ok (.iconst 0, 1) := by decide +kernel
theorem dX7_house_112 : decode cX7_house 112 = .ok (.invokevirtual 125, 3) := by decide +kernel
theorem dX7_house_115 : decode cX7_house 115 = .ok (.aload_n 0, 1) := by decide +kernel
theorem dX7_house_116 : decode cX7_house 116 = .ok (.getfield 7, 3) := by decide +kernel
theorem dX7_house_119 : decode cX7_house 119 = .ok (.iconst 0, 1) := by decide +kernel
theorem dX7_house_120 : decode cX7_house 120 = .ok (.dup2, 1) := by decide +kernel
theorem dX7_house_121 : decode cX7_house 121 = .ok (.iaload, 1) := by decide +kernel
theorem dX7_house_122 : decode cX7_house 122 = .ok (.iconst 1, 1) := by decide +kernel
theorem dX7_house_123 : decode cX7_house 123 = .ok (.iadd, 1) := by decide +kernel
theorem dX7_house_124 : decode cX7_house 124 = .ok (.iastore, 1) := by decide +kernel
theorem dX7_house_125 : decode cX7_house 125 = .ok (.iload 5, 2) := by decide +kernel
theorem dX7_house_127 : decode cX7_house 127 = .ok (.ireturn, 1) := by decide +kernel
theorem dX7_told_0 : decode cX7_told 0 = .ok (.aload_n 0, 1) := by decide +kernel
theorem dX7_told_1 : decode cX7_told 1 = .ok (.iload_n 1, 1) := by decide +kernel
theorem dX7_told_2 : decode cX7_told 2 = .ok (.invokevirtual 157, 3) := by decide +kernel
theorem dX7_told_5 : decode cX7_told 5 = .ok (.ifCond .eq 15, 3) := by decide +kernel
theorem dX7_told_8 : decode cX7_told 8 = .ok (.iload_n 2, 1) := by decide +kernel
theorem dX7_told_9 : decode cX7_told 9 = .ok (.i2l, 1) := by decide +kernel
theorem dX7_told_10 : decode cX7_told 10 = .ok (.lconst 0, 1) := by decide +kernel
theorem dX7_told_11 : decode cX7_told 11 = .ok (.ldc2_w 161, 3) := by decide +kernel
theorem dX7_told_14 : decode cX7_told 14 = .ok (.invokestatic 86, 3) := by decide +kernel
theorem dX7_told_17 : decode cX7_told 17 = .ok (.ifCond .ne 6, 3) := by decide +kernel
theorem dX7_told_20 : decode cX7_told 20 = .ok (.ldc 155, 2) := by decide +kernel
theorem dX7_told_22 : decode cX7_told 22 = .ok (.ireturn, 1) := by decide +kernel
theorem dX7_told_23 : decode cX7_told 23 = .ok (.iload_n 2, 1) := by decide +kernel
theorem dX7_told_24 : decode cX7_told 24 = .ok (.tableswitch 78 5 8 #[32, 38, 44, 50], 32) := by decide +kernel
theorem dX7_told_56 : decode cX7_told 56 = .ok (.aload_n 0, 1) := by decide +kernel
theorem dX7_told_57 : decode cX7_told 57 = .ok (.iload_n 1, 1) := by decide +kernel
theorem dX7_told_58 : decode cX7_told 58 = .ok (.invokevirtual 122, 3) := by decide +kernel
theorem dX7_told_61 : decode cX7_told 61 = .ok (.ireturn, 1) := by decide +kernel
theorem dX7_told_62 : decode cX7_told 62 = .ok (.aload_n 0, 1) := by decide +kernel
theorem dX7_told_63 : decode cX7_told 63 = .ok (.iload_n 1, 1) := by decide +kernel
theorem dX7_told_64 : decode cX7_told 64 = .ok (.invokevirtual 137, 3) := by decide +kernel
theorem dX7_told_67 : decode cX7_told 67 = .ok (.ireturn, 1) := by decide +kernel
theorem dX7_told_68 : decode cX7_told 68 = .ok (.aload_n 0, 1) := by decide +kernel
theorem dX7_told_69 : decode cX7_told 69 = .ok (.iload_n 1, 1) := by decide +kernel
theorem dX7_told_70 : decode cX7_told 70 = .ok (.invokevirtual 140, 3) := by decide +kernel
theorem dX7_told_73 : decode cX7_told 73 = .ok (.ireturn, 1) := by decide +kernel
theorem dX7_told_74 : decode cX7_told 74 = .ok (.aload_n 0, 1) := by decide +kernel
theorem dX7_told_75 : decode cX7_told 75 = .ok (.iload_n 1, 1) := by decide +kernel
theorem dX7_told_76 : decode cX7_told 76 = .ok (.iconst 0, 1) := by decide +kernel
theorem dX7_told_77 : decode cX7_told 77 = .ok (.invokevirtual 101, 3) := by decide +kernel
theorem dX7_told_80 : decode cX7_told 80 = .ok (.aload_n 0, 1) := by decide +kernel
theorem dX7_told_81 : decode cX7_told 81 = .ok (.iload_n 1, 1) := by decide +kernel
theorem dX7_told_82 : decode cX7_told 82 = .ok (.iconst 1, 1) := by decide +kernel
theorem dX7_told_83 : decode cX7_told 83 = .ok (.invokevirtual 101, 3) := by decide +kernel
theorem dX7_told_86 : decode cX7_told 86 = .ok (.aload_n 0, 1) := by decide +kernel
theorem dX7_told_87 : decode cX7_told 87 = .ok (.iload_n 1, 1) := by decide +kernel
theorem dX7_told_88 : decode cX7_told 88 = .ok (.iconst 3, 1) := by decide +kernel
theorem dX7_told_89 : decode cX7_told 89 = .ok (.invokevirtual 101, 3) := by decide +kernel
theorem dX7_told_92 : decode cX7_told 92 = .ok (.aload_n 0, 1) := by decide +kernel
theorem dX7_told_93 : decode cX7_told 93 = .ok (.iload_n 1, 1) := by decide +kernel
theorem dX7_told_94 : decode cX7_told 94 = .ok (.iconst 4, 1) := by decide +kernel
theorem dX7_told_95 : decode cX7_told 95 = .ok (.invokevirtual 101, 3) := by decide +kernel
theorem dX7_told_98 : decode cX7_told 98 = .ok (.invokestatic 163, 3) := by decide +kernel
theorem dX7_told_101 : decode cX7_told 101 = .ok (.ireturn, 1) := by decide +kernel
theorem dX7_told_102 : decode cX7_told 102 = .ok (.aload_n 0, 1) := by decide +kernel
theorem dX7_told_103 : decode cX7_told 103 = .ok (.iload_n 1, 1) := by decide +kernel
theorem dX7_told_104 : decode cX7_told 104 = .ok (.iload_n 2, 1) := by decide +kernel
theorem dX7_told_105 : decode cX7_told 105 = .ok (.invokevirtual 101, 3) := by decide +kernel
theorem dX7_told_108 : decode cX7_told 108 = .ok (.ireturn, 1) := by decide +kernel
theorem dX7_as_0 : decode cX7_as 0 = .ok (.aload_n 0, 1) := by decide +kernel
theorem dX7_as_1 : decode cX7_as 1 = .ok (.iload_n 1, 1) := by decide +kernel
theorem dX7_as_2 : decode cX7_as 2 = .ok (.invokevirtual 157, 3) := by decide +kernel
theorem dX7_as_5 : decode cX7_as 5 = .ok (.ifCond .eq 15, 3) := by decide +kernel
theorem dX7_as_8 : decode cX7_as 8 = .ok (.iload_n 2, 1) := by decide +kernel
theorem dX7_as_9 : decode cX7_as 9 = .ok (.i2l, 1) := by decide +kernel
theorem dX7_as_10 : decode cX7_as 10 = .ok (.lconst 0, 1) := by decide +kernel
theorem dX7_as_11 : decode cX7_as 11 = .ok (.ldc2_w 151, 3) := by decide +kernel
theorem dX7_as_14 : decode cX7_as 14 = .ok (.invokestatic 86, 3) := by decide +kernel
theorem dX7_as_17 : decode cX7_as 17 = .ok (.ifCond .ne 6, 3) := by decide +kernel
theorem dX7_as_20 : decode cX7_as 20 = .ok (.ldc 155, 2) := by decide +kernel
theorem dX7_as_22 : decode cX7_as 22 = .ok (.ireturn, 1) := by decide +kernel
theorem dX7_as_23 : decode cX7_as 23 = .ok (.aload_n 0, 1) := by decide +kernel
theorem dX7_as_24 : decode cX7_as 24 = .ok (.iload_n 1, 1) := by decide +kernel
theorem dX7_as_25 : decode cX7_as 25 = .ok (.iconst 0, 1) := by decide +kernel
theorem dX7_as_26 : decode cX7_as 26 = .ok (.invokevirtual 101, 3) := by decide +kernel
theorem dX7_as_29 : decode cX7_as 29 = .ok (.iload_n 2, 1) := by decide +kernel
theorem dX7_as_30 : decode cX7_as 30 = .ok (.invokestatic 167, 3) := by decide +kernel
theorem dX7_as_33 : decode cX7_as 33 = .ok (.ifCond .eq 12, 3) := by decide +kernel
theorem dX7_as_36 : decode cX7_as 36 = .ok (.aload_n 0, 1) := by decide +kernel
theorem dX7_as_37 : decode cX7_as 37 = .ok (.iload_n 1, 1) := by decide +kernel
theorem dX7_as_38 : decode cX7_as 38 = .ok (.iconst 1, 1) := by decide +kernel
theorem dX7_as_39 : decode cX7_as 39 = .ok (.invokevirtual 101, 3) := by decide +kernel
theorem dX7_as_42 : decode cX7_as 42 = .ok (.goto 5, 3) := by decide +kernel
theorem dX7_as_45 : decode cX7_as 45 = .ok (.ldc 171, 2) := by decide +kernel
theorem dX7_as_47 : decode cX7_as 47 = .ok (.ireturn, 1) := by decide +kernel
theorem dX7_turns_0 : decode cX7_turns 0 = .ok (.aload_n 0, 1) := by decide +kernel
theorem dX7_turns_1 : decode cX7_turns 1 = .ok (.iload_n 1, 1) := by decide +kernel
theorem dX7_turns_2 : decode cX7_turns 2 = .ok (.invokevirtual 157, 3) := by decide +kernel
theorem dX7_turns_5 : decode cX7_turns 5 = .ok (.ifCond .eq 29, 3) := by decide +kernel
theorem dX7_turns_8 : decode cX7_turns 8 = .ok (.iload_n 2, 1) := by decide +kernel
theorem dX7_turns_9 : decode cX7_turns 9 = .ok (.i2l, 1) := by decide +kernel
theorem dX7_turns_10 : decode cX7_turns 10 = .ok (.lconst 0, 1) := by decide +kernel
theorem dX7_turns_11 : decode cX7_turns 11 = .ok (.ldc2_w 151, 3) := by decide +kernel
theorem dX7_turns_14 : decode cX7_turns 14 = .ok (.invokestatic 86, 3) := by decide +kernel
theorem dX7_turns_17 : decode cX7_turns 17 = .ok (.ifCond .eq 17, 3) := by decide +kernel
theorem dX7_turns_20 : decode cX7_turns 20 = .ok (.aload_n 0, 1) := by decide +kernel
theorem dX7_turns_21 : decode cX7_turns 21 = .ok (.bipush 10, 2) := by decide +kernel
theorem dX7_turns_23 : decode cX7_turns 23 = .ok (.iconst 5, 1) := by decide +kernel
theorem dX7_turns_24 : decode cX7_turns 24 = .ok (.iload_n 1, 1) := by decide +kernel
theorem dX7_turns_25 : decode cX7_turns 25 = .ok (.imul, 1) := by decide +kernel
theorem dX7_turns_26 : decode cX7_turns 26 = .ok (.iadd, 1) := by decide +kernel
theorem dX7_turns_27 : decode cX7_turns 27 = .ok (.iload_n 2, 1) := by decide +kernel
theorem dX7_turns_28 : decode cX7_turns 28 = .ok (.invokevirtual 172, 3) := by decide +kernel
theorem dX7_turns_31 : decode cX7_turns 31 = .ok (.goto 5, 3) := by decide +kernel
theorem dX7_turns_34 : decode cX7_turns 34 = .ok (.ldc 155, 2) := by decide +kernel
theorem dX7_turns_36 : decode cX7_turns 36 = .ok (.ireturn, 1) := by decide +kernel
theorem dX7_set_0 : decode cX7_set 0 = .ok (.aload_n 0, 1) := by decide +kernel
theorem dX7_set_1 : decode cX7_set 1 = .ok (.iload_n 1, 1) := by decide +kernel
theorem dX7_set_2 : decode cX7_set 2 = .ok (.invokevirtual 157, 3) := by decide +kernel
theorem dX7_set_5 : decode cX7_set 5 = .ok (.ifCond .eq 54, 3) := by decide +kernel
theorem dX7_set_8 : decode cX7_set 8 = .ok (.iload_n 2, 1) := by decide +kernel
theorem dX7_set_9 : decode cX7_set 9 = .ok (.i2l, 1) := by decide +kernel
theorem dX7_set_10 : decode cX7_set 10 = .ok (.lconst 1, 1) := by decide +kernel
theorem dX7_set_11 : decode cX7_set 11 = .ok (.ldc2_w 175, 3) := by decide +kernel
theorem dX7_set_14 : decode cX7_set 14 = .ok (.invokestatic 86, 3) := by decide +kernel
theorem dX7_set_17 : decode cX7_set 17 = .ok (.ifCond .eq 42, 3) := by decide +kernel
theorem dX7_set_20 : decode cX7_set 20 = .ok (.iload_n 3, 1) := by decide +kernel
theorem dX7_set_21 : decode cX7_set 21 = .ok (.i2l, 1) := by decide +kernel
theorem dX7_set_22 : decode cX7_set 22 = .ok (.lconst 0, 1) := by decide +kernel
theorem dX7_set_23 : decode cX7_set 23 = .ok (.iload_n 2, 1) := by decide +kernel
theorem dX7_set_24 : decode cX7_set 24 = .ok (.iconst 4, 1) := by decide +kernel
theorem dX7_set_25 : decode cX7_set 25 = .ok (.if_icmp .ne 9, 3) := by decide +kernel
theorem dX7_set_28 : decode cX7_set 28 = .ok (.ldc2_w 177, 3) := by decide +kernel
theorem dX7_set_31 : decode cX7_set 31 = .ok (.goto 6, 3) := by decide +kernel
theorem dX7_set_34 : decode cX7_set 34 = .ok (.ldc2_w 153, 3) := by decide +kernel
theorem dX7_set_37 : decode cX7_set 37 = .ok (.invokestatic 86, 3) := by decide +kernel
theorem dX7_set_40 : decode cX7_set 40 = .ok (.ifCond .eq 19, 3) := by decide +kernel
theorem dX7_set_43 : decode cX7_set 43 = .ok (.aload_n 0, 1) := by decide +kernel
theorem dX7_set_44 : decode cX7_set 44 = .ok (.bipush 10, 2) := by decide +kernel
theorem dX7_set_46 : decode cX7_set 46 = .ok (.iconst 5, 1) := by decide +kernel
theorem dX7_set_47 : decode cX7_set 47 = .ok (.iload_n 1, 1) := by decide +kernel
theorem dX7_set_48 : decode cX7_set 48 = .ok (.imul, 1) := by decide +kernel
theorem dX7_set_49 : decode cX7_set 49 = .ok (.iadd, 1) := by decide +kernel
theorem dX7_set_50 : decode cX7_set 50 = .ok (.iload_n 2, 1) := by decide +kernel
theorem dX7_set_51 : decode cX7_set 51 = .ok (.iadd, 1) := by decide +kernel
theorem dX7_set_52 : decode cX7_set 52 = .ok (.iload_n 3, 1) := by decide +kernel
theorem dX7_set_53 : decode cX7_set 53 = .ok (.invokevirtual 172, 3) := by decide +kernel
theorem dX7_set_56 : decode cX7_set 56 = .ok (.goto 5, 3) := by decide +kernel
theorem dX7_set_59 : decode cX7_set 59 = .ok (.ldc 155, 2) := by decide +kernel
theorem dX7_set_61 : decode cX7_set 61 = .ok (.ireturn, 1) := by decide +kernel
theorem dX7_rule_0 : decode cX7_rule 0 = .ok (.iload_n 1, 1) := by decide +kernel
theorem dX7_rule_1 : decode cX7_rule 1 = .ok (.i2l, 1) := by decide +kernel
theorem dX7_rule_2 : decode cX7_rule 2 = .ok (.lconst 0, 1) := by decide +kernel
theorem dX7_rule_3 : decode cX7_rule 3 = .ok (.ldc2_w 179, 3) := by decide +kernel
theorem dX7_rule_6 : decode cX7_rule 6 = .ok (.invokestatic 86, 3) := by decide +kernel
theorem dX7_rule_9 : decode cX7_rule 9 = .ok (.ifCond .eq 37, 3) := by decide +kernel
theorem dX7_rule_12 : decode cX7_rule 12 = .ok (.iload_n 2, 1) := by decide +kernel
theorem dX7_rule_13 : decode cX7_rule 13 = .ok (.i2l, 1) := by decide +kernel
theorem dX7_rule_14 : decode cX7_rule 14 = .ok (.lconst 0, 1) := by decide +kernel
theorem dX7_rule_15 : decode cX7_rule 15 = .ok (.iload_n 1, 1) := by decide +kernel
theorem dX7_rule_16 : decode cX7_rule 16 = .ok (.iconst 2, 1) := by decide +kernel
theorem dX7_rule_17 : decode cX7_rule 17 = .ok (.if_icmp .ne 9, 3) := by decide +kernel
theorem dX7_rule_20 : decode cX7_rule 20 = .ok (.ldc2_w 181, 3) := by decide +kernel
theorem dX7_rule_23 : decode cX7_rule 23 = .ok (.goto 6, 3) := by decide +kernel
theorem dX7_rule_26 : decode cX7_rule 26 = .ok (.ldc2_w 153, 3) := by decide +kernel
theorem dX7_rule_29 : decode cX7_rule 29 = .ok (.invokestatic 86, 3) := by decide +kernel
theorem dX7_rule_32 : decode cX7_rule 32 = .ok (.ifCond .eq 14, 3) := by decide +kernel
theorem dX7_rule_35 : decode cX7_rule 35 = .ok (.aload_n 0, 1) := by decide +kernel
theorem dX7_rule_36 : decode cX7_rule 36 = .ok (.iconst 2, 1) := by decide +kernel
theorem dX7_rule_37 : decode cX7_rule 37 = .ok (.iload_n 1, 1) := by decide +kernel
theorem dX7_rule_38 : decode cX7_rule 38 = .ok (.iadd, 1) := by decide +kernel
theorem dX7_rule_39 : decode cX7_rule 39 = .ok (.iload_n 2, 1) := by decide +kernel
theorem dX7_rule_40 : decode cX7_rule 40 = .ok (.invokevirtual 172, 3) := by decide +kernel
theorem dX7_rule_43 : decode cX7_rule 43 = .ok (.goto 5, 3) := by decide +kernel
theorem dX7_rule_46 : decode cX7_rule 46 = .ok (.ldc 155, 2) := by decide +kernel
theorem dX7_rule_48 : decode cX7_rule 48 = .ok (.ireturn, 1) := by decide +kernel
theorem dX7_deal_0 : decode cX7_deal 0 = .ok (.iload_n 1, 1) := by decide +kernel
theorem dX7_deal_1 : decode cX7_deal 1 = .ok (.i2l, 1) := by decide +kernel
theorem dX7_deal_2 : decode cX7_deal 2 = .ok (.lconst 1, 1) := by decide +kernel
theorem dX7_deal_3 : decode cX7_deal 3 = .ok (.ldc2_w 183, 3) := by decide +kernel
theorem dX7_deal_6 : decode cX7_deal 6 = .ok (.invokestatic 86, 3) := by decide +kernel
theorem dX7_deal_9 : decode cX7_deal 9 = .ok (.ifCond .ne 6, 3) := by decide +kernel
theorem dX7_deal_12 : decode cX7_deal 12 = .ok (.ldc 155, 2) := by decide +kernel
theorem dX7_deal_14 : decode cX7_deal 14 = .ok (.ireturn, 1) := by decide +kernel
theorem dX7_deal_15 : decode cX7_deal 15 = .ok (.iconst 0, 1) := by decide +kernel
theorem dX7_deal_16 : decode cX7_deal 16 = .ok (.istore_n 2, 1) := by decide +kernel
theorem dX7_deal_17 : decode cX7_deal 17 = .ok (.iload_n 2, 1) := by decide +kernel
theorem dX7_deal_18 : decode cX7_deal 18 = .ok (.iload_n 1, 1) := by decide +kernel
theorem dX7_deal_19 : decode cX7_deal 19 = .ok (.if_icmp .ge 67, 3) := by decide +kernel
theorem dX7_deal_22 : decode cX7_deal 22 = .ok (.aload_n 0, 1) := by decide +kernel
theorem dX7_deal_23 : decode cX7_deal 23 = .ok (.getfield 7, 3) := by decide +kernel
theorem dX7_deal_26 : decode cX7_deal 26 = .ok (.iconst 0, 1) := by decide +kernel
theorem dX7_deal_27 : decode cX7_deal 27 = .ok (.iaload, 1) := by decide +kernel
theorem dX7_deal_28 : decode cX7_deal 28 = .ok (.bipush 10, 2) := by decide +kernel
theorem dX7_deal_30 : decode cX7_deal 30 = .ok (.if_icmp .ge 56, 3) := by decide +kernel
theorem dX7_deal_33 : decode cX7_deal 33 = .ok (.aload_n 0, 1) := by decide +kernel
theorem dX7_deal_34 : decode cX7_deal 34 = .ok (.invokevirtual 143, 3) := by decide +kernel
theorem dX7_deal_37 : decode cX7_deal 37 = .ok (.bipush 6, 2) := by decide +kernel
theorem dX7_deal_39 : decode cX7_deal 39 = .ok (.irem, 1) := by decide +kernel
theorem dX7_deal_40 : decode cX7_deal 40 = .ok (.istore_n 3, 1) := by decide +kernel
theorem dX7_deal_41 : decode cX7_deal 41 = .ok (.aload_n 0, 1) := by decide +kernel
theorem dX7_deal_42 : decode cX7_deal 42 = .ok (.invokevirtual 143, 3) := by decide +kernel
theorem dX7_deal_45 : decode cX7_deal 45 = .ok (.bipush 100, 2) := by decide +kernel
theorem dX7_deal_47 : decode cX7_deal 47 = .ok (.irem, 1) := by decide +kernel
theorem dX7_deal_48 : decode cX7_deal 48 = .ok (.istore 4, 2) := by decide +kernel
theorem dX7_deal_50 : decode cX7_deal 50 = .ok (.aload_n 0, 1) := by decide +kernel
theorem dX7_deal_51 : decode cX7_deal 51 = .ok (.invokevirtual 143, 3) := by decide +kernel
theorem dX7_deal_54 : decode cX7_deal 54 = .ok (.bipush 100, 2) := by decide +kernel
theorem dX7_deal_56 : decode cX7_deal 56 = .ok (.irem, 1) := by decide +kernel
theorem dX7_deal_57 : decode cX7_deal 57 = .ok (.istore 5, 2) := by decide +kernel
theorem dX7_deal_59 : decode cX7_deal 59 = .ok (.aload_n 0, 1) := by decide +kernel
theorem dX7_deal_60 : decode cX7_deal 60 = .ok (.invokevirtual 143, 3) := by decide +kernel
theorem dX7_deal_63 : decode cX7_deal 63 = .ok (.bipush 100, 2) := by decide +kernel
theorem dX7_deal_65 : decode cX7_deal 65 = .ok (.irem, 1) := by decide +kernel
theorem dX7_deal_66 : decode cX7_deal 66 = .ok (.istore 6, 2) := by decide +kernel
theorem dX7_deal_68 : decode cX7_deal 68 = .ok (.aload_n 0, 1) := by decide +kernel
theorem dX7_deal_69 : decode cX7_deal 69 = .ok (.iload_n 3, 1) := by decide +kernel
theorem dX7_deal_70 : decode cX7_deal 70 = .ok (.iload 4, 2) := by decide +kernel
theorem dX7_deal_72 : decode cX7_deal 72 = .ok (.iload 5, 2) := by decide +kernel
theorem dX7_deal_74 : decode cX7_deal 74 = .ok (.iload 6, 2) := by decide +kernel
theorem dX7_deal_76 : decode cX7_deal 76 = .ok (.invokevirtual 185, 3) := by decide +kernel
theorem dX7_deal_79 : decode cX7_deal 79 = .ok (.pop, 1) := by decide +kernel
theorem dX7_deal_80 : decode cX7_deal 80 = .ok (.iinc 2 1, 3) := by decide +kernel
theorem dX7_deal_83 : decode cX7_deal 83 = .ok (.goto (-66), 3) := by decide +kernel
theorem dX7_deal_86 : decode cX7_deal 86 = .ok (.iload_n 2, 1) := by decide +kernel
theorem dX7_deal_87 : decode cX7_deal 87 = .ok (.ireturn, 1) := by decide +kernel
theorem dX7_seed_0 : decode cX7_seed 0 = .ok (.aload_n 0, 1) := by decide +kernel
theorem dX7_seed_1 : decode cX7_seed 1 = .ok (.bipush 8, 2) := by decide +kernel
theorem dX7_seed_3 : decode cX7_seed 3 = .ok (.iload_n 1, 1) := by decide +kernel
theorem dX7_seed_4 : decode cX7_seed 4 = .ok (.invokevirtual 172, 3) := by decide +kernel
theorem dX7_seed_7 : decode cX7_seed 7 = .ok (.ireturn, 1) := by decide +kernel
theorem dX7_round_0 : decode cX7_round 0 = .ok (.aload_n 0, 1) := by decide +kernel
theorem dX7_round_1 : decode cX7_round 1 = .ok (.invokevirtual 130, 3) := by decide +kernel
theorem dX7_round_4 : decode cX7_round 4 = .ok (.aload_n 0, 1) := by decide +kernel
theorem dX7_round_5 : decode cX7_round 5 = .ok (.getfield 7, 3) := by decide +kernel
theorem dX7_round_8 : decode cX7_round 8 = .ok (.iconst 5, 1) := by decide +kernel
theorem dX7_round_9 : decode cX7_round 9 = .ok (.iaload, 1) := by decide +kernel
theorem dX7_round_10 : decode cX7_round 10 = .ok (.ireturn, 1) := by decide +kernel
theorem dX7_load_0 : decode cX7_load 0 = .ok (.aload_n 0, 1) := by decide +kernel
theorem dX7_load_1 : decode cX7_load 1 = .ok (.iload_n 1, 1) := by decide +kernel
theorem dX7_load_2 : decode cX7_load 2 = .ok (.invokevirtual 157, 3) := by decide +kernel
theorem dX7_load_5 : decode cX7_load 5 = .ok (.ifCond .ne 6, 3) := by decide +kernel
theorem dX7_load_8 : decode cX7_load 8 = .ok (.ldc 155, 2) := by decide +kernel
theorem dX7_load_10 : decode cX7_load 10 = .ok (.ireturn, 1) := by decide +kernel
theorem dX7_load_11 : decode cX7_load 11 = .ok (.aload_n 0, 1) := by decide +kernel
theorem dX7_load_12 : decode cX7_load 12 = .ok (.iload_n 1, 1) := by decide +kernel
theorem dX7_load_13 : decode cX7_load 13 = .ok (.iconst 3, 1) := by decide +kernel
theorem dX7_load_14 : decode cX7_load 14 = .ok (.invokevirtual 101, 3) := by decide +kernel
theorem dX7_load_17 : decode cX7_load 17 = .ok (.istore_n 2, 1) := by decide +kernel
theorem dX7_load_18 : decode cX7_load 18 = .ok (.aload_n 0, 1) := by decide +kernel
theorem dX7_load_19 : decode cX7_load 19 = .ok (.iload_n 1, 1) := by decide +kernel
theorem dX7_load_20 : decode cX7_load 20 = .ok (.invokevirtual 133, 3) := by decide +kernel
theorem dX7_load_23 : decode cX7_load 23 = .ok (.aload_n 0, 1) := by decide +kernel
theorem dX7_load_24 : decode cX7_load 24 = .ok (.iload_n 1, 1) := by decide +kernel
theorem dX7_load_25 : decode cX7_load 25 = .ok (.iconst 3, 1) := by decide +kernel
theorem dX7_load_26 : decode cX7_load 26 = .ok (.invokevirtual 101, 3) := by decide +kernel
theorem dX7_load_29 : decode cX7_load 29 = .ok (.iload_n 2, 1) := by decide +kernel
theorem dX7_load_30 : decode cX7_load 30 = .ok (.isub, 1) := by decide +kernel
theorem dX7_load_31 : decode cX7_load 31 = .ok (.ireturn, 1) := by decide +kernel
theorem dX7_nights_0 : decode cX7_nights 0 = .ok (.iload_n 1, 1) := by decide +kernel
theorem dX7_nights_1 : decode cX7_nights 1 = .ok (.i2l, 1) := by decide +kernel
theorem dX7_nights_2 : decode cX7_nights 2 = .ok (.lconst 1, 1) := by decide +kernel
theorem dX7_nights_3 : decode cX7_nights 3 = .ok (.ldc2_w 181, 3) := by decide +kernel
theorem dX7_nights_6 : decode cX7_nights 6 = .ok (.invokestatic 86, 3) := by decide +kernel
theorem dX7_nights_9 : decode cX7_nights 9 = .ok (.ifCond .ne 6, 3) := by decide +kernel
theorem dX7_nights_12 : decode cX7_nights 12 = .ok (.ldc 155, 2) := by decide +kernel
theorem dX7_nights_14 : decode cX7_nights 14 = .ok (.ireturn, 1) := by decide +kernel
theorem dX7_nights_15 : decode cX7_nights 15 = .ok (.aload_n 0, 1) := by decide +kernel
theorem dX7_nights_16 : decode cX7_nights 16 = .ok (.getfield 7, 3) := by decide +kernel
theorem dX7_nights_19 : decode cX7_nights 19 = .ok (.bipush 6, 2) := by decide +kernel
theorem dX7_nights_21 : decode cX7_nights 21 = .ok (.iaload, 1) := by decide +kernel
theorem dX7_nights_22 : decode cX7_nights 22 = .ok (.istore_n 2, 1) := by decide +kernel
theorem dX7_nights_23 : decode cX7_nights 23 = .ok (.aload_n 0, 1) := by decide +kernel
theorem dX7_nights_24 : decode cX7_nights 24 = .ok (.iload_n 1, 1) := by decide +kernel
theorem dX7_nights_25 : decode cX7_nights 25 = .ok (.iconst 0, 1) := by decide +kernel
theorem dX7_nights_26 : decode cX7_nights 26 = .ok (.sipush 9999, 3) := by decide +kernel
theorem dX7_nights_29 : decode cX7_nights 29 = .ok (.aload_n 0, 1) := by decide +kernel
theorem dX7_nights_30 : decode cX7_nights 30 = .ok (.getfield 7, 3) := by decide +kernel
theorem dX7_nights_33 : decode cX7_nights 33 = .ok (.iconst 1, 1) := by decide +kernel
theorem dX7_nights_34 : decode cX7_nights 34 = .ok (.iaload, 1) := by decide +kernel
theorem dX7_nights_35 : decode cX7_nights 35 = .ok (.isub, 1) := by decide +kernel
theorem dX7_nights_36 : decode cX7_nights 36 = .ok (.invokestatic 112, 3) := by decide +kernel
theorem dX7_nights_39 : decode cX7_nights 39 = .ok (.invokevirtual 188, 3) := by decide +kernel
theorem dX7_nights_42 : decode cX7_nights 42 = .ok (.aload_n 0, 1) := by decide +kernel
theorem dX7_nights_43 : decode cX7_nights 43 = .ok (.getfield 7, 3) := by decide +kernel
theorem dX7_nights_46 : decode cX7_nights 46 = .ok (.bipush 6, 2) := by decide +kernel
theorem dX7_nights_48 : decode cX7_nights 48 = .ok (.iaload, 1) := by decide +kernel
theorem dX7_nights_49 : decode cX7_nights 49 = .ok (.iload_n 2, 1) := by decide +kernel
theorem dX7_nights_50 : decode cX7_nights 50 = .ok (.isub, 1) := by decide +kernel
theorem dX7_nights_51 : decode cX7_nights 51 = .ok (.ireturn, 1) := by decide +kernel
theorem dX7_terrace_0 : decode cX7_terrace 0 = .ok (.iload_n 1, 1) := by decide +kernel
theorem dX7_terrace_1 : decode cX7_terrace 1 = .ok (.tableswitch 88 0 6 #[43, 51, 59, 64, 71, 77, 83], 43) := by decide +kernel
theorem dX7_terrace_44 : decode cX7_terrace 44 = .ok (.aload_n 0, 1) := by decide +kernel
theorem dX7_terrace_45 : decode cX7_terrace 45 = .ok (.getfield 7, 3) := by decide +kernel
theorem dX7_terrace_48 : decode cX7_terrace 48 = .ok (.bipush 6, 2) := by decide +kernel
theorem dX7_terrace_50 : decode cX7_terrace 50 = .ok (.iaload, 1) := by decide +kernel
theorem dX7_terrace_51 : decode cX7_terrace 51 = .ok (.ireturn, 1) := by decide +kernel
theorem dX7_terrace_52 : decode cX7_terrace 52 = .ok (.aload_n 0, 1) := by decide +kernel
theorem dX7_terrace_53 : decode cX7_terrace 53 = .ok (.getfield 7, 3) := by decide +kernel
theorem dX7_terrace_56 : decode cX7_terrace 56 = .ok (.bipush 7, 2) := by decide +kernel
theorem dX7_terrace_58 : decode cX7_terrace 58 = .ok (.iaload, 1) := by decide +kernel
theorem dX7_terrace_59 : decode cX7_terrace 59 = .ok (.ireturn, 1) := by decide +kernel
theorem dX7_terrace_60 : decode cX7_terrace 60 = .ok (.aload_n 0, 1) := by decide +kernel
theorem dX7_terrace_61 : decode cX7_terrace 61 = .ok (.invokevirtual 191, 3) := by decide +kernel
theorem dX7_terrace_64 : decode cX7_terrace 64 = .ok (.ireturn, 1) := by decide +kernel
theorem dX7_terrace_65 : decode cX7_terrace 65 = .ok (.aload_n 0, 1) := by decide +kernel
theorem dX7_terrace_66 : decode cX7_terrace 66 = .ok (.getfield 7, 3) := by decide +kernel
theorem dX7_terrace_69 : decode cX7_terrace 69 = .ok (.iconst 5, 1) := by decide +kernel
theorem dX7_terrace_70 : decode cX7_terrace 70 = .ok (.iaload, 1) := by decide +kernel
theorem dX7_terrace_71 : decode cX7_terrace 71 = .ok (.ireturn, 1) := by decide +kernel
theorem dX7_terrace_72 : decode cX7_terrace 72 = .ok (.aload_n 0, 1) := by decide +kernel
theorem dX7_terrace_73 : decode cX7_terrace 73 = .ok (.iconst 3, 1) := by decide +kernel
theorem dX7_terrace_74 : decode cX7_terrace 74 = .ok (.invokevirtual 194, 3) := by decide +kernel
theorem dX7_terrace_77 : decode cX7_terrace 77 = .ok (.ireturn, 1) := by decide +kernel
theorem dX7_terrace_78 : decode cX7_terrace 78 = .ok (.aload_n 0, 1) := by decide +kernel
theorem dX7_terrace_79 : decode cX7_terrace 79 = .ok (.iconst 1, 1) := by decide +kernel
theorem dX7_terrace_80 : decode cX7_terrace 80 = .ok (.invokevirtual 194, 3) := by decide +kernel
theorem dX7_terrace_83 : decode cX7_terrace 83 = .ok (.ireturn, 1) := by decide +kernel
theorem dX7_terrace_84 : decode cX7_terrace 84 = .ok (.aload_n 0, 1) := by decide +kernel
theorem dX7_terrace_85 : decode cX7_terrace 85 = .ok (.invokevirtual 197, 3) := by decide +kernel
theorem dX7_terrace_88 : decode cX7_terrace 88 = .ok (.ireturn, 1) := by decide +kernel
theorem dX7_terrace_89 : decode cX7_terrace 89 = .ok (.ldc 155, 2) := by decide +kernel
theorem dX7_terrace_91 : decode cX7_terrace 91 = .ok (.ireturn, 1) := by decide +kernel
theorem dX7_behind_0 : decode cX7_behind 0 = .ok (.iload_n 1, 1) := by decide +kernel
theorem dX7_behind_1 : decode cX7_behind 1 = .ok (.i2l, 1) := by decide +kernel
theorem dX7_behind_2 : decode cX7_behind 2 = .ok (.lconst 0, 1) := by decide +kernel
theorem dX7_behind_3 : decode cX7_behind 3 = .ok (.ldc2_w 181, 3) := by decide +kernel
theorem dX7_behind_6 : decode cX7_behind 6 = .ok (.invokestatic 86, 3) := by decide +kernel
theorem dX7_behind_9 : decode cX7_behind 9 = .ok (.ifCond .eq 25, 3) := by decide +kernel
theorem dX7_behind_12 : decode cX7_behind 12 = .ok (.iload_n 2, 1) := by decide +kernel
theorem dX7_behind_13 : decode cX7_behind 13 = .ok (.i2l, 1) := by decide +kernel
theorem dX7_behind_14 : decode cX7_behind 14 = .ok (.lconst 0, 1) := by decide +kernel
theorem dX7_behind_15 : decode cX7_behind 15 = .ok (.ldc2_w 175, 3) := by decide +kernel
theorem dX7_behind_18 : decode cX7_behind 18 = .ok (.invokestatic 86, 3) := by decide +kernel
theorem dX7_behind_21 : decode cX7_behind 21 = .ok (.ifCond .ne 16, 3) := by decide +kernel
theorem dX7_behind_24 : decode cX7_behind 24 = .ok (.aload_n 0, 1) := by decide +kernel
theorem dX7_behind_25 : decode cX7_behind 25 = .ok (.iload_n 2, 1) := by decide +kernel
theorem dX7_behind_26 : decode cX7_behind 26 = .ok (.iconst 5, 1) := by decide +kernel
theorem dX7_behind_27 : decode cX7_behind 27 = .ok (.isub, 1) := by decide +kernel
theorem dX7_behind_28 : decode cX7_behind 28 = .ok (.invokevirtual 157, 3) := by decide +kernel
theorem dX7_behind_31 : decode cX7_behind 31 = .ok (.ifCond .ne 6, 3) := by decide +kernel
theorem dX7_behind_34 : decode cX7_behind 34 = .ok (.ldc 155, 2) := by decide +kernel
theorem dX7_behind_36 : decode cX7_behind 36 = .ok (.ireturn, 1) := by decide +kernel
theorem dX7_behind_37 : decode cX7_behind 37 = .ok (.aload_n 0, 1) := by decide +kernel
theorem dX7_behind_38 : decode cX7_behind 38 = .ok (.getfield 7, 3) := by decide +kernel
theorem dX7_behind_41 : decode cX7_behind 41 = .ok (.aload_n 0, 1) := by decide +kernel
theorem dX7_behind_42 : decode cX7_behind 42 = .ok (.getfield 16, 3) := by decide +kernel
theorem dX7_behind_45 : decode cX7_behind 45 = .ok (.invokestatic 200, 3) := by decide +kernel
theorem dX7_behind_48 : decode cX7_behind 48 = .ok (.aload_n 0, 1) := by decide +kernel
theorem dX7_behind_49 : decode cX7_behind 49 = .ok (.iload_n 1, 1) := by decide +kernel
theorem dX7_behind_50 : decode cX7_behind 50 = .ok (.invokevirtual 188, 3) := by decide +kernel
theorem dX7_behind_53 : decode cX7_behind 53 = .ok (.iload_n 2, 1) := by decide +kernel
theorem dX7_behind_54 : decode cX7_behind 54 = .ok (.iconst 5, 1) := by decide +kernel
theorem dX7_behind_55 : decode cX7_behind 55 = .ok (.if_icmp .ge 11, 3) := by decide +kernel
theorem dX7_behind_58 : decode cX7_behind 58 = .ok (.aload_n 0, 1) := by decide +kernel
theorem dX7_behind_59 : decode cX7_behind 59 = .ok (.iload_n 2, 1) := by decide +kernel
theorem dX7_behind_60 : decode cX7_behind 60 = .ok (.invokevirtual 204, 3) := by decide +kernel
theorem dX7_behind_63 : decode cX7_behind 63 = .ok (.goto 11, 3) := by decide +kernel
theorem dX7_behind_66 : decode cX7_behind 66 = .ok (.aload_n 0, 1) := by decide +kernel
theorem dX7_behind_67 : decode cX7_behind 67 = .ok (.iload_n 2, 1) := by decide +kernel
theorem dX7_behind_68 : decode cX7_behind 68 = .ok (.iconst 5, 1) := by decide +kernel
theorem dX7_behind_69 : decode cX7_behind 69 = .ok (.isub, 1) := by decide +kernel
theorem dX7_behind_70 : decode cX7_behind 70 = .ok (.iconst 4, 1) := by decide +kernel
theorem dX7_behind_71 : decode cX7_behind 71 = .ok (.invokevirtual 101, 3) := by decide +kernel
theorem dX7_behind_74 : decode cX7_behind 74 = .ok (.istore_n 3, 1) := by decide +kernel
theorem dX7_behind_75 : decode cX7_behind 75 = .ok (.aload_n 0, 1) := by decide +kernel
theorem dX7_behind_76 : decode cX7_behind 76 = .ok (.getfield 16, 3) := by decide +kernel
theorem dX7_behind_79 : decode cX7_behind 79 = .ok (.aload_n 0, 1) := by decide +kernel
theorem dX7_behind_80 : decode cX7_behind 80 = .ok (.getfield 7, 3) := by decide +kernel
theorem dX7_behind_83 : decode cX7_behind 83 = .ok (.invokestatic 200, 3) := by decide +kernel
theorem dX7_behind_86 : decode cX7_behind 86 = .ok (.iload_n 3, 1) := by decide +kernel
theorem dX7_behind_87 : decode cX7_behind 87 = .ok (.ireturn, 1) := by decide +kernel
theorem dX7_cold_0 : decode cX7_cold 0 = .ok (.aload_n 0, 1) := by decide +kernel
theorem dX7_cold_1 : decode cX7_cold 1 = .ok (.iload_n 1, 1) := by decide +kernel
theorem dX7_cold_2 : decode cX7_cold 2 = .ok (.invokevirtual 157, 3) := by decide +kernel
theorem dX7_cold_5 : decode cX7_cold 5 = .ok (.ifCond .ne 6, 3) := by decide +kernel
theorem dX7_cold_8 : decode cX7_cold 8 = .ok (.ldc 155, 2) := by decide +kernel
theorem dX7_cold_10 : decode cX7_cold 10 = .ok (.ireturn, 1) := by decide +kernel
theorem dX7_cold_11 : decode cX7_cold 11 = .ok (.aload_n 0, 1) := by decide +kernel
theorem dX7_cold_12 : decode cX7_cold 12 = .ok (.getfield 7, 3) := by decide +kernel
theorem dX7_cold_15 : decode cX7_cold 15 = .ok (.aload_n 0, 1) := by decide +kernel
theorem dX7_cold_16 : decode cX7_cold 16 = .ok (.getfield 16, 3) := by decide +kernel
theorem dX7_cold_19 : decode cX7_cold 19 = .ok (.invokestatic 200, 3) := by decide +kernel
theorem dX7_cold_22 : decode cX7_cold 22 = .ok (.iconst 0, 1) := by decide +kernel
theorem dX7_cold_23 : decode cX7_cold 23 = .ok (.istore_n 2, 1) := by decide +kernel
theorem dX7_cold_24 : decode cX7_cold 24 = .ok (.iload_n 2, 1) := by decide +kernel
theorem dX7_cold_25 : decode cX7_cold 25 = .ok (.sipush 200, 3) := by decide +kernel
theorem dX7_cold_28 : decode cX7_cold 28 = .ok (.if_icmp .ge 22, 3) := by decide +kernel
theorem dX7_cold_31 : decode cX7_cold 31 = .ok (.aload_n 0, 1) := by decide +kernel
theorem dX7_cold_32 : decode cX7_cold 32 = .ok (.iload_n 1, 1) := by decide +kernel
theorem dX7_cold_33 : decode cX7_cold 33 = .ok (.iconst 3, 1) := by decide +kernel
theorem dX7_cold_34 : decode cX7_cold 34 = .ok (.invokevirtual 101, 3) := by decide +kernel
theorem dX7_cold_37 : decode cX7_cold 37 = .ok (.ifCond .le 13, 3) := by decide +kernel
theorem dX7_cold_40 : decode cX7_cold 40 = .ok (.aload_n 0, 1) := by decide +kernel
theorem dX7_cold_41 : decode cX7_cold 41 = .ok (.invokevirtual 147, 3) := by decide +kernel
theorem dX7_cold_44 : decode cX7_cold 44 = .ok (.iinc 2 1, 3) := by decide +kernel
theorem dX7_cold_47 : decode cX7_cold 47 = .ok (.goto (-23), 3) := by decide +kernel
theorem dX7_cold_50 : decode cX7_cold 50 = .ok (.aload_n 0, 1) := by decide +kernel
theorem dX7_cold_51 : decode cX7_cold 51 = .ok (.iload_n 1, 1) := by decide +kernel
theorem dX7_cold_52 : decode cX7_cold 52 = .ok (.iconst 3, 1) := by decide +kernel
theorem dX7_cold_53 : decode cX7_cold 53 = .ok (.invokevirtual 101, 3) := by decide +kernel
theorem dX7_cold_56 : decode cX7_cold 56 = .ok (.ifCond .ne 7, 3) := by decide +kernel
theorem dX7_cold_59 : decode cX7_cold 59 = .ok (.iconst 1, 1) := by decide +kernel
theorem dX7_cold_60 : decode cX7_cold 60 = .ok (.goto 4, 3) := by decide +kernel
theorem dX7_cold_63 : decode cX7_cold 63 = .ok (.iconst 0, 1) := by decide +kernel
theorem dX7_cold_64 : decode cX7_cold 64 = .ok (.istore_n 3, 1) := by decide +kernel
theorem dX7_cold_65 : decode cX7_cold 65 = .ok (.aload_n 0, 1) := by decide +kernel
theorem dX7_cold_66 : decode cX7_cold 66 = .ok (.getfield 16, 3) := by decide +kernel
theorem dX7_cold_69 : decode cX7_cold 69 = .ok (.aload_n 0, 1) := by decide +kernel
theorem dX7_cold_70 : decode cX7_cold 70 = .ok (.getfield 7, 3) := by decide +kernel
theorem dX7_cold_73 : decode cX7_cold 73 = .ok (.invokestatic 200, 3) := by decide +kernel
theorem dX7_cold_76 : decode cX7_cold 76 = .ok (.iload_n 3, 1) := by decide +kernel
theorem dX7_cold_77 : decode cX7_cold 77 = .ok (.ifCond .eq 7, 3) := by decide +kernel
theorem dX7_cold_80 : decode cX7_cold 80 = .ok (.iload_n 2, 1) := by decide +kernel
theorem dX7_cold_81 : decode cX7_cold 81 = .ok (.goto 5, 3) := by decide +kernel
theorem dX7_cold_84 : decode cX7_cold 84 = .ok (.ldc 150, 2) := by decide +kernel
theorem dX7_cold_86 : decode cX7_cold 86 = .ok (.ireturn, 1) := by decide +kernel
theorem dX7_shut_0 : decode cX7_shut 0 = .ok (.aload_n 0, 1) := by decide +kernel
theorem dX7_shut_1 : decode cX7_shut 1 = .ok (.iload_n 1, 1) := by decide +kernel
theorem dX7_shut_2 : decode cX7_shut 2 = .ok (.invokevirtual 157, 3) := by decide +kernel
theorem dX7_shut_5 : decode cX7_shut 5 = .ok (.ifCond .ne 6, 3) := by decide +kernel
theorem dX7_shut_8 : decode cX7_shut 8 = .ok (.ldc 155, 2) := by decide +kernel
theorem dX7_shut_10 : decode cX7_shut 10 = .ok (.ireturn, 1) := by decide +kernel
theorem dX7_shut_11 : decode cX7_shut 11 = .ok (.aload_n 0, 1) := by decide +kernel
theorem dX7_shut_12 : decode cX7_shut 12 = .ok (.getfield 7, 3) := by decide +kernel
theorem dX7_shut_15 : decode cX7_shut 15 = .ok (.aload_n 0, 1) := by decide +kernel
theorem dX7_shut_16 : decode cX7_shut 16 = .ok (.getfield 16, 3) := by decide +kernel
theorem dX7_shut_19 : decode cX7_shut 19 = .ok (.invokestatic 200, 3) := by decide +kernel
theorem dX7_shut_22 : decode cX7_shut 22 = .ok (.iconst 0, 1) := by decide +kernel
theorem dX7_shut_23 : decode cX7_shut 23 = .ok (.istore_n 2, 1) := by decide +kernel
theorem dX7_shut_24 : decode cX7_shut 24 = .ok (.iload_n 2, 1) := by decide +kernel
theorem dX7_shut_25 : decode cX7_shut 25 = .ok (.sipush 200, 3) := by decide +kernel
theorem dX7_shut_28 : decode cX7_shut 28 = .ok (.if_icmp .ge 21, 3) := by decide +kernel
theorem dX7_shut_31 : decode cX7_shut 31 = .ok (.aload_n 0, 1) := by decide +kernel
theorem dX7_shut_32 : decode cX7_shut 32 = .ok (.iload_n 1, 1) := by decide +kernel
theorem dX7_shut_33 : decode cX7_shut 33 = .ok (.invokevirtual 122, 3) := by decide +kernel
theorem dX7_shut_36 : decode cX7_shut 36 = .ok (.ifCond .le 13, 3) := by decide +kernel
theorem dX7_shut_39 : decode cX7_shut 39 = .ok (.aload_n 0, 1) := by decide +kernel
theorem dX7_shut_40 : decode cX7_shut 40 = .ok (.invokevirtual 147, 3) := by decide +kernel
theorem dX7_shut_43 : decode cX7_shut 43 = .ok (.iinc 2 1, 3) := by decide +kernel
theorem dX7_shut_46 : decode cX7_shut 46 = .ok (.goto (-22), 3) := by decide +kernel
theorem dX7_shut_49 : decode cX7_shut 49 = .ok (.aload_n 0, 1) := by decide +kernel
theorem dX7_shut_50 : decode cX7_shut 50 = .ok (.iload_n 1, 1) := by decide +kernel
theorem dX7_shut_51 : decode cX7_shut 51 = .ok (.invokevirtual 122, 3) := by decide +kernel
theorem dX7_shut_54 : decode cX7_shut 54 = .ok (.ifCond .ne 7, 3) := by decide +kernel
theorem dX7_shut_57 : decode cX7_shut 57 = .ok (.iconst 1, 1) := by decide +kernel
theorem dX7_shut_58 : decode cX7_shut 58 = .ok (.goto 4, 3) := by decide +kernel
theorem dX7_shut_61 : decode cX7_shut 61 = .ok (.iconst 0, 1) := by decide +kernel
theorem dX7_shut_62 : decode cX7_shut 62 = .ok (.istore_n 3, 1) := by decide +kernel
theorem dX7_shut_63 : decode cX7_shut 63 = .ok (.aload_n 0, 1) := by decide +kernel
theorem dX7_shut_64 : decode cX7_shut 64 = .ok (.getfield 16, 3) := by decide +kernel
theorem dX7_shut_67 : decode cX7_shut 67 = .ok (.aload_n 0, 1) := by decide +kernel
theorem dX7_shut_68 : decode cX7_shut 68 = .ok (.getfield 7, 3) := by decide +kernel
theorem dX7_shut_71 : decode cX7_shut 71 = .ok (.invokestatic 200, 3) := by decide +kernel
theorem dX7_shut_74 : decode cX7_shut 74 = .ok (.iload_n 3, 1) := by decide +kernel
theorem dX7_shut_75 : decode cX7_shut 75 = .ok (.ifCond .eq 7, 3) := by decide +kernel
theorem dX7_shut_78 : decode cX7_shut 78 = .ok (.iload_n 2, 1) := by decide +kernel
theorem dX7_shut_79 : decode cX7_shut 79 = .ok (.goto 5, 3) := by decide +kernel
theorem dX7_shut_82 : decode cX7_shut 82 = .ok (.ldc 150, 2) := by decide +kernel
theorem dX7_shut_84 : decode cX7_shut 84 = .ok (.ireturn, 1) := by decide +kernel
theorem dX7_areStill_0 : decode cX7_areStill 0 = .ok (.iconst 0, 1) := by decide +kernel
theorem dX7_areStill_1 : decode cX7_areStill 1 = .ok (.istore_n 1, 1) := by decide +kernel
theorem dX7_areStill_2 : decode cX7_areStill 2 = .ok (.iload_n 1, 1) := by decide +kernel
theorem dX7_areStill_3 : decode cX7_areStill 3 = .ok (.aload_n 0, 1) := by decide +kernel
theorem dX7_areStill_4 : decode cX7_areStill 4 = .ok (.getfield 7, 3) := by decide +kernel
theorem dX7_areStill_7 : decode cX7_areStill 7 = .ok (.iconst 0, 1) := by decide +kernel
theorem dX7_areStill_8 : decode cX7_areStill 8 = .ok (.iaload, 1) := by decide +kernel
theorem dX7_areStill_9 : decode cX7_areStill 9 = .ok (.if_icmp .ge 25, 3) := by decide +kernel
theorem dX7_areStill_12 : decode cX7_areStill 12 = .ok (.aload_n 0, 1) := by decide +kernel
theorem dX7_areStill_13 : decode cX7_areStill 13 = .ok (.iload_n 1, 1) := by decide +kernel
theorem dX7_areStill_14 : decode cX7_areStill 14 = .ok (.invokevirtual 122, 3) := by decide +kernel
theorem dX7_areStill_17 : decode cX7_areStill 17 = .ok (.aload_n 0, 1) := by decide +kernel
theorem dX7_areStill_18 : decode cX7_areStill 18 = .ok (.getfield 7, 3) := by decide +kernel
theorem dX7_areStill_21 : decode cX7_areStill 21 = .ok (.iconst 2, 1) := by decide +kernel
theorem dX7_areStill_22 : decode cX7_areStill 22 = .ok (.iaload, 1) := by decide +kernel
theorem dX7_areStill_23 : decode cX7_areStill 23 = .ok (.if_icmp .lt 5, 3) := by decide +kernel
theorem dX7_areStill_26 : decode cX7_areStill 26 = .ok (.iconst 0, 1) := by decide +kernel
theorem dX7_areStill_27 : decode cX7_areStill 27 = .ok (.ireturn, 1) := by decide +kernel
theorem dX7_areStill_28 : decode cX7_areStill 28 = .ok (.iinc 1 1, 3) := by decide +kernel
theorem dX7_areStill_31 : decode cX7_areStill 31 = .ok (.goto (-29), 3) := by decide +kernel
theorem dX7_areStill_34 : decode cX7_areStill 34 = .ok (.iconst 1, 1) := by decide +kernel
theorem dX7_areStill_35 : decode cX7_areStill 35 = .ok (.ireturn, 1) := by decide +kernel
theorem dX7_cement_0 : decode cX7_cement 0 = .ok (.iload_n 1, 1) := by decide +kernel
theorem dX7_cement_1 : decode cX7_cement 1 = .ok (.i2l, 1) := by decide +kernel
theorem dX7_cement_2 : decode cX7_cement 2 = .ok (.lconst 0, 1) := by decide +kernel
theorem dX7_cement_3 : decode cX7_cement 3 = .ok (.ldc2_w 207, 3) := by decide +kernel
theorem dX7_cement_6 : decode cX7_cement 6 = .ok (.invokestatic 86, 3) := by decide +kernel
theorem dX7_cement_9 : decode cX7_cement 9 = .ok (.ifCond .ne 6, 3) := by decide +kernel
theorem dX7_cement_12 : decode cX7_cement 12 = .ok (.ldc 155, 2) := by decide +kernel
theorem dX7_cement_14 : decode cX7_cement 14 = .ok (.ireturn, 1) := by decide +kernel
theorem dX7_cement_15 : decode cX7_cement 15 = .ok (.aload_n 0, 1) := by decide +kernel
theorem dX7_cement_16 : decode cX7_cement 16 = .ok (.getfield 7, 3) := by decide +kernel
theorem dX7_cement_19 : decode cX7_cement 19 = .ok (.aload_n 0, 1) := by decide +kernel
theorem dX7_cement_20 : decode cX7_cement 20 = .ok (.getfield 16, 3) := by decide +kernel
theorem dX7_cement_23 : decode cX7_cement 23 = .ok (.invokestatic 200, 3) := by decide +kernel
theorem dX7_cement_26 : decode cX7_cement 26 = .ok (.iconst (-1), 1) := by decide +kernel
theorem dX7_cement_27 : decode cX7_cement 27 = .ok (.istore_n 2, 1) := by decide +kernel
theorem dX7_cement_28 : decode cX7_cement 28 = .ok (.iconst 0, 1) := by decide +kernel
theorem dX7_cement_29 : decode cX7_cement 29 = .ok (.istore_n 3, 1) := by decide +kernel
theorem dX7_cement_30 : decode cX7_cement 30 = .ok (.iload_n 3, 1) := by decide +kernel
theorem dX7_cement_31 : decode cX7_cement 31 = .ok (.iconst 1, 1) := by decide +kernel
theorem dX7_cement_32 : decode cX7_cement 32 = .ok (.aload_n 0, 1) := by decide +kernel
theorem dX7_cement_33 : decode cX7_cement 33 = .ok (.getfield 7, 3) := by decide +kernel
theorem dX7_cement_36 : decode cX7_cement 36 = .ok (.iconst 0, 1) := by decide +kernel
theorem dX7_cement_37 : decode cX7_cement 37 = .ok (.iaload, 1) := by decide +kernel
theorem dX7_cement_38 : decode cX7_cement 38 = .ok (.ishl, 1) := by decide +kernel
theorem dX7_cement_39 : decode cX7_cement 39 = .ok (.if_icmp .ge 107, 3) := by decide +kernel
theorem dX7_cement_42 : decode cX7_cement 42 = .ok (.iload_n 2, 1) := by decide +kernel
theorem dX7_cement_43 : decode cX7_cement 43 = .ok (.ifCond .lt 14, 3) := by decide +kernel
theorem dX7_cement_46 : decode cX7_cement 46 = .ok (.iload_n 3, 1) := by decide +kernel
theorem dX7_cement_47 : decode cX7_cement 47 = .ok (.invokestatic 118, 3) := by decide +kernel
theorem dX7_cement_50 : decode cX7_cement 50 = .ok (.iload_n 2, 1) := by decide +kernel
theorem dX7_cement_51 : decode cX7_cement 51 = .ok (.invokestatic 118, 3) := by decide +kernel
theorem dX7_cement_54 : decode cX7_cement 54 = .ok (.if_icmp .ge 86, 3) := by decide +kernel
theorem dX7_cement_57 : decode cX7_cement 57 = .ok (.iconst 0, 1) := by decide +kernel
theorem dX7_cement_58 : decode cX7_cement 58 = .ok (.istore 4, 2) := by decide +kernel
theorem dX7_cement_60 : decode cX7_cement 60 = .ok (.iload 4, 2) := by decide +kernel
theorem dX7_cement_62 : decode cX7_cement 62 = .ok (.aload_n 0, 1) := by decide +kernel
theorem dX7_cement_63 : decode cX7_cement 63 = .ok (.getfield 7, 3) := by decide +kernel
theorem dX7_cement_66 : decode cX7_cement 66 = .ok (.iconst 0, 1) := by decide +kernel
theorem dX7_cement_67 : decode cX7_cement 67 = .ok (.iaload, 1) := by decide +kernel
theorem dX7_cement_68 : decode cX7_cement 68 = .ok (.if_icmp .ge 43, 3) := by decide +kernel
theorem dX7_cement_71 : decode cX7_cement 71 = .ok (.aload_n 0, 1) := by decide +kernel
theorem dX7_cement_72 : decode cX7_cement 72 = .ok (.iload 4, 2) := by decide +kernel
theorem dX7_cement_74 : decode cX7_cement 74 = .ok (.iconst 2, 1) := by decide +kernel
theorem dX7_cement_75 : decode cX7_cement 75 = .ok (.iload_n 3, 1) := by decide +kernel
theorem dX7_cement_76 : decode cX7_cement 76 = .ok (.iload 4, 2) := by decide +kernel
theorem dX7_cement_78 : decode cX7_cement 78 = .ok (.ishr, 1) := by decide +kernel
theorem dX7_cement_79 : decode cX7_cement 79 = .ok (.iconst 1, 1) := by decide +kernel
theorem dX7_cement_80 : decode cX7_cement 80 = .ok (.iand, 1) := by decide +kernel
theorem dX7_cement_81 : decode cX7_cement 81 = .ok (.iconst 1, 1) := by decide +kernel
theorem dX7_cement_82 : decode cX7_cement 82 = .ok (.if_icmp .ne 13, 3) := by decide +kernel
theorem dX7_cement_85 : decode cX7_cement 85 = .ok (.aload_n 0, 1) := by decide +kernel
theorem dX7_cement_86 : decode cX7_cement 86 = .ok (.iload 4, 2) := by decide +kernel
theorem dX7_cement_88 : decode cX7_cement 88 = .ok (.iconst 1, 1) := by decide +kernel
theorem dX7_cement_89 : decode cX7_cement 89 = .ok (.invokevirtual 101, 3) := by decide +kernel
theorem dX7_cement_92 : decode cX7_cement 92 = .ok (.goto 10, 3) := by decide +kernel
theorem dX7_cement_95 : decode cX7_cement 95 = .ok (.aload_n 0, 1) := by decide +kernel
theorem dX7_cement_96 : decode cX7_cement 96 = .ok (.iload 4, 2) := by decide +kernel
theorem dX7_cement_98 : decode cX7_cement 98 = .ok (.iconst 2, 1) := by decide +kernel
theorem dX7_cement_99 : decode cX7_cement 99 = .ok (.invokevirtual 101, 3) := by decide +kernel
theorem dX7_cement_102 : decode cX7_cement 102 = .ok (.invokevirtual 125, 3) := by decide +kernel
theorem dX7_cement_105 : decode cX7_cement 105 = .ok (.iinc 4 1, 3) := by decide +kernel
theorem dX7_cement_108 : decode cX7_cement 108 = .ok (.goto (-48), 3) := by decide +kernel
theorem dX7_cement_111 : decode cX7_cement 111 = .ok (.aload_n 0, 1) := by decide +kernel
theorem dX7_cement_112 : decode cX7_cement 112 = .ok (.iload_n 1, 1) := by decide +kernel
theorem dX7_cement_113 : decode cX7_cement 113 = .ok (.invokevirtual 188, 3) := by decide +kernel
theorem dX7_cement_116 : decode cX7_cement 116 = .ok (.aload_n 0, 1) := by decide +kernel
theorem dX7_cement_117 : decode cX7_cement 117 = .ok (.invokevirtual 209, 3) := by decide +kernel
theorem dX7_cement_120 : decode cX7_cement 120 = .ok (.ifCond .eq 7, 3) := by decide +kernel
theorem dX7_cement_123 : decode cX7_cement 123 = .ok (.iload_n 3, 1) := by decide +kernel
theorem dX7_cement_124 : decode cX7_cement 124 = .ok (.goto 4, 3) := by decide +kernel
theorem dX7_cement_127 : decode cX7_cement 127 = .ok (.iload_n 2, 1) := by decide +kernel
theorem dX7_cement_128 : decode cX7_cement 128 = .ok (.istore_n 2, 1) := by decide +kernel
theorem dX7_cement_129 : decode cX7_cement 129 = .ok (.aload_n 0, 1) := by decide +kernel
theorem dX7_cement_130 : decode cX7_cement 130 = .ok (.getfield 16, 3) := by decide +kernel
theorem dX7_cement_133 : decode cX7_cement 133 = .ok (.aload_n 0, 1) := by decide +kernel
theorem dX7_cement_134 : decode cX7_cement 134 = .ok (.getfield 7, 3) := by decide +kernel
theorem dX7_cement_137 : decode cX7_cement 137 = .ok (.invokestatic 200, 3) := by decide +kernel
theorem dX7_cement_140 : decode cX7_cement 140 = .ok (.iinc 3 1, 3) := by decide +kernel
theorem dX7_cement_143 : decode cX7_cement 143 = .ok (.goto (-113), 3) := by decide +kernel
theorem dX7_cement_146 : decode cX7_cement 146 = .ok (.iload_n 2, 1) := by decide +kernel
theorem dX7_cement_147 : decode cX7_cement 147 = .ok (.ifCond .ge 8, 3) := by decide +kernel
theorem dX7_cement_150 : decode cX7_cement 150 = .ok (.ldc 150, 2) := by decide +kernel
theorem dX7_cement_152 : decode cX7_cement 152 = .ok (.goto 4, 3) := by decide +kernel
theorem dX7_cement_155 : decode cX7_cement 155 = .ok (.iload_n 2, 1) := by decide +kernel
theorem dX7_cement_156 : decode cX7_cement 156 = .ok (.ireturn, 1) := by decide +kernel
theorem dX7_cast_0 : decode cX7_cast 0 = .ok (.aload_n 0, 1) := by decide +kernel
theorem dX7_cast_1 : decode cX7_cast 1 = .ok (.iload_n 1, 1) := by decide +kernel
theorem dX7_cast_2 : decode cX7_cast 2 = .ok (.invokevirtual 157, 3) := by decide +kernel
theorem dX7_cast_5 : decode cX7_cast 5 = .ok (.ifCond .eq 25, 3) := by decide +kernel
theorem dX7_cast_8 : decode cX7_cast 8 = .ok (.iload_n 2, 1) := by decide +kernel
theorem dX7_cast_9 : decode cX7_cast 9 = .ok (.i2l, 1) := by decide +kernel
theorem dX7_cast_10 : decode cX7_cast 10 = .ok (.lconst 1, 1) := by decide +kernel
theorem dX7_cast_11 : decode cX7_cast 11 = .ok (.ldc2_w 213, 3) := by decide +kernel
theorem dX7_cast_14 : decode cX7_cast 14 = .ok (.invokestatic 86, 3) := by decide +kernel
theorem dX7_cast_17 : decode cX7_cast 17 = .ok (.ifCond .eq 13, 3) := by decide +kernel
theorem dX7_cast_20 : decode cX7_cast 20 = .ok (.iload_n 3, 1) := by decide +kernel
theorem dX7_cast_21 : decode cX7_cast 21 = .ok (.i2l, 1) := by decide +kernel
theorem dX7_cast_22 : decode cX7_cast 22 = .ok (.lconst 0, 1) := by decide +kernel
theorem dX7_cast_23 : decode cX7_cast 23 = .ok (.lconst 1, 1) := by decide +kernel
theorem dX7_cast_24 : decode cX7_cast 24 = .ok (.invokestatic 86, 3) := by decide +kernel
theorem dX7_cast_27 : decode cX7_cast 27 = .ok (.ifCond .ne 6, 3) := by decide +kernel
theorem dX7_cast_30 : decode cX7_cast 30 = .ok (.ldc 155, 2) := by decide +kernel
theorem dX7_cast_32 : decode cX7_cast 32 = .ok (.ireturn, 1) := by decide +kernel
theorem dX7_cast_33 : decode cX7_cast 33 = .ok (.aload_n 0, 1) := by decide +kernel
theorem dX7_cast_34 : decode cX7_cast 34 = .ok (.getfield 7, 3) := by decide +kernel
theorem dX7_cast_37 : decode cX7_cast 37 = .ok (.aload_n 0, 1) := by decide +kernel
theorem dX7_cast_38 : decode cX7_cast 38 = .ok (.getfield 16, 3) := by decide +kernel
theorem dX7_cast_41 : decode cX7_cast 41 = .ok (.invokestatic 200, 3) := by decide +kernel
theorem dX7_cast_44 : decode cX7_cast 44 = .ok (.iconst 0, 1) := by decide +kernel
theorem dX7_cast_45 : decode cX7_cast 45 = .ok (.istore 4, 2) := by decide +kernel
theorem dX7_cast_47 : decode cX7_cast 47 = .ok (.iconst (-1), 1) := by decide +kernel
theorem dX7_cast_48 : decode cX7_cast 48 = .ok (.istore 5, 2) := by decide +kernel
theorem dX7_cast_50 : decode cX7_cast 50 = .ok (.iconst 0, 1) := by decide +kernel
theorem dX7_cast_51 : decode cX7_cast 51 = .ok (.istore 6, 2) := by decide +kernel
theorem dX7_cast_53 : decode cX7_cast 53 = .ok (.iload 6, 2) := by decide +kernel
theorem dX7_cast_55 : decode cX7_cast 55 = .ok (.bipush 99, 2) := by decide +kernel
theorem dX7_cast_57 : decode cX7_cast 57 = .ok (.if_icmp .gt 77, 3) := by decide +kernel
theorem dX7_cast_60 : decode cX7_cast 60 = .ok (.aload_n 0, 1) := by decide +kernel
theorem dX7_cast_61 : decode cX7_cast 61 = .ok (.iload_n 1, 1) := by decide +kernel
theorem dX7_cast_62 : decode cX7_cast 62 = .ok (.iconst 2, 1) := by decide +kernel
theorem dX7_cast_63 : decode cX7_cast 63 = .ok (.iload 6, 2) := by decide +kernel
theorem dX7_cast_65 : decode cX7_cast 65 = .ok (.invokevirtual 125, 3) := by decide +kernel
theorem dX7_cast_68 : decode cX7_cast 68 = .ok (.aload_n 0, 1) := by decide +kernel
theorem dX7_cast_69 : decode cX7_cast 69 = .ok (.iload_n 2, 1) := by decide +kernel
theorem dX7_cast_70 : decode cX7_cast 70 = .ok (.invokevirtual 188, 3) := by decide +kernel
theorem dX7_cast_73 : decode cX7_cast 73 = .ok (.aload_n 0, 1) := by decide +kernel
theorem dX7_cast_74 : decode cX7_cast 74 = .ok (.iload_n 1, 1) := by decide +kernel
theorem dX7_cast_75 : decode cX7_cast 75 = .ok (.iconst 3, 1) := by decide +kernel
theorem dX7_cast_76 : decode cX7_cast 76 = .ok (.invokevirtual 101, 3) := by decide +kernel
theorem dX7_cast_79 : decode cX7_cast 79 = .ok (.iload 5, 2) := by decide +kernel
theorem dX7_cast_81 : decode cX7_cast 81 = .ok (.if_icmp .le 8, 3) := by decide +kernel
theorem dX7_cast_84 : decode cX7_cast 84 = .ok (.iload 6, 2) := by decide +kernel
theorem dX7_cast_86 : decode cX7_cast 86 = .ok (.goto 5, 3) := by decide +kernel
theorem dX7_cast_89 : decode cX7_cast 89 = .ok (.iload 4, 2) := by decide +kernel
theorem dX7_cast_91 : decode cX7_cast 91 = .ok (.istore 4, 2) := by decide +kernel
theorem dX7_cast_93 : decode cX7_cast 93 = .ok (.aload_n 0, 1) := by decide +kernel
theorem dX7_cast_94 : decode cX7_cast 94 = .ok (.iload_n 1, 1) := by decide +kernel
theorem dX7_cast_95 : decode cX7_cast 95 = .ok (.iconst 3, 1) := by decide +kernel
theorem dX7_cast_96 : decode cX7_cast 96 = .ok (.invokevirtual 101, 3) := by decide +kernel
theorem dX7_cast_99 : decode cX7_cast 99 = .ok (.iload 5, 2) := by decide +kernel
theorem dX7_cast_101 : decode cX7_cast 101 = .ok (.if_icmp .le 12, 3) := by decide +kernel
theorem dX7_cast_104 : decode cX7_cast 104 = .ok (.aload_n 0, 1) := by decide +kernel
theorem dX7_cast_105 : decode cX7_cast 105 = .ok (.iload_n 1, 1) := by decide +kernel
theorem dX7_cast_106 : decode cX7_cast 106 = .ok (.iconst 3, 1) := by decide +kernel
theorem dX7_cast_107 : decode cX7_cast 107 = .ok (.invokevirtual 101, 3) := by decide +kernel
theorem dX7_cast_110 : decode cX7_cast 110 = .ok (.goto 5, 3) := by decide +kernel
theorem dX7_cast_113 : decode cX7_cast 113 = .ok (.iload 5, 2) := by decide +kernel
theorem dX7_cast_115 : decode cX7_cast 115 = .ok (.istore 5, 2) := by decide +kernel
theorem dX7_cast_117 : decode cX7_cast 117 = .ok (.aload_n 0, 1) := by decide +kernel
theorem dX7_cast_118 : decode cX7_cast 118 = .ok (.getfield 16, 3) := by decide +kernel
theorem dX7_cast_121 : decode cX7_cast 121 = .ok (.aload_n 0, 1) := by decide +kernel
theorem dX7_cast_122 : decode cX7_cast 122 = .ok (.getfield 7, 3) := by decide +kernel
theorem dX7_cast_125 : decode cX7_cast 125 = .ok (.invokestatic 200, 3) := by decide +kernel
theorem dX7_cast_128 : decode cX7_cast 128 = .ok (.iinc 6 1, 3) := by decide +kernel
theorem dX7_cast_131 : decode cX7_cast 131 = .ok (.goto (-78), 3) := by decide +kernel
theorem dX7_cast_134 : decode cX7_cast 134 = .ok (.iload_n 3, 1) := by decide +kernel
theorem dX7_cast_135 : decode cX7_cast 135 = .ok (.ifCond .ne 8, 3) := by decide +kernel
theorem dX7_cast_138 : decode cX7_cast 138 = .ok (.iload 4, 2) := by decide +kernel
theorem dX7_cast_140 : decode cX7_cast 140 = .ok (.goto 5, 3) := by decide +kernel
theorem dX7_cast_143 : decode cX7_cast 143 = .ok (.iload 5, 2) := by decide +kernel
theorem dX7_cast_145 : decode cX7_cast 145 = .ok (.ireturn, 1) := by decide +kernel
theorem dX7_becomes_0 : decode cX7_becomes 0 = .ok (.aload_n 0, 1) := by decide +kernel
theorem dX7_becomes_1 : decode cX7_becomes 1 = .ok (.iload_n 1, 1) := by decide +kernel
theorem dX7_becomes_2 : decode cX7_becomes 2 = .ok (.invokevirtual 157, 3) := by decide +kernel
theorem dX7_becomes_5 : decode cX7_becomes 5 = .ok (.ifCond .eq 25, 3) := by decide +kernel
theorem dX7_becomes_8 : decode cX7_becomes 8 = .ok (.iload_n 2, 1) := by decide +kernel
theorem dX7_becomes_9 : decode cX7_becomes 9 = .ok (.i2l, 1) := by decide +kernel
theorem dX7_becomes_10 : decode cX7_becomes 10 = .ok (.lconst 1, 1) := by decide +kernel
theorem dX7_becomes_11 : decode cX7_becomes 11 = .ok (.ldc2_w 213, 3) := by decide +kernel
theorem dX7_becomes_14 : decode cX7_becomes 14 = .ok (.invokestatic 86, 3) := by decide +kernel
theorem dX7_becomes_17 : decode cX7_becomes 17 = .ok (.ifCond .eq 13, 3) := by decide +kernel
theorem dX7_becomes_20 : decode cX7_becomes 20 = .ok (.iload_n 3, 1) := by decide +kernel
theorem dX7_becomes_21 : decode cX7_becomes 21 = .ok (.i2l, 1) := by decide +kernel
theorem dX7_becomes_22 : decode cX7_becomes 22 = .ok (.lconst 0, 1) := by decide +kernel
theorem dX7_becomes_23 : decode cX7_becomes 23 = .ok (.lconst 1, 1) := by decide +kernel
theorem dX7_becomes_24 : decode cX7_becomes 24 = .ok (.invokestatic 86, 3) := by decide +kernel
theorem dX7_becomes_27 : decode cX7_becomes 27 = .ok (.ifCond .ne 6, 3) := by decide +kernel
theorem dX7_becomes_30 : decode cX7_becomes 30 = .ok (.ldc 155, 2) := by decide +kernel
theorem dX7_becomes_32 : decode cX7_becomes 32 = .ok (.ireturn, 1) := by decide +kernel
theorem dX7_becomes_33 : decode cX7_becomes 33 = .ok (.aload_n 0, 1) := by decide +kernel
theorem dX7_becomes_34 : decode cX7_becomes 34 = .ok (.getfield 7, 3) := by decide +kernel
theorem dX7_becomes_37 : decode cX7_becomes 37 = .ok (.aload_n 0, 1) := by decide +kernel
theorem dX7_becomes_38 : decode cX7_becomes 38 = .ok (.getfield 16, 3) := by decide +kernel
theorem dX7_becomes_41 : decode cX7_becomes 41 = .ok (.invokestatic 200, 3) := by decide +kernel
theorem dX7_becomes_44 : decode cX7_becomes 44 = .ok (.iconst 0, 1) := by decide +kernel
theorem dX7_becomes_45 : decode cX7_becomes 45 = .ok (.istore 4, 2) := by decide +kernel
theorem dX7_becomes_47 : decode cX7_becomes 47 = .ok (.ldc 215, 2) := by decide +kernel
theorem dX7_becomes_49 : decode cX7_becomes 49 = .ok (.istore 5, 2) := by decide +kernel
theorem dX7_becomes_51 : decode cX7_becomes 51 = .ok (.iconst 0, 1) := by decide +kernel
theorem dX7_becomes_52 : decode cX7_becomes 52 = .ok (.istore 6, 2) := by decide +kernel
theorem dX7_becomes_54 : decode cX7_becomes 54 = .ok (.iload 6, 2) := by decide +kernel
theorem dX7_becomes_56 : decode cX7_becomes 56 = .ok (.iconst 5, 1) := by decide +kernel
theorem dX7_becomes_57 : decode cX7_becomes 57 = .ok (.if_icmp .gt 80, 3) := by decide +kernel
theorem dX7_becomes_60 : decode cX7_becomes 60 = .ok (.aload_n 0, 1) := by decide +kernel
theorem dX7_becomes_61 : decode cX7_becomes 61 = .ok (.iload_n 1, 1) := by decide +kernel
theorem dX7_becomes_62 : decode cX7_becomes 62 = .ok (.iconst 0, 1) := by decide +kernel
theorem dX7_becomes_63 : decode cX7_becomes 63 = .ok (.iload 6, 2) := by decide +kernel
theorem dX7_becomes_65 : decode cX7_becomes 65 = .ok (.invokevirtual 125, 3) := by decide +kernel
theorem dX7_becomes_68 : decode cX7_becomes 68 = .ok (.aload_n 0, 1) := by decide +kernel
theorem dX7_becomes_69 : decode cX7_becomes 69 = .ok (.iload_n 2, 1) := by decide +kernel
theorem dX7_becomes_70 : decode cX7_becomes 70 = .ok (.invokevirtual 188, 3) := by decide +kernel
theorem dX7_becomes_73 : decode cX7_becomes 73 = .ok (.aload_n 0, 1) := by decide +kernel
theorem dX7_becomes_74 : decode cX7_becomes 74 = .ok (.getfield 7, 3) := by decide +kernel
theorem dX7_becomes_77 : decode cX7_becomes 77 = .ok (.bipush 6, 2) := by decide +kernel
theorem dX7_becomes_79 : decode cX7_becomes 79 = .ok (.iaload, 1) := by decide +kernel
theorem dX7_becomes_80 : decode cX7_becomes 80 = .ok (.iload 5, 2) := by decide +kernel
theorem dX7_becomes_82 : decode cX7_becomes 82 = .ok (.if_icmp .ge 8, 3) := by decide +kernel
theorem dX7_becomes_85 : decode cX7_becomes 85 = .ok (.iload 6, 2) := by decide +kernel
theorem dX7_becomes_87 : decode cX7_becomes 87 = .ok (.goto 5, 3) := by decide +kernel
theorem dX7_becomes_90 : decode cX7_becomes 90 = .ok (.iload 4, 2) := by decide +kernel
theorem dX7_becomes_92 : decode cX7_becomes 92 = .ok (.istore 4, 2) := by decide +kernel
theorem dX7_becomes_94 : decode cX7_becomes 94 = .ok (.aload_n 0, 1) := by decide +kernel
theorem dX7_becomes_95 : decode cX7_becomes 95 = .ok (.getfield 7, 3) := by decide +kernel
theorem dX7_becomes_98 : decode cX7_becomes 98 = .ok (.bipush 6, 2) := by decide +kernel
theorem dX7_becomes_100 : decode cX7_becomes 100 = .ok (.iaload, 1) := by decide +kernel
theorem dX7_becomes_101 : decode cX7_becomes 101 = .ok (.iload 5, 2) := by decide +kernel
theorem dX7_becomes_103 : decode cX7_becomes 103 = .ok (.if_icmp .ge 13, 3) := by decide +kernel
theorem dX7_becomes_106 : decode cX7_becomes 106 = .ok (.aload_n 0, 1) := by decide +kernel
theorem dX7_becomes_107 : decode cX7_becomes 107 = .ok (.getfield 7, 3) := by decide +kernel
theorem dX7_becomes_110 : decode cX7_becomes 110 = .ok (.bipush 6, 2) := by decide +kernel
theorem dX7_becomes_112 : decode cX7_becomes 112 = .ok (.iaload, 1) := by decide +kernel
theorem dX7_becomes_113 : decode cX7_becomes 113 = .ok (.goto 5, 3) := by decide +kernel
theorem dX7_becomes_116 : decode cX7_becomes 116 = .ok (.iload 5, 2) := by decide +kernel
theorem dX7_becomes_118 : decode cX7_becomes 118 = .ok (.istore 5, 2) := by decide +kernel
theorem dX7_becomes_120 : decode cX7_becomes 120 = .ok (.aload_n 0, 1) := by decide +kernel
theorem dX7_becomes_121 : decode cX7_becomes 121 = .ok (.getfield 16, 3) := by decide +kernel
theorem dX7_becomes_124 : decode cX7_becomes 124 = .ok (.aload_n 0, 1) := by decide +kernel
theorem dX7_becomes_125 : decode cX7_becomes 125 = .ok (.getfield 7, 3) := by decide +kernel
theorem dX7_becomes_128 : decode cX7_becomes 128 = .ok (.invokestatic 200, 3) := by decide +kernel
theorem dX7_becomes_131 : decode cX7_becomes 131 = .ok (.iinc 6 1, 3) := by decide +kernel
theorem dX7_becomes_134 : decode cX7_becomes 134 = .ok (.goto (-80), 3) := by decide +kernel
theorem dX7_becomes_137 : decode cX7_becomes 137 = .ok (.iload_n 3, 1) := by decide +kernel
theorem dX7_becomes_138 : decode cX7_becomes 138 = .ok (.ifCond .ne 8, 3) := by decide +kernel
theorem dX7_becomes_141 : decode cX7_becomes 141 = .ok (.iload 4, 2) := by decide +kernel
theorem dX7_becomes_143 : decode cX7_becomes 143 = .ok (.goto 5, 3) := by decide +kernel
theorem dX7_becomes_146 : decode cX7_becomes 146 = .ok (.iload 5, 2) := by decide +kernel
theorem dX7_becomes_148 : decode cX7_becomes 148 = .ok (.ireturn, 1) := by decide +kernel
theorem dX7_ears_0 : decode cX7_ears 0 = .ok (.iload_n 1, 1) := by decide +kernel
theorem dX7_ears_1 : decode cX7_ears 1 = .ok (.i2l, 1) := by decide +kernel
theorem dX7_ears_2 : decode cX7_ears 2 = .ok (.lconst 0, 1) := by decide +kernel
theorem dX7_ears_3 : decode cX7_ears 3 = .ok (.ldc2_w 213, 3) := by decide +kernel
theorem dX7_ears_6 : decode cX7_ears 6 = .ok (.invokestatic 86, 3) := by decide +kernel
theorem dX7_ears_9 : decode cX7_ears 9 = .ok (.ifCond .eq 15, 3) := by decide +kernel
theorem dX7_ears_12 : decode cX7_ears 12 = .ok (.iload_n 2, 1) := by decide +kernel
theorem dX7_ears_13 : decode cX7_ears 13 = .ok (.i2l, 1) := by decide +kernel
theorem dX7_ears_14 : decode cX7_ears 14 = .ok (.lconst 0, 1) := by decide +kernel
theorem dX7_ears_15 : decode cX7_ears 15 = .ok (.ldc2_w 216, 3) := by decide +kernel
theorem dX7_ears_18 : decode cX7_ears 18 = .ok (.invokestatic 86, 3) := by decide +kernel
theorem dX7_ears_21 : decode cX7_ears 21 = .ok (.ifCond .ne 6, 3) := by decide +kernel
theorem dX7_ears_24 : decode cX7_ears 24 = .ok (.ldc 155, 2) := by decide +kernel
theorem dX7_ears_26 : decode cX7_ears 26 = .ok (.ireturn, 1) := by decide +kernel
theorem dX7_ears_27 : decode cX7_ears 27 = .ok (.aload_n 0, 1) := by decide +kernel
theorem dX7_ears_28 : decode cX7_ears 28 = .ok (.getfield 7, 3) := by decide +kernel
theorem dX7_ears_31 : decode cX7_ears 31 = .ok (.aload_n 0, 1) := by decide +kernel
theorem dX7_ears_32 : decode cX7_ears 32 = .ok (.getfield 16, 3) := by decide +kernel
theorem dX7_ears_35 : decode cX7_ears 35 = .ok (.invokestatic 200, 3) := by decide +kernel
theorem dX7_ears_38 : decode cX7_ears 38 = .ok (.ldc 150, 2) := by decide +kernel
theorem dX7_ears_40 : decode cX7_ears 40 = .ok (.istore_n 3, 1) := by decide +kernel
theorem dX7_ears_41 : decode cX7_ears 41 = .ok (.bipush 99, 2) := by decide +kernel
theorem dX7_ears_43 : decode cX7_ears 43 = .ok (.istore 4, 2) := by decide +kernel
theorem dX7_ears_45 : decode cX7_ears 45 = .ok (.iload 4, 2) := by decide +kernel
theorem dX7_ears_47 : decode cX7_ears 47 = .ok (.ifCond .lt 51, 3) := by decide +kernel
theorem dX7_ears_50 : decode cX7_ears 50 = .ok (.aload_n 0, 1) := by decide +kernel
theorem dX7_ears_51 : decode cX7_ears 51 = .ok (.getfield 7, 3) := by decide +kernel
theorem dX7_ears_54 : decode cX7_ears 54 = .ok (.iconst 2, 1) := by decide +kernel
theorem dX7_ears_55 : decode cX7_ears 55 = .ok (.iload 4, 2) := by decide +kernel
theorem dX7_ears_57 : decode cX7_ears 57 = .ok (.iastore, 1) := by decide +kernel
theorem dX7_ears_58 : decode cX7_ears 58 = .ok (.aload_n 0, 1) := by decide +kernel
theorem dX7_ears_59 : decode cX7_ears 59 = .ok (.iload_n 1, 1) := by decide +kernel
theorem dX7_ears_60 : decode cX7_ears 60 = .ok (.invokevirtual 188, 3) := by decide +kernel
theorem dX7_ears_63 : decode cX7_ears 63 = .ok (.aload_n 0, 1) := by decide +kernel
theorem dX7_ears_64 : decode cX7_ears 64 = .ok (.getfield 7, 3) := by decide +kernel
theorem dX7_ears_67 : decode cX7_ears 67 = .ok (.bipush 6, 2) := by decide +kernel
theorem dX7_ears_69 : decode cX7_ears 69 = .ok (.iaload, 1) := by decide +kernel
theorem dX7_ears_70 : decode cX7_ears 70 = .ok (.iload_n 2, 1) := by decide +kernel
theorem dX7_ears_71 : decode cX7_ears 71 = .ok (.if_icmp .gt 8, 3) := by decide +kernel
theorem dX7_ears_74 : decode cX7_ears 74 = .ok (.iload 4, 2) := by decide +kernel
theorem dX7_ears_76 : decode cX7_ears 76 = .ok (.goto 4, 3) := by decide +kernel
theorem dX7_ears_79 : decode cX7_ears 79 = .ok (.iload_n 3, 1) := by decide +kernel
theorem dX7_ears_80 : decode cX7_ears 80 = .ok (.istore_n 3, 1) := by decide +kernel
theorem dX7_ears_81 : decode cX7_ears 81 = .ok (.aload_n 0, 1) := by decide +kernel
theorem dX7_ears_82 : decode cX7_ears 82 = .ok (.getfield 16, 3) := by decide +kernel
theorem dX7_ears_85 : decode cX7_ears 85 = .ok (.aload_n 0, 1) := by decide +kernel
theorem dX7_ears_86 : decode cX7_ears 86 = .ok (.getfield 7, 3) := by decide +kernel
theorem dX7_ears_89 : decode cX7_ears 89 = .ok (.invokestatic 200, 3) := by decide +kernel
theorem dX7_ears_92 : decode cX7_ears 92 = .ok (.iinc 4 (-1), 3) := by decide +kernel
theorem dX7_ears_95 : decode cX7_ears 95 = .ok (.goto (-50), 3) := by decide +kernel
theorem dX7_ears_98 : decode cX7_ears 98 = .ok (.iload_n 3, 1) := by decide +kernel
theorem dX7_ears_99 : decode cX7_ears 99 = .ok (.ireturn, 1) := by decide +kernel
theorem dX7_like_0 : decode cX7_like 0 = .ok (.iload_n 1, 1) := by decide +kernel
theorem dX7_like_1 : decode cX7_like 1 = .ok (.invokestatic 218, 3) := by decide +kernel
theorem dX7_like_4 : decode cX7_like 4 = .ok (.ifCond .eq 13, 3) := by decide +kernel
theorem dX7_like_7 : decode cX7_like 7 = .ok (.iload_n 2, 1) := by decide +kernel
theorem dX7_like_8 : decode cX7_like 8 = .ok (.i2l, 1) := by decide +kernel
theorem dX7_like_9 : decode cX7_like 9 = .ok (.lconst 0, 1) := by decide +kernel
theorem dX7_like_10 : decode cX7_like 10 = .ok (.lconst 1, 1) := by decide +kernel
theorem dX7_like_11 : decode cX7_like 11 = .ok (.invokestatic 86, 3) := by decide +kernel
theorem dX7_like_14 : decode cX7_like 14 = .ok (.ifCond .ne 6, 3) := by decide +kernel
theorem dX7_like_17 : decode cX7_like 17 = .ok (.ldc 155, 2) := by decide +kernel
theorem dX7_like_19 : decode cX7_like 19 = .ok (.ireturn, 1) := by decide +kernel
theorem dX7_like_20 : decode cX7_like 20 = .ok (.aload_n 0, 1) := by decide +kernel
theorem dX7_like_21 : decode cX7_like 21 = .ok (.getfield 43, 3) := by decide +kernel
theorem dX7_like_24 : decode cX7_like 24 = .ok (.iload_n 1, 1) := by decide +kernel
theorem dX7_like_25 : decode cX7_like 25 = .ok (.iaload, 1) := by decide +kernel
theorem dX7_like_26 : decode cX7_like 26 = .ok (.ifCond .ge 6, 3) := by decide +kernel
theorem dX7_like_29 : decode cX7_like 29 = .ok (.ldc 221, 2) := by decide +kernel
theorem dX7_like_31 : decode cX7_like 31 = .ok (.ireturn, 1) := by decide +kernel
theorem dX7_like_32 : decode cX7_like 32 = .ok (.aload_n 0, 1) := by decide +kernel
theorem dX7_like_33 : decode cX7_like 33 = .ok (.getfield 7, 3) := by decide +kernel
theorem dX7_like_36 : decode cX7_like 36 = .ok (.iconst 0, 1) := by decide +kernel
theorem dX7_like_37 : decode cX7_like 37 = .ok (.iaload, 1) := by decide +kernel
theorem dX7_like_38 : decode cX7_like 38 = .ok (.ifCond .ne 6, 3) := by decide +kernel
theorem dX7_like_41 : decode cX7_like 41 = .ok (.ldc 150, 2) := by decide +kernel
theorem dX7_like_43 : decode cX7_like 43 = .ok (.ireturn, 1) := by decide +kernel
theorem dX7_like_44 : decode cX7_like 44 = .ok (.iconst 0, 1) := by decide +kernel
theorem dX7_like_45 : decode cX7_like 45 = .ok (.istore_n 3, 1) := by decide +kernel
theorem dX7_like_46 : decode cX7_like 46 = .ok (.iload_n 3, 1) := by decide +kernel
theorem dX7_like_47 : decode cX7_like 47 = .ok (.bipush 10, 2) := by decide +kernel
theorem dX7_like_49 : decode cX7_like 49 = .ok (.if_icmp .ge 16, 3) := by decide +kernel
theorem dX7_like_52 : decode cX7_like 52 = .ok (.aload_n 0, 1) := by decide +kernel
theorem dX7_like_53 : decode cX7_like 53 = .ok (.getfield 56, 3) := by decide +kernel
theorem dX7_like_56 : decode cX7_like 56 = .ok (.iload_n 3, 1) := by decide +kernel
theorem dX7_like_57 : decode cX7_like 57 = .ok (.iconst 0, 1) := by decide +kernel
theorem dX7_like_58 : decode cX7_like 58 = .ok (.iastore, 1) := by decide +kernel
theorem dX7_like_59 : decode cX7_like 59 = .ok (.iinc 3 1, 3) := by decide +kernel
theorem dX7_like_62 : decode cX7_like 62 = .ok (.goto (-16), 3) := by decide +kernel
theorem dX7_like_65 : decode cX7_like 65 = .ok (.aload_n 0, 1) := by decide +kernel
theorem dX7_like_66 : decode cX7_like 66 = .ok (.getfield 7, 3) := by decide +kernel
theorem dX7_like_69 : decode cX7_like 69 = .ok (.aload_n 0, 1) := by decide +kernel
theorem dX7_like_70 : decode cX7_like 70 = .ok (.getfield 16, 3) := by decide +kernel
theorem dX7_like_73 : decode cX7_like 73 = .ok (.invokestatic 200, 3) := by decide +kernel
theorem dX7_like_76 : decode cX7_like 76 = .ok (.iconst 0, 1) := by decide +kernel
theorem dX7_like_77 : decode cX7_like 77 = .ok (.istore_n 3, 1) := by decide +kernel
theorem dX7_like_78 : decode cX7_like 78 = .ok (.iload_n 3, 1) := by decide +kernel
theorem dX7_like_79 : decode cX7_like 79 = .ok (.aload_n 0, 1) := by decide +kernel
theorem dX7_like_80 : decode cX7_like 80 = .ok (.getfield 46, 3) := by decide +kernel
theorem dX7_like_83 : decode cX7_like 83 = .ok (.iload_n 1, 1) := by decide +kernel
theorem dX7_like_84 : decode cX7_like 84 = .ok (.iaload, 1) := by decide +kernel
theorem dX7_like_85 : decode cX7_like 85 = .ok (.if_icmp .ge 79, 3) := by decide +kernel
theorem dX7_like_88 : decode cX7_like 88 = .ok (.iconst 0, 1) := by decide +kernel
theorem dX7_like_89 : decode cX7_like 89 = .ok (.istore 4, 2) := by decide +kernel
theorem dX7_like_91 : decode cX7_like 91 = .ok (.iload 4, 2) := by decide +kernel
theorem dX7_like_93 : decode cX7_like 93 = .ok (.aload_n 0, 1) := by decide +kernel
theorem dX7_like_94 : decode cX7_like 94 = .ok (.getfield 7, 3) := by decide +kernel
theorem dX7_like_97 : decode cX7_like 97 = .ok (.iconst 0, 1) := by decide +kernel
theorem dX7_like_98 : decode cX7_like 98 = .ok (.iaload, 1) := by decide +kernel
theorem dX7_like_99 : decode cX7_like 99 = .ok (.if_icmp .ge 55, 3) := by decide +kernel
theorem dX7_like_102 : decode cX7_like 102 = .ok (.aload_n 0, 1) := by decide +kernel
theorem dX7_like_103 : decode cX7_like 103 = .ok (.getfield 52, 3) := by decide +kernel
theorem dX7_like_106 : decode cX7_like 106 = .ok (.bipush 24, 2) := by decide +kernel
theorem dX7_like_108 : decode cX7_like 108 = .ok (.iload_n 1, 1) := by decide +kernel
theorem dX7_like_109 : decode cX7_like 109 = .ok (.imul, 1) := by decide +kernel
theorem dX7_like_110 : decode cX7_like 110 = .ok (.iload_n 3, 1) := by decide +kernel
theorem dX7_like_111 : decode cX7_like 111 = .ok (.iadd, 1) := by decide +kernel
theorem dX7_like_112 : decode cX7_like 112 = .ok (.baload, 1) := by decide +kernel
theorem dX7_like_113 : decode cX7_like 113 = .ok (.ifCond .eq 41, 3) := by decide +kernel
theorem dX7_like_116 : decode cX7_like 116 = .ok (.aload_n 0, 1) := by decide +kernel
theorem dX7_like_117 : decode cX7_like 117 = .ok (.getfield 56, 3) := by decide +kernel
theorem dX7_like_120 : decode cX7_like 120 = .ok (.iload 4, 2) := by decide +kernel
theorem dX7_like_122 : decode cX7_like 122 = .ok (.dup2, 1) := by decide +kernel
theorem dX7_like_123 : decode cX7_like 123 = .ok (.iaload, 1) := by decide +kernel
theorem dX7_like_124 : decode cX7_like 124 = .ok (.aload_n 0, 1) := by decide +kernel
theorem dX7_like_125 : decode cX7_like 125 = .ok (.iload 4, 2) := by decide +kernel
theorem dX7_like_127 : decode cX7_like 127 = .ok (.iconst 3, 1) := by decide +kernel
theorem dX7_like_128 : decode cX7_like 128 = .ok (.invokevirtual 101, 3) := by decide +kernel
theorem dX7_like_131 : decode cX7_like 131 = .ok (.aload_n 0, 1) := by decide +kernel
theorem dX7_like_132 : decode cX7_like 132 = .ok (.getfield 49, 3) := by decide +kernel
theorem dX7_like_135 : decode cX7_like 135 = .ok (.bipush 24, 2) := by decide +kernel
theorem dX7_like_137 : decode cX7_like 137 = .ok (.iload_n 1, 1) := by decide +kernel
theorem dX7_like_138 : decode cX7_like 138 = .ok (.imul, 1) := by decide +kernel
theorem dX7_like_139 : decode cX7_like 139 = .ok (.iload_n 3, 1) := by decide +kernel
theorem dX7_like_140 : decode cX7_like 140 = .ok (.iadd, 1) := by decide +kernel
theorem dX7_like_141 : decode cX7_like 141 = .ok (.iaload, 1) := by decide +kernel
theorem dX7_like_142 : decode cX7_like 142 = .ok (.isub, 1) := by decide +kernel
theorem dX7_like_143 : decode cX7_like 143 = .ok (.invokestatic 105, 3) := by decide +kernel
theorem dX7_like_146 : decode cX7_like 146 = .ok (.iadd, 1) := by decide +kernel
theorem dX7_like_147 : decode cX7_like 147 = .ok (.iastore, 1) := by decide +kernel
theorem dX7_like_148 : decode cX7_like 148 = .ok (.iinc 4 1, 3) := by decide +kernel
theorem dX7_like_151 : decode cX7_like 151 = .ok (.goto (-60), 3) := by decide +kernel
theorem dX7_like_154 : decode cX7_like 154 = .ok (.aload_n 0, 1) := by decide +kernel
theorem dX7_like_155 : decode cX7_like 155 = .ok (.invokevirtual 147, 3) := by decide +kernel
theorem dX7_like_158 : decode cX7_like 158 = .ok (.iinc 3 1, 3) := by decide +kernel
theorem dX7_like_161 : decode cX7_like 161 = .ok (.goto (-83), 3) := by decide +kernel
theorem dX7_like_164 : decode cX7_like 164 = .ok (.aload_n 0, 1) := by decide +kernel
theorem dX7_like_165 : decode cX7_like 165 = .ok (.getfield 16, 3) := by decide +kernel
theorem dX7_like_168 : decode cX7_like 168 = .ok (.aload_n 0, 1) := by decide +kernel
theorem dX7_like_169 : decode cX7_like 169 = .ok (.getfield 7, 3) := by decide +kernel
theorem dX7_like_172 : decode cX7_like 172 = .ok (.invokestatic 200, 3) := by decide +kernel
theorem dX7_like_175 : decode cX7_like 175 = .ok (.iconst 0, 1) := by decide +kernel
theorem dX7_like_176 : decode cX7_like 176 = .ok (.istore_n 3, 1) := by decide +kernel
theorem dX7_like_177 : decode cX7_like 177 = .ok (.iconst 1, 1) := by decide +kernel
theorem dX7_like_178 : decode cX7_like 178 = .ok (.istore 4, 2) := by decide +kernel
theorem dX7_like_180 : decode cX7_like 180 = .ok (.iload 4, 2) := by decide +kernel
theorem dX7_like_182 : decode cX7_like 182 = .ok (.aload_n 0, 1) := by decide +kernel
theorem dX7_like_183 : decode cX7_like 183 = .ok (.getfield 7, 3) := by decide +kernel
theorem dX7_like_186 : decode cX7_like 186 = .ok (.iconst 0, 1) := by decide +kernel
theorem dX7_like_187 : decode cX7_like 187 = .ok (.iaload, 1) := by decide +kernel
theorem dX7_like_188 : decode cX7_like 188 = .ok (.if_icmp .ge 32, 3) := by decide +kernel
theorem dX7_like_191 : decode cX7_like 191 = .ok (.aload_n 0, 1) := by decide +kernel
theorem dX7_like_192 : decode cX7_like 192 = .ok (.getfield 56, 3) := by decide +kernel
theorem dX7_like_195 : decode cX7_like 195 = .ok (.iload 4, 2) := by decide +kernel
theorem dX7_like_197 : decode cX7_like 197 = .ok (.iaload, 1) := by decide +kernel
theorem dX7_like_198 : decode cX7_like 198 = .ok (.aload_n 0, 1) := by decide +kernel
theorem dX7_like_199 : decode cX7_like 199 = .ok (.getfield 56, 3) := by decide +kernel
theorem dX7_like_202 : decode cX7_like 202 = .ok (.iload_n 3, 1) := by decide +kernel
theorem dX7_like_203 : decode cX7_like 203 = .ok (.iaload, 1) := by decide +kernel
theorem dX7_like_204 : decode cX7_like 204 = .ok (.if_icmp .ge 8, 3) := by decide +kernel
theorem dX7_like_207 : decode cX7_like 207 = .ok (.iload 4, 2) := by decide +kernel
theorem dX7_like_209 : decode cX7_like 209 = .ok (.goto 4, 3) := by decide +kernel
theorem dX7_like_212 : decode cX7_like 212 = .ok (.iload_n 3, 1) := by decide +kernel
theorem dX7_like_213 : decode cX7_like 213 = .ok (.istore_n 3, 1) := by decide +kernel
theorem dX7_like_214 : decode cX7_like 214 = .ok (.iinc 4 1, 3) := by decide +kernel
theorem dX7_like_217 : decode cX7_like 217 = .ok (.goto (-37), 3) := by decide +kernel
theorem dX7_like_220 : decode cX7_like 220 = .ok (.iload_n 2, 1) := by decide +kernel
theorem dX7_like_221 : decode cX7_like 221 = .ok (.ifCond .ne 7, 3) := by decide +kernel
theorem dX7_like_224 : decode cX7_like 224 = .ok (.iload_n 3, 1) := by decide +kernel
theorem dX7_like_225 : decode cX7_like 225 = .ok (.goto 9, 3) := by decide +kernel
theorem dX7_like_228 : decode cX7_like 228 = .ok (.aload_n 0, 1) := by decide +kernel
theorem dX7_like_229 : decode cX7_like 229 = .ok (.getfield 56, 3) := by decide +kernel
theorem dX7_like_232 : decode cX7_like 232 = .ok (.iload_n 3, 1) := by decide +kernel
theorem dX7_like_233 : decode cX7_like 233 = .ok (.iaload, 1) := by decide +kernel
theorem dX7_like_234 : decode cX7_like 234 = .ok (.ireturn, 1) := by decide +kernel
theorem dX7_fee_0 : decode cX7_fee 0 = .ok (.aload_n 0, 1) := by decide +kernel
theorem dX7_fee_1 : decode cX7_fee 1 = .ok (.iconst 1, 1) := by decide +kernel
theorem dX7_fee_2 : decode cX7_fee 2 = .ok (.invokevirtual 98, 3) := by decide +kernel
theorem dX7_fee_5 : decode cX7_fee 5 = .ok (.istore_n 1, 1) := by decide +kernel
theorem dX7_fee_6 : decode cX7_fee 6 = .ok (.iload_n 1, 1) := by decide +kernel
theorem dX7_fee_7 : decode cX7_fee 7 = .ok (.ifCond .ge 13, 3) := by decide +kernel
theorem dX7_fee_10 : decode cX7_fee 10 = .ok (.aload_n 0, 1) := by decide +kernel
theorem dX7_fee_11 : decode cX7_fee 11 = .ok (.getfield 7, 3) := by decide +kernel
theorem dX7_fee_14 : decode cX7_fee 14 = .ok (.bipush 6, 2) := by decide +kernel
theorem dX7_fee_16 : decode cX7_fee 16 = .ok (.iaload, 1) := by decide +kernel
theorem dX7_fee_17 : decode cX7_fee 17 = .ok (.goto 24, 3) := by decide +kernel
theorem dX7_fee_20 : decode cX7_fee 20 = .ok (.aload_n 0, 1) := by decide +kernel
theorem dX7_fee_21 : decode cX7_fee 21 = .ok (.iload_n 1, 1) := by decide +kernel
theorem dX7_fee_22 : decode cX7_fee 22 = .ok (.aload_n 0, 1) := by decide +kernel
theorem dX7_fee_23 : decode cX7_fee 23 = .ok (.getfield 7, 3) := by decide +kernel
theorem dX7_fee_26 : decode cX7_fee 26 = .ok (.bipush 6, 2) := by decide +kernel
theorem dX7_fee_28 : decode cX7_fee 28 = .ok (.iaload, 1) := by decide +kernel
theorem dX7_fee_29 : decode cX7_fee 29 = .ok (.aload_n 0, 1) := by decide +kernel
theorem dX7_fee_30 : decode cX7_fee 30 = .ok (.getfield 7, 3) := by decide +kernel
theorem dX7_fee_33 : decode cX7_fee 33 = .ok (.bipush 7, 2) := by decide +kernel
theorem dX7_fee_35 : decode cX7_fee 35 = .ok (.iaload, 1) := by decide +kernel
theorem dX7_fee_36 : decode cX7_fee 36 = .ok (.iconst 0, 1) := by decide +kernel
theorem dX7_fee_37 : decode cX7_fee 37 = .ok (.iconst 0, 1) := by decide +kernel
theorem dX7_fee_38 : decode cX7_fee 38 = .ok (.invokevirtual 108, 3) := by decide +kernel
theorem dX7_fee_41 : decode cX7_fee 41 = .ok (.ireturn, 1) := by decide +kernel
theorem dX7_fine_0 : decode cX7_fine 0 = .ok (.aload_n 0, 1) := by decide +kernel
theorem dX7_fine_1 : decode cX7_fine 1 = .ok (.iload_n 1, 1) := by decide +kernel
theorem dX7_fine_2 : decode cX7_fine 2 = .ok (.invokevirtual 157, 3) := by decide +kernel
theorem dX7_fine_5 : decode cX7_fine 5 = .ok (.ifCond .ne 6, 3) := by decide +kernel
theorem dX7_fine_8 : decode cX7_fine 8 = .ok (.ldc 155, 2) := by decide +kernel
theorem dX7_fine_10 : decode cX7_fine 10 = .ok (.ireturn, 1) := by decide +kernel
theorem dX7_fine_11 : decode cX7_fine 11 = .ok (.aload_n 0, 1) := by decide +kernel
theorem dX7_fine_12 : decode cX7_fine 12 = .ok (.iconst 2, 1) := by decide +kernel
theorem dX7_fine_13 : decode cX7_fine 13 = .ok (.invokevirtual 98, 3) := by decide +kernel
theorem dX7_fine_16 : decode cX7_fine 16 = .ok (.istore_n 2, 1) := by decide +kernel
theorem dX7_fine_17 : decode cX7_fine 17 = .ok (.iload_n 2, 1) := by decide +kernel
theorem dX7_fine_18 : decode cX7_fine 18 = .ok (.ifCond .ge 12, 3) := by decide +kernel
theorem dX7_fine_21 : decode cX7_fine 21 = .ok (.aload_n 0, 1) := by decide +kernel
theorem dX7_fine_22 : decode cX7_fine 22 = .ok (.iload_n 1, 1) := by decide +kernel
theorem dX7_fine_23 : decode cX7_fine 23 = .ok (.iconst 3, 1) := by decide +kernel
theorem dX7_fine_24 : decode cX7_fine 24 = .ok (.invokevirtual 101, 3) := by decide +kernel
theorem dX7_fine_27 : decode cX7_fine 27 = .ok (.goto 22, 3) := by decide +kernel
theorem dX7_fine_30 : decode cX7_fine 30 = .ok (.aload_n 0, 1) := by decide +kernel
theorem dX7_fine_31 : decode cX7_fine 31 = .ok (.iload_n 2, 1) := by decide +kernel
theorem dX7_fine_32 : decode cX7_fine 32 = .ok (.aload_n 0, 1) := by decide +kernel
theorem dX7_fine_33 : decode cX7_fine 33 = .ok (.iload_n 1, 1) := by decide +kernel
theorem dX7_fine_34 : decode cX7_fine 34 = .ok (.iconst 1, 1) := by decide +kernel
theorem dX7_fine_35 : decode cX7_fine 35 = .ok (.invokevirtual 101, 3) := by decide +kernel
theorem dX7_fine_38 : decode cX7_fine 38 = .ok (.aload_n 0, 1) := by decide +kernel
theorem dX7_fine_39 : decode cX7_fine 39 = .ok (.iload_n 1, 1) := by decide +kernel
theorem dX7_fine_40 : decode cX7_fine 40 = .ok (.iconst 3, 1) := by decide +kernel
theorem dX7_fine_41 : decode cX7_fine 41 = .ok (.invokevirtual 101, 3) := by decide +kernel
theorem dX7_fine_44 : decode cX7_fine 44 = .ok (.iconst 0, 1) := by decide +kernel
theorem dX7_fine_45 : decode cX7_fine 45 = .ok (.iconst 0, 1) := by decide +kernel
theorem dX7_fine_46 : decode cX7_fine 46 = .ok (.invokevirtual 108, 3) := by decide +kernel
theorem dX7_fine_49 : decode cX7_fine 49 = .ok (.ireturn, 1) := by decide +kernel
theorem dX7_feed_0 : decode cX7_feed 0 = .ok (.aload_n 0, 1) := by decide +kernel
theorem dX7_feed_1 : decode cX7_feed 1 = .ok (.getfield 222, 3) := by decide +kernel
theorem dX7_feed_4 : decode cX7_feed 4 = .ok (.bipush 12, 2) := by decide +kernel
theorem dX7_feed_6 : decode cX7_feed 6 = .ok (.iadd, 1) := by decide +kernel
theorem dX7_feed_7 : decode cX7_feed 7 = .ok (.bipush 96, 2) := by decide +kernel
theorem dX7_feed_9 : decode cX7_feed 9 = .ok (.if_icmp .le 6, 3) := by decide +kernel
theorem dX7_feed_12 : decode cX7_feed 12 = .ok (.ldc 156, 2) := by decide +kernel
theorem dX7_feed_14 : decode cX7_feed 14 = .ok (.ireturn, 1) := by decide +kernel
theorem dX7_feed_15 : decode cX7_feed 15 = .ok (.iconst 0, 1) := by decide +kernel
theorem dX7_feed_16 : decode cX7_feed 16 = .ok (.istore 4, 2) := by decide +kernel
theorem dX7_feed_18 : decode cX7_feed 18 = .ok (.iload 4, 2) := by decide +kernel
theorem dX7_feed_20 : decode cX7_feed 20 = .ok (.bipush 12, 2) := by decide +kernel
theorem dX7_feed_22 : decode cX7_feed 22 = .ok (.if_icmp .ge 69, 3) := by decide +kernel
theorem dX7_feed_25 : decode cX7_feed 25 = .ok (.iload 4, 2) := by decide +kernel
theorem dX7_feed_27 : decode cX7_feed 27 = .ok (.iconst 4, 1) := by decide +kernel
theorem dX7_feed_28 : decode cX7_feed 28 = .ok (.if_icmp .ge 7, 3) := by decide +kernel
theorem dX7_feed_31 : decode cX7_feed 31 = .ok (.iload_n 1, 1) := by decide +kernel
theorem dX7_feed_32 : decode cX7_feed 32 = .ok (.goto 15, 3) := by decide +kernel
theorem dX7_feed_35 : decode cX7_feed 35 = .ok (.iload 4, 2) := by decide +kernel
theorem dX7_feed_37 : decode cX7_feed 37 = .ok (.bipush 8, 2) := by decide +kernel
theorem dX7_feed_39 : decode cX7_feed 39 = .ok (.if_icmp .ge 7, 3) := by decide +kernel
theorem dX7_feed_42 : decode cX7_feed 42 = .ok (.iload_n 2, 1) := by decide +kernel
theorem dX7_feed_43 : decode cX7_feed 43 = .ok (.goto 4, 3) := by decide +kernel
theorem dX7_feed_46 : decode cX7_feed 46 = .ok (.iload_n 3, 1) := by decide +kernel
theorem dX7_feed_47 : decode cX7_feed 47 = .ok (.istore 5, 2) := by decide +kernel
theorem dX7_feed_49 : decode cX7_feed 49 = .ok (.aload_n 0, 1) := by decide +kernel
theorem dX7_feed_50 : decode cX7_feed 50 = .ok (.getfield 37, 3) := by decide +kernel
theorem dX7_feed_53 : decode cX7_feed 53 = .ok (.aload_n 0, 1) := by decide +kernel
theorem dX7_feed_54 : decode cX7_feed 54 = .ok (.getfield 222, 3) := by decide +kernel
theorem dX7_feed_57 : decode cX7_feed 57 = .ok (.iload 5, 2) := by decide +kernel
theorem dX7_feed_59 : decode cX7_feed 59 = .ok (.bipush 24, 2) := by decide +kernel
theorem dX7_feed_61 : decode cX7_feed 61 = .ok (.bipush 8, 2) := by decide +kernel
theorem dX7_feed_63 : decode cX7_feed 63 = .ok (.iload 4, 2) := by decide +kernel
theorem dX7_feed_65 : decode cX7_feed 65 = .ok (.iconst 4, 1) := by decide +kernel
theorem dX7_feed_66 : decode cX7_feed 66 = .ok (.irem, 1) := by decide +kernel
theorem dX7_feed_67 : decode cX7_feed 67 = .ok (.imul, 1) := by decide +kernel
theorem dX7_feed_68 : decode cX7_feed 68 = .ok (.isub, 1) := by decide +kernel
theorem dX7_feed_69 : decode cX7_feed 69 = .ok (.iushr, 1) := by decide +kernel
theorem dX7_feed_70 : decode cX7_feed 70 = .ok (.sipush 255, 3) := by decide +kernel
theorem dX7_feed_73 : decode cX7_feed 73 = .ok (.iand, 1) := by decide +kernel
theorem dX7_feed_74 : decode cX7_feed 74 = .ok (.iastore, 1) := by decide +kernel
theorem dX7_feed_75 : decode cX7_feed 75 = .ok (.aload_n 0, 1) := by decide +kernel
theorem dX7_feed_76 : decode cX7_feed 76 = .ok (.dup, 1) := by decide +kernel
theorem dX7_feed_77 : decode cX7_feed 77 = .ok (.getfield 222, 3) := by decide +kernel
theorem dX7_feed_80 : decode cX7_feed 80 = .ok (.iconst 1, 1) := by decide +kernel
theorem dX7_feed_81 : decode cX7_feed 81 = .ok (.iadd, 1) := by decide +kernel
theorem dX7_feed_82 : decode cX7_feed 82 = .ok (.putfield 222, 3) := by decide +kernel
theorem dX7_feed_85 : decode cX7_feed 85 = .ok (.iinc 4 1, 3) := by decide +kernel
theorem dX7_feed_88 : decode cX7_feed 88 = .ok (.goto (-70), 3) := by decide +kernel
theorem dX7_feed_91 : decode cX7_feed 91 = .ok (.aload_n 0, 1) := by decide +kernel
theorem dX7_feed_92 : decode cX7_feed 92 = .ok (.getfield 222, 3) := by decide +kernel
theorem dX7_feed_95 : decode cX7_feed 95 = .ok (.ireturn, 1) := by decide +kernel
theorem dX7_trim_0 : decode cX7_trim 0 = .ok (.iload_n 1, 1) := by decide +kernel
theorem dX7_trim_1 : decode cX7_trim 1 = .ok (.i2l, 1) := by decide +kernel
theorem dX7_trim_2 : decode cX7_trim 2 = .ok (.lconst 0, 1) := by decide +kernel
theorem dX7_trim_3 : decode cX7_trim 3 = .ok (.aload_n 0, 1) := by decide +kernel
theorem dX7_trim_4 : decode cX7_trim 4 = .ok (.getfield 222, 3) := by decide +kernel
theorem dX7_trim_7 : decode cX7_trim 7 = .ok (.i2l, 1) := by decide +kernel
theorem dX7_trim_8 : decode cX7_trim 8 = .ok (.invokestatic 86, 3) := by decide +kernel
theorem dX7_trim_11 : decode cX7_trim 11 = .ok (.ifCond .ne 6, 3) := by decide +kernel
theorem dX7_trim_14 : decode cX7_trim 14 = .ok (.ldc 155, 2) := by decide +kernel
theorem dX7_trim_16 : decode cX7_trim 16 = .ok (.ireturn, 1) := by decide +kernel
theorem dX7_trim_17 : decode cX7_trim 17 = .ok (.aload_n 0, 1) := by decide +kernel
theorem dX7_trim_18 : decode cX7_trim 18 = .ok (.iload_n 1, 1) := by decide +kernel
theorem dX7_trim_19 : decode cX7_trim 19 = .ok (.putfield 222, 3) := by decide +kernel
theorem dX7_trim_22 : decode cX7_trim 22 = .ok (.iload_n 1, 1) := by decide +kernel
theorem dX7_trim_23 : decode cX7_trim 23 = .ok (.ireturn, 1) := by decide +kernel
theorem dX7_isRow_0 : decode cX7_isRow 0 = .ok (.aload_n 0, 1) := by decide +kernel
theorem dX7_isRow_1 : decode cX7_isRow 1 = .ok (.getfield 226, 3) := by decide +kernel
theorem dX7_isRow_4 : decode cX7_isRow 4 = .ok (.aload_n 0, 1) := by decide +kernel
theorem dX7_isRow_5 : decode cX7_isRow 5 = .ok (.getfield 222, 3) := by decide +kernel
theorem dX7_isRow_8 : decode cX7_isRow 8 = .ok (.if_icmp .ge 27, 3) := by decide +kernel
theorem dX7_isRow_11 : decode cX7_isRow 11 = .ok (.aload_n 0, 1) := by decide +kernel
theorem dX7_isRow_12 : decode cX7_isRow 12 = .ok (.getfield 37, 3) := by decide +kernel
theorem dX7_isRow_15 : decode cX7_isRow 15 = .ok (.aload_n 0, 1) := by decide +kernel
theorem dX7_isRow_16 : decode cX7_isRow 16 = .ok (.getfield 226, 3) := by decide +kernel
theorem dX7_isRow_19 : decode cX7_isRow 19 = .ok (.iaload, 1) := by decide +kernel
theorem dX7_isRow_20 : decode cX7_isRow 20 = .ok (.i2l, 1) := by decide +kernel
theorem dX7_isRow_21 : decode cX7_isRow 21 = .ok (.iload_n 1, 1) := by decide +kernel
theorem dX7_isRow_22 : decode cX7_isRow 22 = .ok (.i2l, 1) := by decide +kernel
theorem dX7_isRow_23 : decode cX7_isRow 23 = .ok (.iload_n 2, 1) := by decide +kernel
theorem dX7_isRow_24 : decode cX7_isRow 24 = .ok (.i2l, 1) := by decide +kernel
theorem dX7_isRow_25 : decode cX7_isRow 25 = .ok (.invokestatic 86, 3) := by decide +kernel
theorem dX7_isRow_28 : decode cX7_isRow 28 = .ok (.ifCond .eq 7, 3) := by decide +kernel
theorem dX7_isRow_31 : decode cX7_isRow 31 = .ok (.iconst 1, 1) := by decide +kernel
theorem dX7_isRow_32 : decode cX7_isRow 32 = .ok (.goto 4, 3) := by decide +kernel
theorem dX7_isRow_35 : decode cX7_isRow 35 = .ok (.iconst 0, 1) := by decide +kernel
theorem dX7_isRow_36 : decode cX7_isRow 36 = .ok (.ireturn, 1) := by decide +kernel
theorem dX7_next_0 : decode cX7_next 0 = .ok (.aload_n 0, 1) := by decide +kernel
theorem dX7_next_1 : decode cX7_next 1 = .ok (.getfield 226, 3) := by decide +kernel
theorem dX7_next_4 : decode cX7_next 4 = .ok (.aload_n 0, 1) := by decide +kernel
theorem dX7_next_5 : decode cX7_next 5 = .ok (.getfield 222, 3) := by decide +kernel
theorem dX7_next_8 : decode cX7_next 8 = .ok (.if_icmp .ge 30, 3) := by decide +kernel
theorem dX7_next_11 : decode cX7_next 11 = .ok (.aload_n 0, 1) := by decide +kernel
theorem dX7_next_12 : decode cX7_next 12 = .ok (.getfield 37, 3) := by decide +kernel
theorem dX7_next_15 : decode cX7_next 15 = .ok (.aload_n 0, 1) := by decide +kernel
theorem dX7_next_16 : decode cX7_next 16 = .ok (.getfield 226, 3) := by decide +kernel
theorem dX7_next_19 : decode cX7_next 19 = .ok (.iaload, 1) := by decide +kernel
theorem dX7_next_20 : decode cX7_next 20 = .ok (.bipush 32, 2) := by decide +kernel
theorem dX7_next_22 : decode cX7_next 22 = .ok (.if_icmp .ne 16, 3) := by decide +kernel
theorem dX7_next_25 : decode cX7_next 25 = .ok (.aload_n 0, 1) := by decide +kernel
theorem dX7_next_26 : decode cX7_next 26 = .ok (.dup, 1) := by decide +kernel
theorem dX7_next_27 : decode cX7_next 27 = .ok (.getfield 226, 3) := by decide +kernel
theorem dX7_next_30 : decode cX7_next 30 = .ok (.iconst 1, 1) := by decide +kernel
theorem dX7_next_31 : decode cX7_next 31 = .ok (.iadd, 1) := by decide +kernel
theorem dX7_next_32 : decode cX7_next 32 = .ok (.putfield 226, 3) := by decide +kernel
theorem dX7_next_35 : decode cX7_next 35 = .ok (.goto (-35), 3) := by decide +kernel
theorem dX7_next_38 : decode cX7_next 38 = .ok (.aload_n 0, 1) := by decide +kernel
theorem dX7_next_39 : decode cX7_next 39 = .ok (.aload_n 0, 1) := by decide +kernel
theorem dX7_next_40 : decode cX7_next 40 = .ok (.getfield 226, 3) := by decide +kernel
theorem dX7_next_43 : decode cX7_next 43 = .ok (.putfield 229, 3) := by decide +kernel
theorem dX7_next_46 : decode cX7_next 46 = .ok (.aload_n 0, 1) := by decide +kernel
theorem dX7_next_47 : decode cX7_next 47 = .ok (.lconst 0, 1) := by decide +kernel
theorem dX7_next_48 : decode cX7_next 48 = .ok (.putfield 232, 3) := by decide +kernel
theorem dX7_next_51 : decode cX7_next 51 = .ok (.aload_n 0, 1) := by decide +kernel
theorem dX7_next_52 : decode cX7_next 52 = .ok (.getfield 226, 3) := by decide +kernel
theorem dX7_next_55 : decode cX7_next 55 = .ok (.aload_n 0, 1) := by decide +kernel
theorem dX7_next_56 : decode cX7_next 56 = .ok (.getfield 222, 3) := by decide +kernel
theorem dX7_next_59 : decode cX7_next 59 = .ok (.if_icmp .ne 9, 3) := by decide +kernel
theorem dX7_next_62 : decode cX7_next 62 = .ok (.aload_n 0, 1) := by decide +kernel
theorem dX7_next_63 : decode cX7_next 63 = .ok (.iconst 0, 1) := by decide +kernel
theorem dX7_next_64 : decode cX7_next 64 = .ok (.putfield 236, 3) := by decide +kernel
theorem dX7_next_67 : decode cX7_next 67 = .ok (.return_, 1) := by decide +kernel
theorem dX7_next_68 : decode cX7_next 68 = .ok (.aload_n 0, 1) := by decide +kernel
theorem dX7_next_69 : decode cX7_next 69 = .ok (.bipush 97, 2) := by decide +kernel
theorem dX7_next_71 : decode cX7_next 71 = .ok (.bipush 122, 2) := by decide +kernel
theorem dX7_next_73 : decode cX7_next 73 = .ok (.invokevirtual 239, 3) := by decide +kernel
theorem dX7_next_76 : decode cX7_next 76 = .ok (.istore_n 1, 1) := by decide +kernel
theorem dX7_next_77 : decode cX7_next 77 = .ok (.aload_n 0, 1) := by decide +kernel
theorem dX7_next_78 : decode cX7_next 78 = .ok (.bipush 48, 2) := by decide +kernel
theorem dX7_next_80 : decode cX7_next 80 = .ok (.bipush 57, 2) := by decide +kernel
theorem dX7_next_82 : decode cX7_next 82 = .ok (.invokevirtual 239, 3) := by decide +kernel
theorem dX7_next_85 : decode cX7_next 85 = .ok (.istore_n 2, 1) := by decide +kernel
theorem dX7_next_86 : decode cX7_next 86 = .ok (.iload_n 1, 1) := by decide +kernel
theorem dX7_next_87 : decode cX7_next 87 = .ok (.ifCond .eq 112, 3) := by decide +kernel
theorem dX7_next_90 : decode cX7_next 90 = .ok (.aload_n 0, 1) := by decide +kernel
theorem dX7_next_91 : decode cX7_next 91 = .ok (.iconst 1, 1) := by decide +kernel
theorem dX7_next_92 : decode cX7_next 92 = .ok (.putfield 236, 3) := by decide +kernel
theorem dX7_next_95 : decode cX7_next 95 = .ok (.aload_n 0, 1) := by decide +kernel
theorem dX7_next_96 : decode cX7_next 96 = .ok (.bipush 97, 2) := by decide +kernel
theorem dX7_next_98 : decode cX7_next 98 = .ok (.bipush 122, 2) := by decide +kernel
theorem dX7_next_100 : decode cX7_next 100 = .ok (.invokevirtual 239, 3) := by decide +kernel
theorem dX7_next_103 : decode cX7_next 103 = .ok (.ifCond .eq 65, 3) := by decide +kernel
theorem dX7_next_106 : decode cX7_next 106 = .ok (.aload_n 0, 1) := by decide +kernel
theorem dX7_next_107 : decode cX7_next 107 = .ok (.aload_n 0, 1) := by decide +kernel
theorem dX7_next_108 : decode cX7_next 108 = .ok (.getfield 226, 3) := by decide +kernel
theorem dX7_next_111 : decode cX7_next 111 = .ok (.aload_n 0, 1) := by decide +kernel
theorem dX7_next_112 : decode cX7_next 112 = .ok (.getfield 229, 3) := by decide +kernel
theorem dX7_next_115 : decode cX7_next 115 = .ok (.isub, 1) := by decide +kernel
theorem dX7_next_116 : decode cX7_next 116 = .ok (.bipush 9, 2) := by decide +kernel
theorem dX7_next_118 : decode cX7_next 118 = .ok (.if_icmp .ge 31, 3) := by decide +kernel
theorem dX7_next_121 : decode cX7_next 121 = .ok (.ldc2_w 243, 3) := by decide +kernel
theorem dX7_next_124 : decode cX7_next 124 = .ok (.aload_n 0, 1) := by decide +kernel
theorem dX7_next_125 : decode cX7_next 125 = .ok (.getfield 232, 3) := by decide +kernel
theorem dX7_next_128 : decode cX7_next 128 = .ok (.lmul, 1) := by decide +kernel
theorem dX7_next_129 : decode cX7_next 129 = .ok (.aload_n 0, 1) := by decide +kernel
theorem dX7_next_130 : decode cX7_next 130 = .ok (.getfield 37, 3) := by decide +kernel
theorem dX7_next_133 : decode cX7_next 133 = .ok (.aload_n 0, 1) := by decide +kernel
theorem dX7_next_134 : decode cX7_next 134 = .ok (.getfield 226, 3) := by decide +kernel
theorem dX7_next_137 : decode cX7_next 137 = .ok (.iaload, 1) := by decide +kernel
theorem dX7_next_138 : decode cX7_next 138 = .ok (.i2l, 1) := by decide +kernel
theorem dX7_next_139 : decode cX7_next 139 = .ok (.ladd, 1) := by decide +kernel
theorem dX7_next_140 : decode cX7_next 140 = .ok (.ldc2_w 245, 3) := by decide +kernel
theorem dX7_next_143 : decode cX7_next 143 = .ok (.lsub, 1) := by decide +kernel
theorem dX7_next_144 : decode cX7_next 144 = .ok (.lconst 1, 1) := by decide +kernel
theorem dX7_next_145 : decode cX7_next 145 = .ok (.ladd, 1) := by decide +kernel
theorem dX7_next_146 : decode cX7_next 146 = .ok (.goto 6, 3) := by decide +kernel
theorem dX7_next_149 : decode cX7_next 149 = .ok (.ldc2_w 247, 3) := by decide +kernel
theorem dX7_next_152 : decode cX7_next 152 = .ok (.putfield 232, 3) := by decide +kernel
theorem dX7_next_155 : decode cX7_next 155 = .ok (.aload_n 0, 1) := by decide +kernel
theorem dX7_next_156 : decode cX7_next 156 = .ok (.dup, 1) := by decide +kernel
theorem dX7_next_157 : decode cX7_next 157 = .ok (.getfield 226, 3) := by decide +kernel
theorem dX7_next_160 : decode cX7_next 160 = .ok (.iconst 1, 1) := by decide +kernel
theorem dX7_next_161 : decode cX7_next 161 = .ok (.iadd, 1) := by decide +kernel
theorem dX7_next_162 : decode cX7_next 162 = .ok (.putfield 226, 3) := by decide +kernel
theorem dX7_next_165 : decode cX7_next 165 = .ok (.goto (-70), 3) := by decide +kernel
theorem dX7_next_168 : decode cX7_next 168 = .ok (.aload_n 0, 1) := by decide +kernel
theorem dX7_next_169 : decode cX7_next 169 = .ok (.aload_n 0, 1) := by decide +kernel
theorem dX7_next_170 : decode cX7_next 170 = .ok (.getfield 226, 3) := by decide +kernel
theorem dX7_next_173 : decode cX7_next 173 = .ok (.aload_n 0, 1) := by decide +kernel
theorem dX7_next_174 : decode cX7_next 174 = .ok (.getfield 229, 3) := by decide +kernel
theorem dX7_next_177 : decode cX7_next 177 = .ok (.isub, 1) := by decide +kernel
theorem dX7_next_178 : decode cX7_next 178 = .ok (.bipush 9, 2) := by decide +kernel
theorem dX7_next_180 : decode cX7_next 180 = .ok (.if_icmp .le 9, 3) := by decide +kernel
theorem dX7_next_183 : decode cX7_next 183 = .ok (.ldc2_w 247, 3) := by decide +kernel
theorem dX7_next_186 : decode cX7_next 186 = .ok (.goto 7, 3) := by decide +kernel
theorem dX7_next_189 : decode cX7_next 189 = .ok (.aload_n 0, 1) := by decide +kernel
theorem dX7_next_190 : decode cX7_next 190 = .ok (.getfield 232, 3) := by decide +kernel
theorem dX7_next_193 : decode cX7_next 193 = .ok (.putfield 232, 3) := by decide +kernel
theorem dX7_next_196 : decode cX7_next 196 = .ok (.goto 141, 3) := by decide +kernel
theorem dX7_next_199 : decode cX7_next 199 = .ok (.iload_n 2, 1) := by decide +kernel
theorem dX7_next_200 : decode cX7_next 200 = .ok (.ifCond .eq 108, 3) := by decide +kernel
theorem dX7_next_203 : decode cX7_next 203 = .ok (.aload_n 0, 1) := by decide +kernel
theorem dX7_next_204 : decode cX7_next 204 = .ok (.iconst 2, 1) := by decide +kernel
theorem dX7_next_205 : decode cX7_next 205 = .ok (.putfield 236, 3) := by decide +kernel
theorem dX7_next_208 : decode cX7_next 208 = .ok (.aload_n 0, 1) := by decide +kernel
theorem dX7_next_209 : decode cX7_next 209 = .ok (.bipush 48, 2) := by decide +kernel
theorem dX7_next_211 : decode cX7_next 211 = .ok (.bipush 57, 2) := by decide +kernel
theorem dX7_next_213 : decode cX7_next 213 = .ok (.invokevirtual 239, 3) := by decide +kernel
theorem dX7_next_216 : decode cX7_next 216 = .ok (.ifCond .eq 62, 3) := by decide +kernel
theorem dX7_next_219 : decode cX7_next 219 = .ok (.aload_n 0, 1) := by decide +kernel
theorem dX7_next_220 : decode cX7_next 220 = .ok (.aload_n 0, 1) := by decide +kernel
theorem dX7_next_221 : decode cX7_next 221 = .ok (.getfield 226, 3) := by decide +kernel
theorem dX7_next_224 : decode cX7_next 224 = .ok (.aload_n 0, 1) := by decide +kernel
theorem dX7_next_225 : decode cX7_next 225 = .ok (.getfield 229, 3) := by decide +kernel
theorem dX7_next_228 : decode cX7_next 228 = .ok (.isub, 1) := by decide +kernel
theorem dX7_next_229 : decode cX7_next 229 = .ok (.iconst 4, 1) := by decide +kernel
theorem dX7_next_230 : decode cX7_next 230 = .ok (.if_icmp .ge 29, 3) := by decide +kernel
theorem dX7_next_233 : decode cX7_next 233 = .ok (.ldc2_w 183, 3) := by decide +kernel
theorem dX7_next_236 : decode cX7_next 236 = .ok (.aload_n 0, 1) := by decide +kernel
theorem dX7_next_237 : decode cX7_next 237 = .ok (.getfield 232, 3) := by decide +kernel
theorem dX7_next_240 : decode cX7_next 240 = .ok (.lmul, 1) := by decide +kernel
theorem dX7_next_241 : decode cX7_next 241 = .ok (.aload_n 0, 1) := by decide +kernel
theorem dX7_next_242 : decode cX7_next 242 = .ok (.getfield 37, 3) := by decide +kernel
theorem dX7_next_245 : decode cX7_next 245 = .ok (.aload_n 0, 1) := by decide +kernel
theorem dX7_next_246 : decode cX7_next 246 = .ok (.getfield 226, 3) := by decide +kernel
theorem dX7_next_249 : decode cX7_next 249 = .ok (.iaload, 1) := by decide +kernel
theorem dX7_next_250 : decode cX7_next 250 = .ok (.i2l, 1) := by decide +kernel
theorem dX7_next_251 : decode cX7_next 251 = .ok (.ladd, 1) := by decide +kernel
theorem dX7_next_252 : decode cX7_next 252 = .ok (.ldc2_w 249, 3) := by decide +kernel
theorem dX7_next_255 : decode cX7_next 255 = .ok (.lsub, 1) := by decide +kernel
theorem dX7_next_256 : decode cX7_next 256 = .ok (.goto 6, 3) := by decide +kernel
theorem dX7_next_259 : decode cX7_next 259 = .ok (.ldc2_w 251, 3) := by decide +kernel
theorem dX7_next_262 : decode cX7_next 262 = .ok (.putfield 232, 3) := by decide +kernel
theorem dX7_next_265 : decode cX7_next 265 = .ok (.aload_n 0, 1) := by decide +kernel
theorem dX7_next_266 : decode cX7_next 266 = .ok (.dup, 1) := by decide +kernel
theorem dX7_next_267 : decode cX7_next 267 = .ok (.getfield 226, 3) := by decide +kernel
theorem dX7_next_270 : decode cX7_next 270 = .ok (.iconst 1, 1) := by decide +kernel
theorem dX7_next_271 : decode cX7_next 271 = .ok (.iadd, 1) := by decide +kernel
theorem dX7_next_272 : decode cX7_next 272 = .ok (.putfield 226, 3) := by decide +kernel
theorem dX7_next_275 : decode cX7_next 275 = .ok (.goto (-67), 3) := by decide +kernel
theorem dX7_next_278 : decode cX7_next 278 = .ok (.aload_n 0, 1) := by decide +kernel
theorem dX7_next_279 : decode cX7_next 279 = .ok (.aload_n 0, 1) := by decide +kernel
theorem dX7_next_280 : decode cX7_next 280 = .ok (.getfield 226, 3) := by decide +kernel
theorem dX7_next_283 : decode cX7_next 283 = .ok (.aload_n 0, 1) := by decide +kernel
theorem dX7_next_284 : decode cX7_next 284 = .ok (.getfield 229, 3) := by decide +kernel
theorem dX7_next_287 : decode cX7_next 287 = .ok (.isub, 1) := by decide +kernel
theorem dX7_next_288 : decode cX7_next 288 = .ok (.iconst 4, 1) := by decide +kernel
theorem dX7_next_289 : decode cX7_next 289 = .ok (.if_icmp .le 9, 3) := by decide +kernel
theorem dX7_next_292 : decode cX7_next 292 = .ok (.ldc2_w 251, 3) := by decide +kernel
theorem dX7_next_295 : decode cX7_next 295 = .ok (.goto 7, 3) := by decide +kernel
theorem dX7_next_298 : decode cX7_next 298 = .ok (.aload_n 0, 1) := by decide +kernel
theorem dX7_next_299 : decode cX7_next 299 = .ok (.getfield 232, 3) := by decide +kernel
theorem dX7_next_302 : decode cX7_next 302 = .ok (.putfield 232, 3) := by decide +kernel
theorem dX7_next_305 : decode cX7_next 305 = .ok (.goto 32, 3) := by decide +kernel
theorem dX7_next_308 : decode cX7_next 308 = .ok (.aload_n 0, 1) := by decide +kernel
theorem dX7_next_309 : decode cX7_next 309 = .ok (.iconst 3, 1) := by decide +kernel
theorem dX7_next_310 : decode cX7_next 310 = .ok (.putfield 236, 3) := by decide +kernel
theorem dX7_next_313 : decode cX7_next 313 = .ok (.aload_n 0, 1) := by decide +kernel
theorem dX7_next_314 : decode cX7_next 314 = .ok (.aload_n 0, 1) := by decide +kernel
theorem dX7_next_315 : decode cX7_next 315 = .ok (.getfield 37, 3) := by decide +kernel
theorem dX7_next_318 : decode cX7_next 318 = .ok (.aload_n 0, 1) := by decide +kernel
theorem dX7_next_319 : decode cX7_next 319 = .ok (.getfield 226, 3) := by decide +kernel
theorem dX7_next_322 : decode cX7_next 322 = .ok (.iaload, 1) := by decide +kernel
theorem dX7_next_323 : decode cX7_next 323 = .ok (.i2l, 1) := by decide +kernel
theorem dX7_next_324 : decode cX7_next 324 = .ok (.putfield 232, 3) := by decide +kernel
theorem dX7_next_327 : decode cX7_next 327 = .ok (.aload_n 0, 1) := by decide +kernel
theorem dX7_next_328 : decode cX7_next 328 = .ok (.dup, 1) := by decide +kernel
theorem dX7_next_329 : decode cX7_next 329 = .ok (.getfield 226, 3) := by decide +kernel
theorem dX7_next_332 : decode cX7_next 332 = .ok (.iconst 1, 1) := by decide +kernel
theorem dX7_next_333 : decode cX7_next 333 = .ok (.iadd, 1) := by decide +kernel
theorem dX7_next_334 : decode cX7_next 334 = .ok (.putfield 226, 3) := by decide +kernel
theorem dX7_next_337 : decode cX7_next 337 = .ok (.iload_n 1, 1) := by decide +kernel
theorem dX7_next_338 : decode cX7_next 338 = .ok (.ifCond .ne 7, 3) := by decide +kernel
theorem dX7_next_341 : decode cX7_next 341 = .ok (.iload_n 2, 1) := by decide +kernel
theorem dX7_next_342 : decode cX7_next 342 = .ok (.ifCond .eq 41, 3) := by decide +kernel
theorem dX7_next_345 : decode cX7_next 345 = .ok (.aload_n 0, 1) := by decide +kernel
theorem dX7_next_346 : decode cX7_next 346 = .ok (.aload_n 0, 1) := by decide +kernel
theorem dX7_next_347 : decode cX7_next 347 = .ok (.getfield 229, 3) := by decide +kernel
theorem dX7_next_350 : decode cX7_next 350 = .ok (.ifCond .le 18, 3) := by decide +kernel
theorem dX7_next_353 : decode cX7_next 353 = .ok (.aload_n 0, 1) := by decide +kernel
theorem dX7_next_354 : decode cX7_next 354 = .ok (.getfield 229, 3) := by decide +kernel
theorem dX7_next_357 : decode cX7_next 357 = .ok (.aload_n 0, 1) := by decide +kernel
theorem dX7_next_358 : decode cX7_next 358 = .ok (.getfield 253, 3) := by decide +kernel
theorem dX7_next_361 : decode cX7_next 361 = .ok (.if_icmp .ne 7, 3) := by decide +kernel
theorem dX7_next_364 : decode cX7_next 364 = .ok (.iconst 4, 1) := by decide +kernel
theorem dX7_next_365 : decode cX7_next 365 = .ok (.goto 7, 3) := by decide +kernel
theorem dX7_next_368 : decode cX7_next 368 = .ok (.aload_n 0, 1) := by decide +kernel
theorem dX7_next_369 : decode cX7_next 369 = .ok (.getfield 236, 3) := by decide +kernel
theorem dX7_next_372 : decode cX7_next 372 = .ok (.putfield 236, 3) := by decide +kernel
theorem dX7_next_375 : decode cX7_next 375 = .ok (.aload_n 0, 1) := by decide +kernel
theorem dX7_next_376 : decode cX7_next 376 = .ok (.aload_n 0, 1) := by decide +kernel
theorem dX7_next_377 : decode cX7_next 377 = .ok (.getfield 226, 3) := by decide +kernel
theorem dX7_next_380 : decode cX7_next 380 = .ok (.putfield 253, 3) := by decide +kernel
theorem dX7_next_383 : decode cX7_next 383 = .ok (.return_, 1) := by decide +kernel
theorem dX7_isSign_0 : decode cX7_isSign 0 = .ok (.aload_n 0, 1) := by decide +kernel
theorem dX7_isSign_1 : decode cX7_isSign 1 = .ok (.getfield 236, 3) := by decide +kernel
theorem dX7_isSign_4 : decode cX7_isSign 4 = .ok (.iconst 3, 1) := by decide +kernel
theorem dX7_isSign_5 : decode cX7_isSign 5 = .ok (.if_icmp .ne 24, 3) := by decide +kernel
theorem dX7_isSign_8 : decode cX7_isSign 8 = .ok (.aload_n 0, 1) := by decide +kernel
theorem dX7_isSign_9 : decode cX7_isSign 9 = .ok (.getfield 232, 3) := by decide +kernel
theorem dX7_isSign_12 : decode cX7_isSign 12 = .ok (.iload_n 1, 1) := by decide +kernel
theorem dX7_isSign_13 : decode cX7_isSign 13 = .ok (.i2l, 1) := by decide +kernel
theorem dX7_isSign_14 : decode cX7_isSign 14 = .ok (.lcmp, 1) := by decide +kernel
theorem dX7_isSign_15 : decode cX7_isSign 15 = .ok (.ifCond .ne 14, 3) := by decide +kernel
theorem dX7_isSign_18 : decode cX7_isSign 18 = .ok (.aload_n 0, 1) := by decide +kernel
theorem dX7_isSign_19 : decode cX7_isSign 19 = .ok (.getfield 256, 3) := by decide +kernel
theorem dX7_isSign_22 : decode cX7_isSign 22 = .ok (.ifCond .ne 7, 3) := by decide +kernel
theorem dX7_isSign_25 : decode cX7_isSign 25 = .ok (.iconst 1, 1) := by decide +kernel
theorem dX7_isSign_26 : decode cX7_isSign 26 = .ok (.goto 4, 3) := by decide +kernel
theorem dX7_isSign_29 : decode cX7_isSign 29 = .ok (.iconst 0, 1) := by decide +kernel
theorem dX7_isSign_30 : decode cX7_isSign 30 = .ok (.ireturn, 1) := by decide +kernel
theorem dX7_goesBy_0 : decode cX7_goesBy 0 = .ok (.aload_n 0, 1) := by decide +kernel
theorem dX7_goesBy_1 : decode cX7_goesBy 1 = .ok (.aload_n 0, 1) := by decide +kernel
theorem dX7_goesBy_2 : decode cX7_goesBy 2 = .ok (.getfield 256, 3) := by decide +kernel
theorem dX7_goesBy_5 : decode cX7_goesBy 5 = .ok (.ifCond .ne 7, 3) := by decide +kernel
theorem dX7_goesBy_8 : decode cX7_goesBy 8 = .ok (.iload_n 1, 1) := by decide +kernel
theorem dX7_goesBy_9 : decode cX7_goesBy 9 = .ok (.ifCond .ne 7, 3) := by decide +kernel
theorem dX7_goesBy_12 : decode cX7_goesBy 12 = .ok (.iconst 1, 1) := by decide +kernel
theorem dX7_goesBy_13 : decode cX7_goesBy 13 = .ok (.goto 4, 3) := by decide +kernel
theorem dX7_goesBy_16 : decode cX7_goesBy 16 = .ok (.iconst 0, 1) := by decide +kernel
theorem dX7_goesBy_17 : decode cX7_goesBy 17 = .ok (.putfield 256, 3) := by decide +kernel
theorem dX7_goesBy_20 : decode cX7_goesBy 20 = .ok (.aload_n 0, 1) := by decide +kernel
theorem dX7_goesBy_21 : decode cX7_goesBy 21 = .ok (.getfield 256, 3) := by decide +kernel
theorem dX7_goesBy_24 : decode cX7_goesBy 24 = .ok (.ifCond .ne 7, 3) := by decide +kernel
theorem dX7_goesBy_27 : decode cX7_goesBy 27 = .ok (.aload_n 0, 1) := by decide +kernel
theorem dX7_goesBy_28 : decode cX7_goesBy 28 = .ok (.invokevirtual 260, 3) := by decide +kernel
theorem dX7_goesBy_31 : decode cX7_goesBy 31 = .ok (.return_, 1) := by decide +kernel
theorem dX7_lays_0 : decode cX7_lays 0 = .ok (.aload_n 0, 1) := by decide +kernel
theorem dX7_lays_1 : decode cX7_lays 1 = .ok (.getfield 256, 3) := by decide +kernel
theorem dX7_lays_4 : decode cX7_lays 4 = .ok (.ifCond .ne 23, 3) := by decide +kernel
theorem dX7_lays_7 : decode cX7_lays 7 = .ok (.aload_n 0, 1) := by decide +kernel
theorem dX7_lays_8 : decode cX7_lays 8 = .ok (.getfield 40, 3) := by decide +kernel
theorem dX7_lays_11 : decode cX7_lays 11 = .ok (.aload_n 0, 1) := by decide +kernel
theorem dX7_lays_12 : decode cX7_lays 12 = .ok (.getfield 263, 3) := by decide +kernel
theorem dX7_lays_15 : decode cX7_lays 15 = .ok (.iload_n 1, 1) := by decide +kernel
theorem dX7_lays_16 : decode cX7_lays 16 = .ok (.iastore, 1) := by decide +kernel
theorem dX7_lays_17 : decode cX7_lays 17 = .ok (.aload_n 0, 1) := by decide +kernel
theorem dX7_lays_18 : decode cX7_lays 18 = .ok (.dup, 1) := by decide +kernel
theorem dX7_lays_19 : decode cX7_lays 19 = .ok (.getfield 263, 3) := by decide +kernel
theorem dX7_lays_22 : decode cX7_lays 22 = .ok (.iconst 1, 1) := by decide +kernel
theorem dX7_lays_23 : decode cX7_lays 23 = .ok (.iadd, 1) := by decide +kernel
theorem dX7_lays_24 : decode cX7_lays 24 = .ok (.putfield 263, 3) := by decide +kernel
theorem dX7_lays_27 : decode cX7_lays 27 = .ok (.return_, 1) := by decide +kernel
theorem dX7_nameHere_0 : decode cX7_nameHere 0 = .ok (.aload_n 0, 1) := by decide +kernel
theorem dX7_nameHere_1 : decode cX7_nameHere 1 = .ok (.getfield 236, 3) := by decide +kernel
theorem dX7_nameHere_4 : decode cX7_nameHere 4 = .ok (.iconst 1, 1) := by decide +kernel
theorem dX7_nameHere_5 : decode cX7_nameHere 5 = .ok (.if_icmp .ne 23, 3) := by decide +kernel
theorem dX7_nameHere_8 : decode cX7_nameHere 8 = .ok (.aload_n 0, 1) := by decide +kernel
theorem dX7_nameHere_9 : decode cX7_nameHere 9 = .ok (.getfield 232, 3) := by decide +kernel
theorem dX7_nameHere_12 : decode cX7_nameHere 12 = .ok (.ldc2_w 266, 3) := by decide +kernel
theorem dX7_nameHere_15 : decode cX7_nameHere 15 = .ok (.lcmp, 1) := by decide +kernel
theorem dX7_nameHere_16 : decode cX7_nameHere 16 = .ok (.ifCond .gt 12, 3) := by decide +kernel
theorem dX7_nameHere_19 : decode cX7_nameHere 19 = .ok (.aload_n 0, 1) := by decide +kernel
theorem dX7_nameHere_20 : decode cX7_nameHere 20 = .ok (.getfield 232, 3) := by decide +kernel
theorem dX7_nameHere_23 : decode cX7_nameHere 23 = .ok (.lconst 1, 1) := by decide +kernel
theorem dX7_nameHere_24 : decode cX7_nameHere 24 = .ok (.lcmp, 1) := by decide +kernel
theorem dX7_nameHere_25 : decode cX7_nameHere 25 = .ok (.ifCond .ge 5, 3) := by decide +kernel
theorem dX7_nameHere_28 : decode cX7_nameHere 28 = .ok (.iconst (-1), 1) := by decide +kernel
theorem dX7_nameHere_29 : decode cX7_nameHere 29 = .ok (.ireturn, 1) := by decide +kernel
theorem dX7_nameHere_30 : decode cX7_nameHere 30 = .ok (.ldc2_w 245, 3) := by decide +kernel
theorem dX7_nameHere_33 : decode cX7_nameHere 33 = .ok (.aload_n 0, 1) := by decide +kernel
theorem dX7_nameHere_34 : decode cX7_nameHere 34 = .ok (.getfield 232, 3) := by decide +kernel
theorem dX7_nameHere_37 : decode cX7_nameHere 37 = .ok (.ladd, 1) := by decide +kernel
theorem dX7_nameHere_38 : decode cX7_nameHere 38 = .ok (.lconst 1, 1) := by decide +kernel
theorem dX7_nameHere_39 : decode cX7_nameHere 39 = .ok (.lsub, 1) := by decide +kernel
theorem dX7_nameHere_40 : decode cX7_nameHere 40 = .ok (.l2i, 1) := by decide +kernel
theorem dX7_nameHere_41 : decode cX7_nameHere 41 = .ok (.i2c, 1) := by decide +kernel
theorem dX7_nameHere_42 : decode cX7_nameHere 42 = .ok (.istore_n 1, 1) := by decide +kernel
theorem dX7_nameHere_43 : decode cX7_nameHere 43 = .ok (.aload_n 0, 1) := by decide +kernel
theorem dX7_nameHere_44 : decode cX7_nameHere 44 = .ok (.getfield 268, 3) := by decide +kernel
theorem dX7_nameHere_47 : decode cX7_nameHere 47 = .ok (.ifCond .ne 45, 3) := by decide +kernel
theorem dX7_nameHere_50 : decode cX7_nameHere 50 = .ok (.iload_n 1, 1) := by decide +kernel
theorem dX7_nameHere_51 : decode cX7_nameHere 51 = .ok (.bipush 115, 2) := by decide +kernel
theorem dX7_nameHere_53 : decode cX7_nameHere 53 = .ok (.if_icmp .ne 7, 3) := by decide +kernel
theorem dX7_nameHere_56 : decode cX7_nameHere 56 = .ok (.iconst 0, 1) := by decide +kernel
theorem dX7_nameHere_57 : decode cX7_nameHere 57 = .ok (.goto 34, 3) := by decide +kernel
theorem dX7_nameHere_60 : decode cX7_nameHere 60 = .ok (.iload_n 1, 1) := by decide +kernel
theorem dX7_nameHere_61 : decode cX7_nameHere 61 = .ok (.bipush 112, 2) := by decide +kernel
theorem dX7_nameHere_63 : decode cX7_nameHere 63 = .ok (.if_icmp .ne 7, 3) := by decide +kernel
theorem dX7_nameHere_66 : decode cX7_nameHere 66 = .ok (.iconst 1, 1) := by decide +kernel
theorem dX7_nameHere_67 : decode cX7_nameHere 67 = .ok (.goto 24, 3) := by decide +kernel
theorem dX7_nameHere_70 : decode cX7_nameHere 70 = .ok (.iload_n 1, 1) := by decide +kernel
theorem dX7_nameHere_71 : decode cX7_nameHere 71 = .ok (.bipush 99, 2) := by decide +kernel
theorem dX7_nameHere_73 : decode cX7_nameHere 73 = .ok (.if_icmp .ne 7, 3) := by decide +kernel
theorem dX7_nameHere_76 : decode cX7_nameHere 76 = .ok (.iconst 2, 1) := by decide +kernel
theorem dX7_nameHere_77 : decode cX7_nameHere 77 = .ok (.goto 14, 3) := by decide +kernel
theorem dX7_nameHere_80 : decode cX7_nameHere 80 = .ok (.iload_n 1, 1) := by decide +kernel
theorem dX7_nameHere_81 : decode cX7_nameHere 81 = .ok (.bipush 110, 2) := by decide +kernel
theorem dX7_nameHere_83 : decode cX7_nameHere 83 = .ok (.if_icmp .ne 7, 3) := by decide +kernel
theorem dX7_nameHere_86 : decode cX7_nameHere 86 = .ok (.iconst 3, 1) := by decide +kernel
theorem dX7_nameHere_87 : decode cX7_nameHere 87 = .ok (.goto 4, 3) := by decide +kernel
theorem dX7_nameHere_90 : decode cX7_nameHere 90 = .ok (.iconst (-1), 1) := by decide +kernel
theorem dX7_nameHere_91 : decode cX7_nameHere 91 = .ok (.ireturn, 1) := by decide +kernel
theorem dX7_nameHere_92 : decode cX7_nameHere 92 = .ok (.aload_n 0, 1) := by decide +kernel
theorem dX7_nameHere_93 : decode cX7_nameHere 93 = .ok (.getfield 268, 3) := by decide +kernel
theorem dX7_nameHere_96 : decode cX7_nameHere 96 = .ok (.iconst 1, 1) := by decide +kernel
theorem dX7_nameHere_97 : decode cX7_nameHere 97 = .ok (.if_icmp .ne 25, 3) := by decide +kernel
theorem dX7_nameHere_100 : decode cX7_nameHere 100 = .ok (.iload_n 1, 1) := by decide +kernel
theorem dX7_nameHere_101 : decode cX7_nameHere 101 = .ok (.bipush 111, 2) := by decide +kernel
theorem dX7_nameHere_103 : decode cX7_nameHere 103 = .ok (.if_icmp .ne 7, 3) := by decide +kernel
theorem dX7_nameHere_106 : decode cX7_nameHere 106 = .ok (.iconst 0, 1) := by decide +kernel
theorem dX7_nameHere_107 : decode cX7_nameHere 107 = .ok (.goto 14, 3) := by decide +kernel
theorem dX7_nameHere_110 : decode cX7_nameHere 110 = .ok (.iload_n 1, 1) := by decide +kernel
theorem dX7_nameHere_111 : decode cX7_nameHere 111 = .ok (.bipush 107, 2) := by decide +kernel
theorem dX7_nameHere_113 : decode cX7_nameHere 113 = .ok (.if_icmp .ne 7, 3) := by decide +kernel
theorem dX7_nameHere_116 : decode cX7_nameHere 116 = .ok (.iconst 1, 1) := by decide +kernel
theorem dX7_nameHere_117 : decode cX7_nameHere 117 = .ok (.goto 4, 3) := by decide +kernel
theorem dX7_nameHere_120 : decode cX7_nameHere 120 = .ok (.iconst (-1), 1) := by decide +kernel
theorem dX7_nameHere_121 : decode cX7_nameHere 121 = .ok (.ireturn, 1) := by decide +kernel
theorem dX7_nameHere_122 : decode cX7_nameHere 122 = .ok (.iload_n 1, 1) := by decide +kernel
theorem dX7_nameHere_123 : decode cX7_nameHere 123 = .ok (.bipush 115, 2) := by decide +kernel
theorem dX7_nameHere_125 : decode cX7_nameHere 125 = .ok (.if_icmp .ne 7, 3) := by decide +kernel
theorem dX7_nameHere_128 : decode cX7_nameHere 128 = .ok (.iconst 0, 1) := by decide +kernel
theorem dX7_nameHere_129 : decode cX7_nameHere 129 = .ok (.goto 14, 3) := by decide +kernel
theorem dX7_nameHere_132 : decode cX7_nameHere 132 = .ok (.iload_n 1, 1) := by decide +kernel
theorem dX7_nameHere_133 : decode cX7_nameHere 133 = .ok (.bipush 99, 2) := by decide +kernel
theorem dX7_nameHere_135 : decode cX7_nameHere 135 = .ok (.if_icmp .ne 7, 3) := by decide +kernel
theorem dX7_nameHere_138 : decode cX7_nameHere 138 = .ok (.iconst 1, 1) := by decide +kernel
theorem dX7_nameHere_139 : decode cX7_nameHere 139 = .ok (.goto 4, 3) := by decide +kernel
theorem dX7_nameHere_142 : decode cX7_nameHere 142 = .ok (.iconst (-1), 1) := by decide +kernel
theorem dX7_nameHere_143 : decode cX7_nameHere 143 = .ok (.ireturn, 1) := by decide +kernel
theorem dX7_piece_0 : decode cX7_piece 0 = .ok (.aload_n 0, 1) := by decide +kernel
theorem dX7_piece_1 : decode cX7_piece 1 = .ok (.getfield 256, 3) := by decide +kernel
theorem dX7_piece_4 : decode cX7_piece 4 = .ok (.ifCond .eq 4, 3) := by decide +kernel
theorem dX7_piece_7 : decode cX7_piece 7 = .ok (.return_, 1) := by decide +kernel
theorem dX7_piece_8 : decode cX7_piece 8 = .ok (.aload_n 0, 1) := by decide +kernel
theorem dX7_piece_9 : decode cX7_piece 9 = .ok (.bipush 33, 2) := by decide +kernel
theorem dX7_piece_11 : decode cX7_piece 11 = .ok (.invokevirtual 271, 3) := by decide +kernel
theorem dX7_piece_14 : decode cX7_piece 14 = .ok (.ifCond .eq 55, 3) := by decide +kernel
theorem dX7_piece_17 : decode cX7_piece 17 = .ok (.aload_n 0, 1) := by decide +kernel
theorem dX7_piece_18 : decode cX7_piece 18 = .ok (.aload_n 0, 1) := by decide +kernel
theorem dX7_piece_19 : decode cX7_piece 19 = .ok (.getfield 275, 3) := by decide +kernel
theorem dX7_piece_22 : decode cX7_piece 22 = .ok (.bipush 8, 2) := by decide +kernel
theorem dX7_piece_24 : decode cX7_piece 24 = .ok (.if_icmp .ge 7, 3) := by decide +kernel
theorem dX7_piece_27 : decode cX7_piece 27 = .ok (.iconst 1, 1) := by decide +kernel
theorem dX7_piece_28 : decode cX7_piece 28 = .ok (.goto 4, 3) := by decide +kernel
theorem dX7_piece_31 : decode cX7_piece 31 = .ok (.iconst 0, 1) := by decide +kernel
theorem dX7_piece_32 : decode cX7_piece 32 = .ok (.invokevirtual 278, 3) := by decide +kernel
theorem dX7_piece_35 : decode cX7_piece 35 = .ok (.aload_n 0, 1) := by decide +kernel
theorem dX7_piece_36 : decode cX7_piece 36 = .ok (.dup, 1) := by decide +kernel
theorem dX7_piece_37 : decode cX7_piece 37 = .ok (.getfield 275, 3) := by decide +kernel
theorem dX7_piece_40 : decode cX7_piece 40 = .ok (.iconst 1, 1) := by decide +kernel
theorem dX7_piece_41 : decode cX7_piece 41 = .ok (.iadd, 1) := by decide +kernel
theorem dX7_piece_42 : decode cX7_piece 42 = .ok (.putfield 275, 3) := by decide +kernel
theorem dX7_piece_45 : decode cX7_piece 45 = .ok (.aload_n 0, 1) := by decide +kernel
theorem dX7_piece_46 : decode cX7_piece 46 = .ok (.invokevirtual 282, 3) := by decide +kernel
theorem dX7_piece_49 : decode cX7_piece 49 = .ok (.aload_n 0, 1) := by decide +kernel
theorem dX7_piece_50 : decode cX7_piece 50 = .ok (.dup, 1) := by decide +kernel
theorem dX7_piece_51 : decode cX7_piece 51 = .ok (.getfield 275, 3) := by decide +kernel
theorem dX7_piece_54 : decode cX7_piece 54 = .ok (.iconst 1, 1) := by decide +kernel
theorem dX7_piece_55 : decode cX7_piece 55 = .ok (.isub, 1) := by decide +kernel
theorem dX7_piece_56 : decode cX7_piece 56 = .ok (.putfield 275, 3) := by decide +kernel
theorem dX7_piece_59 : decode cX7_piece 59 = .ok (.aload_n 0, 1) := by decide +kernel
theorem dX7_piece_60 : decode cX7_piece 60 = .ok (.sipush 20033, 3) := by decide +kernel
theorem dX7_piece_63 : decode cX7_piece 63 = .ok (.invokevirtual 285, 3) := by decide +kernel
theorem dX7_piece_66 : decode cX7_piece 66 = .ok (.goto 156, 3) := by decide +kernel
theorem dX7_piece_69 : decode cX7_piece 69 = .ok (.aload_n 0, 1) := by decide +kernel
theorem dX7_piece_70 : decode cX7_piece 70 = .ok (.bipush 40, 2) := by decide +kernel
theorem dX7_piece_72 : decode cX7_piece 72 = .ok (.invokevirtual 271, 3) := by decide +kernel
theorem dX7_piece_75 : decode cX7_piece 75 = .ok (.ifCond .eq 58, 3) := by decide +kernel
theorem dX7_piece_78 : decode cX7_piece 78 = .ok (.aload_n 0, 1) := by decide +kernel
theorem dX7_piece_79 : decode cX7_piece 79 = .ok (.aload_n 0, 1) := by decide +kernel
theorem dX7_piece_80 : decode cX7_piece 80 = .ok (.getfield 288, 3) := by decide +kernel
theorem dX7_piece_83 : decode cX7_piece 83 = .ok (.bipush 8, 2) := by decide +kernel
theorem dX7_piece_85 : decode cX7_piece 85 = .ok (.if_icmp .ge 7, 3) := by decide +kernel
theorem dX7_piece_88 : decode cX7_piece 88 = .ok (.iconst 1, 1) := by decide +kernel
theorem dX7_piece_89 : decode cX7_piece 89 = .ok (.goto 4, 3) := by decide +kernel
theorem dX7_piece_92 : decode cX7_piece 92 = .ok (.iconst 0, 1) := by decide +kernel
theorem dX7_piece_93 : decode cX7_piece 93 = .ok (.invokevirtual 278, 3) := by decide +kernel
theorem dX7_piece_96 : decode cX7_piece 96 = .ok (.aload_n 0, 1) := by decide +kernel
theorem dX7_piece_97 : decode cX7_piece 97 = .ok (.dup, 1) := by decide +kernel
theorem dX7_piece_98 : decode cX7_piece 98 = .ok (.getfield 288, 3) := by decide +kernel
theorem dX7_piece_101 : decode cX7_piece 101 = .ok (.iconst 1, 1) := by decide +kernel
theorem dX7_piece_102 : decode cX7_piece 102 = .ok (.iadd, 1) := by decide +kernel
theorem dX7_piece_103 : decode cX7_piece 103 = .ok (.putfield 288, 3) := by decide +kernel
theorem dX7_piece_106 : decode cX7_piece 106 = .ok (.aload_n 0, 1) := by decide +kernel
theorem dX7_piece_107 : decode cX7_piece 107 = .ok (.invokevirtual 291, 3) := by decide +kernel
theorem dX7_piece_110 : decode cX7_piece 110 = .ok (.aload_n 0, 1) := by decide +kernel
theorem dX7_piece_111 : decode cX7_piece 111 = .ok (.dup, 1) := by decide +kernel
theorem dX7_piece_112 : decode cX7_piece 112 = .ok (.getfield 288, 3) := by decide +kernel
theorem dX7_piece_115 : decode cX7_piece 115 = .ok (.iconst 1, 1) := by decide +kernel
theorem dX7_piece_116 : decode cX7_piece 116 = .ok (.isub, 1) := by decide +kernel
theorem dX7_piece_117 : decode cX7_piece 117 = .ok (.putfield 288, 3) := by decide +kernel
theorem dX7_piece_120 : decode cX7_piece 120 = .ok (.aload_n 0, 1) := by decide +kernel
theorem dX7_piece_121 : decode cX7_piece 121 = .ok (.aload_n 0, 1) := by decide +kernel
theorem dX7_piece_122 : decode cX7_piece 122 = .ok (.bipush 41, 2) := by decide +kernel
theorem dX7_piece_124 : decode cX7_piece 124 = .ok (.invokevirtual 271, 3) := by decide +kernel
theorem dX7_piece_127 : decode cX7_piece 127 = .ok (.invokevirtual 278, 3) := by decide +kernel
theorem dX7_piece_130 : decode cX7_piece 130 = .ok (.goto 92, 3) := by decide +kernel
theorem dX7_piece_133 : decode cX7_piece 133 = .ok (.aload_n 0, 1) := by decide +kernel
theorem dX7_piece_134 : decode cX7_piece 134 = .ok (.invokevirtual 294, 3) := by decide +kernel
theorem dX7_piece_137 : decode cX7_piece 137 = .ok (.istore_n 1, 1) := by decide +kernel
theorem dX7_piece_138 : decode cX7_piece 138 = .ok (.aload_n 0, 1) := by decide +kernel
theorem dX7_piece_139 : decode cX7_piece 139 = .ok (.getfield 236, 3) := by decide +kernel
theorem dX7_piece_142 : decode cX7_piece 142 = .ok (.iconst 2, 1) := by decide +kernel
theorem dX7_piece_143 : decode cX7_piece 143 = .ok (.if_icmp .ne 18, 3) := by decide +kernel
theorem dX7_piece_146 : decode cX7_piece 146 = .ok (.aload_n 0, 1) := by decide +kernel
theorem dX7_piece_147 : decode cX7_piece 147 = .ok (.getfield 232, 3) := by decide +kernel
theorem dX7_piece_150 : decode cX7_piece 150 = .ok (.ldc2_w 251, 3) := by decide +kernel
theorem dX7_piece_153 : decode cX7_piece 153 = .ok (.lcmp, 1) := by decide +kernel
theorem dX7_piece_154 : decode cX7_piece 154 = .ok (.ifCond .ge 7, 3) := by decide +kernel
theorem dX7_piece_157 : decode cX7_piece 157 = .ok (.iconst 1, 1) := by decide +kernel
theorem dX7_piece_158 : decode cX7_piece 158 = .ok (.goto 4, 3) := by decide +kernel
theorem dX7_piece_161 : decode cX7_piece 161 = .ok (.iconst 0, 1) := by decide +kernel
theorem dX7_piece_162 : decode cX7_piece 162 = .ok (.istore_n 2, 1) := by decide +kernel
theorem dX7_piece_163 : decode cX7_piece 163 = .ok (.aload_n 0, 1) := by decide +kernel
theorem dX7_piece_164 : decode cX7_piece 164 = .ok (.iload_n 2, 1) := by decide +kernel
theorem dX7_piece_165 : decode cX7_piece 165 = .ok (.ifCond .eq 11, 3) := by decide +kernel
theorem dX7_piece_168 : decode cX7_piece 168 = .ok (.aload_n 0, 1) := by decide +kernel
theorem dX7_piece_169 : decode cX7_piece 169 = .ok (.getfield 232, 3) := by decide +kernel
theorem dX7_piece_172 : decode cX7_piece 172 = .ok (.l2i, 1) := by decide +kernel
theorem dX7_piece_173 : decode cX7_piece 173 = .ok (.goto 8, 3) := by decide +kernel
theorem dX7_piece_176 : decode cX7_piece 176 = .ok (.sipush 10000, 3) := by decide +kernel
theorem dX7_piece_179 : decode cX7_piece 179 = .ok (.iload_n 1, 1) := by decide +kernel
theorem dX7_piece_180 : decode cX7_piece 180 = .ok (.iadd, 1) := by decide +kernel
theorem dX7_piece_181 : decode cX7_piece 181 = .ok (.invokevirtual 285, 3) := by decide +kernel
theorem dX7_piece_184 : decode cX7_piece 184 = .ok (.aload_n 0, 1) := by decide +kernel
theorem dX7_piece_185 : decode cX7_piece 185 = .ok (.dup, 1) := by decide +kernel
theorem dX7_piece_186 : decode cX7_piece 186 = .ok (.getfield 297, 3) := by decide +kernel
theorem dX7_piece_189 : decode cX7_piece 189 = .ok (.aload_n 0, 1) := by decide +kernel
theorem dX7_piece_190 : decode cX7_piece 190 = .ok (.getfield 256, 3) := by decide +kernel
theorem dX7_piece_193 : decode cX7_piece 193 = .ok (.ifCond .eq 7, 3) := by decide +kernel
theorem dX7_piece_196 : decode cX7_piece 196 = .ok (.iconst 0, 1) := by decide +kernel
theorem dX7_piece_197 : decode cX7_piece 197 = .ok (.goto 4, 3) := by decide +kernel
theorem dX7_piece_200 : decode cX7_piece 200 = .ok (.iconst 1, 1) := by decide +kernel
theorem dX7_piece_201 : decode cX7_piece 201 = .ok (.iadd, 1) := by decide +kernel
theorem dX7_piece_202 : decode cX7_piece 202 = .ok (.putfield 297, 3) := by decide +kernel
theorem dX7_piece_205 : decode cX7_piece 205 = .ok (.aload_n 0, 1) := by decide +kernel
theorem dX7_piece_206 : decode cX7_piece 206 = .ok (.iload_n 2, 1) := by decide +kernel
theorem dX7_piece_207 : decode cX7_piece 207 = .ok (.ifCond .ne 7, 3) := by decide +kernel
theorem dX7_piece_210 : decode cX7_piece 210 = .ok (.iload_n 1, 1) := by decide +kernel
theorem dX7_piece_211 : decode cX7_piece 211 = .ok (.ifCond .lt 7, 3) := by decide +kernel
theorem dX7_piece_214 : decode cX7_piece 214 = .ok (.iconst 1, 1) := by decide +kernel
theorem dX7_piece_215 : decode cX7_piece 215 = .ok (.goto 4, 3) := by decide +kernel
theorem dX7_piece_218 : decode cX7_piece 218 = .ok (.iconst 0, 1) := by decide +kernel
theorem dX7_piece_219 : decode cX7_piece 219 = .ok (.invokevirtual 278, 3) := by decide +kernel
theorem dX7_piece_222 : decode cX7_piece 222 = .ok (.return_, 1) := by decide +kernel
theorem dX7_term_0 : decode cX7_term 0 = .ok (.aload_n 0, 1) := by decide +kernel
theorem dX7_term_1 : decode cX7_term 1 = .ok (.invokevirtual 282, 3) := by decide +kernel
theorem dX7_term_4 : decode cX7_term 4 = .ok (.aload_n 0, 1) := by decide +kernel
theorem dX7_term_5 : decode cX7_term 5 = .ok (.bipush 42, 2) := by decide +kernel
theorem dX7_term_7 : decode cX7_term 7 = .ok (.invokevirtual 271, 3) := by decide +kernel
theorem dX7_term_10 : decode cX7_term 10 = .ok (.ifCond .ne 12, 3) := by decide +kernel
theorem dX7_term_13 : decode cX7_term 13 = .ok (.aload_n 0, 1) := by decide +kernel
theorem dX7_term_14 : decode cX7_term 14 = .ok (.bipush 47, 2) := by decide +kernel
theorem dX7_term_16 : decode cX7_term 16 = .ok (.invokevirtual 271, 3) := by decide +kernel
theorem dX7_term_19 : decode cX7_term 19 = .ok (.ifCond .eq 29, 3) := by decide +kernel
theorem dX7_term_22 : decode cX7_term 22 = .ok (.aload_n 0, 1) := by decide +kernel
theorem dX7_term_23 : decode cX7_term 23 = .ok (.getfield 232, 3) := by decide +kernel
theorem dX7_term_26 : decode cX7_term 26 = .ok (.l2i, 1) := by decide +kernel
theorem dX7_term_27 : decode cX7_term 27 = .ok (.istore_n 1, 1) := by decide +kernel
theorem dX7_term_28 : decode cX7_term 28 = .ok (.aload_n 0, 1) := by decide +kernel
theorem dX7_term_29 : decode cX7_term 29 = .ok (.invokevirtual 260, 3) := by decide +kernel
theorem dX7_term_32 : decode cX7_term 32 = .ok (.aload_n 0, 1) := by decide +kernel
theorem dX7_term_33 : decode cX7_term 33 = .ok (.invokevirtual 282, 3) := by decide +kernel
theorem dX7_term_36 : decode cX7_term 36 = .ok (.aload_n 0, 1) := by decide +kernel
theorem dX7_term_37 : decode cX7_term 37 = .ok (.sipush 20000, 3) := by decide +kernel
theorem dX7_term_40 : decode cX7_term 40 = .ok (.iload_n 1, 1) := by decide +kernel
theorem dX7_term_41 : decode cX7_term 41 = .ok (.iadd, 1) := by decide +kernel
theorem dX7_term_42 : decode cX7_term 42 = .ok (.invokevirtual 285, 3) := by decide +kernel
theorem dX7_term_45 : decode cX7_term 45 = .ok (.goto (-41), 3) := by decide +kernel
theorem dX7_term_48 : decode cX7_term 48 = .ok (.return_, 1) := by decide +kernel
theorem dX7_sum_0 : decode cX7_sum 0 = .ok (.aload_n 0, 1) := by decide +kernel
theorem dX7_sum_1 : decode cX7_sum 1 = .ok (.invokevirtual 300, 3) := by decide +kernel
theorem dX7_sum_4 : decode cX7_sum 4 = .ok (.aload_n 0, 1) := by decide +kernel
theorem dX7_sum_5 : decode cX7_sum 5 = .ok (.bipush 43, 2) := by decide +kernel
theorem dX7_sum_7 : decode cX7_sum 7 = .ok (.invokevirtual 271, 3) := by decide +kernel
theorem dX7_sum_10 : decode cX7_sum 10 = .ok (.ifCond .ne 12, 3) := by decide +kernel
theorem dX7_sum_13 : decode cX7_sum 13 = .ok (.aload_n 0, 1) := by decide +kernel
theorem dX7_sum_14 : decode cX7_sum 14 = .ok (.bipush 45, 2) := by decide +kernel
theorem dX7_sum_16 : decode cX7_sum 16 = .ok (.invokevirtual 271, 3) := by decide +kernel
theorem dX7_sum_19 : decode cX7_sum 19 = .ok (.ifCond .eq 29, 3) := by decide +kernel
theorem dX7_sum_22 : decode cX7_sum 22 = .ok (.aload_n 0, 1) := by decide +kernel
theorem dX7_sum_23 : decode cX7_sum 23 = .ok (.getfield 232, 3) := by decide +kernel
theorem dX7_sum_26 : decode cX7_sum 26 = .ok (.l2i, 1) := by decide +kernel
theorem dX7_sum_27 : decode cX7_sum 27 = .ok (.istore_n 1, 1) := by decide +kernel
theorem dX7_sum_28 : decode cX7_sum 28 = .ok (.aload_n 0, 1) := by decide +kernel
theorem dX7_sum_29 : decode cX7_sum 29 = .ok (.invokevirtual 260, 3) := by decide +kernel
theorem dX7_sum_32 : decode cX7_sum 32 = .ok (.aload_n 0, 1) := by decide +kernel
theorem dX7_sum_33 : decode cX7_sum 33 = .ok (.invokevirtual 300, 3) := by decide +kernel
theorem dX7_sum_36 : decode cX7_sum 36 = .ok (.aload_n 0, 1) := by decide +kernel
theorem dX7_sum_37 : decode cX7_sum 37 = .ok (.sipush 20000, 3) := by decide +kernel
theorem dX7_sum_40 : decode cX7_sum 40 = .ok (.iload_n 1, 1) := by decide +kernel
theorem dX7_sum_41 : decode cX7_sum 41 = .ok (.iadd, 1) := by decide +kernel
theorem dX7_sum_42 : decode cX7_sum 42 = .ok (.invokevirtual 285, 3) := by decide +kernel
theorem dX7_sum_45 : decode cX7_sum 45 = .ok (.goto (-41), 3) := by decide +kernel
theorem dX7_sum_48 : decode cX7_sum 48 = .ok (.return_, 1) := by decide +kernel
theorem dX7_test_0 : decode cX7_test 0 = .ok (.aload_n 0, 1) := by decide +kernel
theorem dX7_test_1 : decode cX7_test 1 = .ok (.invokevirtual 303, 3) := by decide +kernel
theorem dX7_test_4 : decode cX7_test 4 = .ok (.aload_n 0, 1) := by decide +kernel
theorem dX7_test_5 : decode cX7_test 5 = .ok (.bipush 60, 2) := by decide +kernel
theorem dX7_test_7 : decode cX7_test 7 = .ok (.invokevirtual 271, 3) := by decide +kernel
theorem dX7_test_10 : decode cX7_test 10 = .ok (.ifCond .ne 21, 3) := by decide +kernel
theorem dX7_test_13 : decode cX7_test 13 = .ok (.aload_n 0, 1) := by decide +kernel
theorem dX7_test_14 : decode cX7_test 14 = .ok (.bipush 61, 2) := by decide +kernel
theorem dX7_test_16 : decode cX7_test 16 = .ok (.invokevirtual 271, 3) := by decide +kernel
theorem dX7_test_19 : decode cX7_test 19 = .ok (.ifCond .ne 12, 3) := by decide +kernel
theorem dX7_test_22 : decode cX7_test 22 = .ok (.aload_n 0, 1) := by decide +kernel
theorem dX7_test_23 : decode cX7_test 23 = .ok (.bipush 62, 2) := by decide +kernel
theorem dX7_test_25 : decode cX7_test 25 = .ok (.invokevirtual 271, 3) := by decide +kernel
theorem dX7_test_28 : decode cX7_test 28 = .ok (.ifCond .eq 26, 3) := by decide +kernel
theorem dX7_test_31 : decode cX7_test 31 = .ok (.aload_n 0, 1) := by decide +kernel
theorem dX7_test_32 : decode cX7_test 32 = .ok (.getfield 232, 3) := by decide +kernel
theorem dX7_test_35 : decode cX7_test 35 = .ok (.l2i, 1) := by decide +kernel
theorem dX7_test_36 : decode cX7_test 36 = .ok (.istore_n 1, 1) := by decide +kernel
theorem dX7_test_37 : decode cX7_test 37 = .ok (.aload_n 0, 1) := by decide +kernel
theorem dX7_test_38 : decode cX7_test 38 = .ok (.invokevirtual 260, 3) := by decide +kernel
theorem dX7_test_41 : decode cX7_test 41 = .ok (.aload_n 0, 1) := by decide +kernel
theorem dX7_test_42 : decode cX7_test 42 = .ok (.invokevirtual 303, 3) := by decide +kernel
theorem dX7_test_45 : decode cX7_test 45 = .ok (.aload_n 0, 1) := by decide +kernel
theorem dX7_test_46 : decode cX7_test 46 = .ok (.sipush 20000, 3) := by decide +kernel
theorem dX7_test_49 : decode cX7_test 49 = .ok (.iload_n 1, 1) := by decide +kernel
theorem dX7_test_50 : decode cX7_test 50 = .ok (.iadd, 1) := by decide +kernel
theorem dX7_test_51 : decode cX7_test 51 = .ok (.invokevirtual 285, 3) := by decide +kernel
theorem dX7_test_54 : decode cX7_test 54 = .ok (.return_, 1) := by decide +kernel
theorem dX7_both_0 : decode cX7_both 0 = .ok (.aload_n 0, 1) := by decide +kernel
theorem dX7_both_1 : decode cX7_both 1 = .ok (.invokevirtual 306, 3) := by decide +kernel
theorem dX7_both_4 : decode cX7_both 4 = .ok (.aload_n 0, 1) := by decide +kernel
theorem dX7_both_5 : decode cX7_both 5 = .ok (.bipush 38, 2) := by decide +kernel
theorem dX7_both_7 : decode cX7_both 7 = .ok (.invokevirtual 271, 3) := by decide +kernel
theorem dX7_both_10 : decode cX7_both 10 = .ok (.ifCond .eq 21, 3) := by decide +kernel
theorem dX7_both_13 : decode cX7_both 13 = .ok (.aload_n 0, 1) := by decide +kernel
theorem dX7_both_14 : decode cX7_both 14 = .ok (.invokevirtual 260, 3) := by decide +kernel
theorem dX7_both_17 : decode cX7_both 17 = .ok (.aload_n 0, 1) := by decide +kernel
theorem dX7_both_18 : decode cX7_both 18 = .ok (.invokevirtual 306, 3) := by decide +kernel
theorem dX7_both_21 : decode cX7_both 21 = .ok (.aload_n 0, 1) := by decide +kernel
theorem dX7_both_22 : decode cX7_both 22 = .ok (.sipush 20038, 3) := by decide +kernel
theorem dX7_both_25 : decode cX7_both 25 = .ok (.invokevirtual 285, 3) := by decide +kernel
theorem dX7_both_28 : decode cX7_both 28 = .ok (.goto (-24), 3) := by decide +kernel
theorem dX7_both_31 : decode cX7_both 31 = .ok (.return_, 1) := by decide +kernel
theorem dX7_whole_0 : decode cX7_whole 0 = .ok (.aload_n 0, 1) := by decide +kernel
theorem dX7_whole_1 : decode cX7_whole 1 = .ok (.getfield 256, 3) := by decide +kernel
theorem dX7_whole_4 : decode cX7_whole 4 = .ok (.ifCond .eq 4, 3) := by decide +kernel
theorem dX7_whole_7 : decode cX7_whole 7 = .ok (.return_, 1) := by decide +kernel
theorem dX7_whole_8 : decode cX7_whole 8 = .ok (.aload_n 0, 1) := by decide +kernel
theorem dX7_whole_9 : decode cX7_whole 9 = .ok (.invokevirtual 309, 3) := by decide +kernel
theorem dX7_whole_12 : decode cX7_whole 12 = .ok (.aload_n 0, 1) := by decide +kernel
theorem dX7_whole_13 : decode cX7_whole 13 = .ok (.bipush 124, 2) := by decide +kernel
theorem dX7_whole_15 : decode cX7_whole 15 = .ok (.invokevirtual 271, 3) := by decide +kernel
theorem dX7_whole_18 : decode cX7_whole 18 = .ok (.ifCond .eq 21, 3) := by decide +kernel
theorem dX7_whole_21 : decode cX7_whole 21 = .ok (.aload_n 0, 1) := by decide +kernel
theorem dX7_whole_22 : decode cX7_whole 22 = .ok (.invokevirtual 260, 3) := by decide +kernel
theorem dX7_whole_25 : decode cX7_whole 25 = .ok (.aload_n 0, 1) := by decide +kernel
theorem dX7_whole_26 : decode cX7_whole 26 = .ok (.invokevirtual 309, 3) := by decide +kernel
theorem dX7_whole_29 : decode cX7_whole 29 = .ok (.aload_n 0, 1) := by decide +kernel
theorem dX7_whole_30 : decode cX7_whole 30 = .ok (.sipush 20124, 3) := by decide +kernel
theorem dX7_whole_33 : decode cX7_whole 33 = .ok (.invokevirtual 285, 3) := by decide +kernel
theorem dX7_whole_36 : decode cX7_whole 36 = .ok (.goto (-24), 3) := by decide +kernel
theorem dX7_whole_39 : decode cX7_whole 39 = .ok (.return_, 1) := by decide +kernel
theorem dX7_text_0 : decode cX7_text 0 = .ok (.aload_n 0, 1) := by decide +kernel
theorem dX7_text_1 : decode cX7_text 1 = .ok (.iconst 0, 1) := by decide +kernel
theorem dX7_text_2 : decode cX7_text 2 = .ok (.putfield 226, 3) := by decide +kernel
theorem dX7_text_5 : decode cX7_text 5 = .ok (.aload_n 0, 1) := by decide +kernel
theorem dX7_text_6 : decode cX7_text 6 = .ok (.iconst 0, 1) := by decide +kernel
theorem dX7_text_7 : decode cX7_text 7 = .ok (.putfield 253, 3) := by decide +kernel
theorem dX7_text_10 : decode cX7_text 10 = .ok (.aload_n 0, 1) := by decide +kernel
theorem dX7_text_11 : decode cX7_text 11 = .ok (.iconst 0, 1) := by decide +kernel
theorem dX7_text_12 : decode cX7_text 12 = .ok (.putfield 263, 3) := by decide +kernel
theorem dX7_text_15 : decode cX7_text 15 = .ok (.aload_n 0, 1) := by decide +kernel
theorem dX7_text_16 : decode cX7_text 16 = .ok (.iconst 0, 1) := by decide +kernel
theorem dX7_text_17 : decode cX7_text 17 = .ok (.putfield 297, 3) := by decide +kernel
theorem dX7_text_20 : decode cX7_text 20 = .ok (.aload_n 0, 1) := by decide +kernel
theorem dX7_text_21 : decode cX7_text 21 = .ok (.iconst 0, 1) := by decide +kernel
theorem dX7_text_22 : decode cX7_text 22 = .ok (.putfield 288, 3) := by decide +kernel
theorem dX7_text_25 : decode cX7_text 25 = .ok (.aload_n 0, 1) := by decide +kernel
theorem dX7_text_26 : decode cX7_text 26 = .ok (.iconst 0, 1) := by decide +kernel
theorem dX7_text_27 : decode cX7_text 27 = .ok (.putfield 275, 3) := by decide +kernel
theorem dX7_text_30 : decode cX7_text 30 = .ok (.aload_n 0, 1) := by decide +kernel
theorem dX7_text_31 : decode cX7_text 31 = .ok (.iconst 0, 1) := by decide +kernel
theorem dX7_text_32 : decode cX7_text 32 = .ok (.putfield 256, 3) := by decide +kernel
theorem dX7_text_35 : decode cX7_text 35 = .ok (.aload_n 0, 1) := by decide +kernel
theorem dX7_text_36 : decode cX7_text 36 = .ok (.invokevirtual 260, 3) := by decide +kernel
theorem dX7_text_39 : decode cX7_text 39 = .ok (.aload_n 0, 1) := by decide +kernel
theorem dX7_text_40 : decode cX7_text 40 = .ok (.aload_n 0, 1) := by decide +kernel
theorem dX7_text_41 : decode cX7_text 41 = .ok (.getfield 236, 3) := by decide +kernel
theorem dX7_text_44 : decode cX7_text 44 = .ok (.iconst 1, 1) := by decide +kernel
theorem dX7_text_45 : decode cX7_text 45 = .ok (.if_icmp .ne 18, 3) := by decide +kernel
theorem dX7_text_48 : decode cX7_text 48 = .ok (.aload_n 0, 1) := by decide +kernel
theorem dX7_text_49 : decode cX7_text 49 = .ok (.getfield 232, 3) := by decide +kernel
theorem dX7_text_52 : decode cX7_text 52 = .ok (.ldc2_w 312, 3) := by decide +kernel
theorem dX7_text_55 : decode cX7_text 55 = .ok (.lcmp, 1) := by decide +kernel
theorem dX7_text_56 : decode cX7_text 56 = .ok (.ifCond .ne 7, 3) := by decide +kernel
theorem dX7_text_59 : decode cX7_text 59 = .ok (.iconst 0, 1) := by decide +kernel
theorem dX7_text_60 : decode cX7_text 60 = .ok (.goto 50, 3) := by decide +kernel
theorem dX7_text_63 : decode cX7_text 63 = .ok (.aload_n 0, 1) := by decide +kernel
theorem dX7_text_64 : decode cX7_text 64 = .ok (.getfield 236, 3) := by decide +kernel
theorem dX7_text_67 : decode cX7_text 67 = .ok (.iconst 1, 1) := by decide +kernel
theorem dX7_text_68 : decode cX7_text 68 = .ok (.if_icmp .ne 18, 3) := by decide +kernel
theorem dX7_text_71 : decode cX7_text 71 = .ok (.aload_n 0, 1) := by decide +kernel
theorem dX7_text_72 : decode cX7_text 72 = .ok (.getfield 232, 3) := by decide +kernel
theorem dX7_text_75 : decode cX7_text 75 = .ok (.ldc2_w 314, 3) := by decide +kernel
theorem dX7_text_78 : decode cX7_text 78 = .ok (.lcmp, 1) := by decide +kernel
theorem dX7_text_79 : decode cX7_text 79 = .ok (.ifCond .ne 7, 3) := by decide +kernel
theorem dX7_text_82 : decode cX7_text 82 = .ok (.iconst 1, 1) := by decide +kernel
theorem dX7_text_83 : decode cX7_text 83 = .ok (.goto 27, 3) := by decide +kernel
theorem dX7_text_86 : decode cX7_text 86 = .ok (.aload_n 0, 1) := by decide +kernel
theorem dX7_text_87 : decode cX7_text 87 = .ok (.getfield 236, 3) := by decide +kernel
theorem dX7_text_90 : decode cX7_text 90 = .ok (.iconst 1, 1) := by decide +kernel
theorem dX7_text_91 : decode cX7_text 91 = .ok (.if_icmp .ne 18, 3) := by decide +kernel
theorem dX7_text_94 : decode cX7_text 94 = .ok (.aload_n 0, 1) := by decide +kernel
theorem dX7_text_95 : decode cX7_text 95 = .ok (.getfield 232, 3) := by decide +kernel
theorem dX7_text_98 : decode cX7_text 98 = .ok (.ldc2_w 316, 3) := by decide +kernel
theorem dX7_text_101 : decode cX7_text 101 = .ok (.lcmp, 1) := by decide +kernel
theorem dX7_text_102 : decode cX7_text 102 = .ok (.ifCond .ne 7, 3) := by decide +kernel
theorem dX7_text_105 : decode cX7_text 105 = .ok (.iconst 2, 1) := by decide +kernel
theorem dX7_text_106 : decode cX7_text 106 = .ok (.goto 4, 3) := by decide +kernel
theorem dX7_text_109 : decode cX7_text 109 = .ok (.iconst (-1), 1) := by decide +kernel
theorem dX7_text_110 : decode cX7_text 110 = .ok (.putfield 268, 3) := by decide +kernel
theorem dX7_text_113 : decode cX7_text 113 = .ok (.aload_n 0, 1) := by decide +kernel
theorem dX7_text_114 : decode cX7_text 114 = .ok (.aload_n 0, 1) := by decide +kernel
theorem dX7_text_115 : decode cX7_text 115 = .ok (.getfield 268, 3) := by decide +kernel
theorem dX7_text_118 : decode cX7_text 118 = .ok (.ifCond .lt 7, 3) := by decide +kernel
theorem dX7_text_121 : decode cX7_text 121 = .ok (.iconst 1, 1) := by decide +kernel
theorem dX7_text_122 : decode cX7_text 122 = .ok (.goto 4, 3) := by decide +kernel
theorem dX7_text_125 : decode cX7_text 125 = .ok (.iconst 0, 1) := by decide +kernel
theorem dX7_text_126 : decode cX7_text 126 = .ok (.invokevirtual 278, 3) := by decide +kernel
theorem dX7_text_129 : decode cX7_text 129 = .ok (.aload_n 0, 1) := by decide +kernel
theorem dX7_text_130 : decode cX7_text 130 = .ok (.invokevirtual 291, 3) := by decide +kernel
theorem dX7_text_133 : decode cX7_text 133 = .ok (.aload_n 0, 1) := by decide +kernel
theorem dX7_text_134 : decode cX7_text 134 = .ok (.aload_n 0, 1) := by decide +kernel
theorem dX7_text_135 : decode cX7_text 135 = .ok (.getfield 256, 3) := by decide +kernel
theorem dX7_text_138 : decode cX7_text 138 = .ok (.ifCond .ne 10, 3) := by decide +kernel
theorem dX7_text_141 : decode cX7_text 141 = .ok (.aload_n 0, 1) := by decide +kernel
theorem dX7_text_142 : decode cX7_text 142 = .ok (.getfield 236, 3) := by decide +kernel
theorem dX7_text_145 : decode cX7_text 145 = .ok (.ifCond .eq 7, 3) := by decide +kernel
theorem dX7_text_148 : decode cX7_text 148 = .ok (.iconst 1, 1) := by decide +kernel
theorem dX7_text_149 : decode cX7_text 149 = .ok (.goto 4, 3) := by decide +kernel
theorem dX7_text_152 : decode cX7_text 152 = .ok (.iconst 0, 1) := by decide +kernel
theorem dX7_text_153 : decode cX7_text 153 = .ok (.putfield 256, 3) := by decide +kernel
theorem dX7_text_156 : decode cX7_text 156 = .ok (.aload_n 0, 1) := by decide +kernel
theorem dX7_text_157 : decode cX7_text 157 = .ok (.iconst 0, 1) := by decide +kernel
theorem dX7_text_158 : decode cX7_text 158 = .ok (.putfield 222, 3) := by decide +kernel
theorem dX7_text_161 : decode cX7_text 161 = .ok (.aload_n 0, 1) := by decide +kernel
theorem dX7_text_162 : decode cX7_text 162 = .ok (.getfield 256, 3) := by decide +kernel
theorem dX7_text_165 : decode cX7_text 165 = .ok (.ifCond .eq 11, 3) := by decide +kernel
theorem dX7_text_168 : decode cX7_text 168 = .ok (.bipush (-100), 2) := by decide +kernel
theorem dX7_text_170 : decode cX7_text 170 = .ok (.aload_n 0, 1) := by decide +kernel
theorem dX7_text_171 : decode cX7_text 171 = .ok (.getfield 229, 3) := by decide +kernel
theorem dX7_text_174 : decode cX7_text 174 = .ok (.isub, 1) := by decide +kernel
theorem dX7_text_175 : decode cX7_text 175 = .ok (.ireturn, 1) := by decide +kernel
theorem dX7_text_176 : decode cX7_text 176 = .ok (.aload_n 0, 1) := by decide +kernel
theorem dX7_text_177 : decode cX7_text 177 = .ok (.getfield 7, 3) := by decide +kernel
theorem dX7_text_180 : decode cX7_text 180 = .ok (.bipush 9, 2) := by decide +kernel
theorem dX7_text_182 : decode cX7_text 182 = .ok (.iaload, 1) := by decide +kernel
theorem dX7_text_183 : decode cX7_text 183 = .ok (.bipush 14, 2) := by decide +kernel
theorem dX7_text_185 : decode cX7_text 185 = .ok (.if_icmp .ne 6, 3) := by decide +kernel
theorem dX7_text_188 : decode cX7_text 188 = .ok (.ldc 156, 2) := by decide +kernel
theorem dX7_text_190 : decode cX7_text 190 = .ok (.ireturn, 1) := by decide +kernel
theorem dX7_text_191 : decode cX7_text 191 = .ok (.aload_n 0, 1) := by decide +kernel
theorem dX7_text_192 : decode cX7_text 192 = .ok (.getfield 7, 3) := by decide +kernel
theorem dX7_text_195 : decode cX7_text 195 = .ok (.bipush 9, 2) := by decide +kernel
theorem dX7_text_197 : decode cX7_text 197 = .ok (.iaload, 1) := by decide +kernel
theorem dX7_text_198 : decode cX7_text 198 = .ok (.istore_n 1, 1) := by decide +kernel
theorem dX7_text_199 : decode cX7_text 199 = .ok (.aload_n 0, 1) := by decide +kernel
theorem dX7_text_200 : decode cX7_text 200 = .ok (.getfield 25, 3) := by decide +kernel
theorem dX7_text_203 : decode cX7_text 203 = .ok (.iload_n 1, 1) := by decide +kernel
theorem dX7_text_204 : decode cX7_text 204 = .ok (.aload_n 0, 1) := by decide +kernel
theorem dX7_text_205 : decode cX7_text 205 = .ok (.getfield 268, 3) := by decide +kernel
theorem dX7_text_208 : decode cX7_text 208 = .ok (.iastore, 1) := by decide +kernel
theorem dX7_text_209 : decode cX7_text 209 = .ok (.aload_n 0, 1) := by decide +kernel
theorem dX7_text_210 : decode cX7_text 210 = .ok (.getfield 28, 3) := by decide +kernel
theorem dX7_text_213 : decode cX7_text 213 = .ok (.iload_n 1, 1) := by decide +kernel
theorem dX7_text_214 : decode cX7_text 214 = .ok (.aload_n 0, 1) := by decide +kernel
theorem dX7_text_215 : decode cX7_text 215 = .ok (.getfield 263, 3) := by decide +kernel
theorem dX7_text_218 : decode cX7_text 218 = .ok (.iastore, 1) := by decide +kernel
theorem dX7_text_219 : decode cX7_text 219 = .ok (.aload_n 0, 1) := by decide +kernel
theorem dX7_text_220 : decode cX7_text 220 = .ok (.getfield 31, 3) := by decide +kernel
theorem dX7_text_223 : decode cX7_text 223 = .ok (.iload_n 1, 1) := by decide +kernel
theorem dX7_text_224 : decode cX7_text 224 = .ok (.aload_n 0, 1) := by decide +kernel
theorem dX7_text_225 : decode cX7_text 225 = .ok (.getfield 297, 3) := by decide +kernel
theorem dX7_text_228 : decode cX7_text 228 = .ok (.iastore, 1) := by decide +kernel
theorem dX7_text_229 : decode cX7_text 229 = .ok (.iconst 0, 1) := by decide +kernel
theorem dX7_text_230 : decode cX7_text 230 = .ok (.istore_n 2, 1) := by decide +kernel
theorem dX7_text_231 : decode cX7_text 231 = .ok (.iload_n 2, 1) := by decide +kernel
theorem dX7_text_232 : decode cX7_text 232 = .ok (.aload_n 0, 1) := by decide +kernel
theorem dX7_text_233 : decode cX7_text 233 = .ok (.getfield 263, 3) := by decide +kernel
theorem dX7_text_236 : decode cX7_text 236 = .ok (.if_icmp .ge 26, 3) := by decide +kernel
theorem dX7_text_239 : decode cX7_text 239 = .ok (.aload_n 0, 1) := by decide +kernel
theorem dX7_text_240 : decode cX7_text 240 = .ok (.getfield 22, 3) := by decide +kernel
theorem dX7_text_243 : decode cX7_text 243 = .ok (.bipush 96, 2) := by decide +kernel
theorem dX7_text_245 : decode cX7_text 245 = .ok (.iload_n 1, 1) := by decide +kernel
theorem dX7_text_246 : decode cX7_text 246 = .ok (.imul, 1) := by decide +kernel
theorem dX7_text_247 : decode cX7_text 247 = .ok (.iload_n 2, 1) := by decide +kernel
theorem dX7_text_248 : decode cX7_text 248 = .ok (.iadd, 1) := by decide +kernel
theorem dX7_text_249 : decode cX7_text 249 = .ok (.aload_n 0, 1) := by decide +kernel
theorem dX7_text_250 : decode cX7_text 250 = .ok (.getfield 40, 3) := by decide +kernel
theorem dX7_text_253 : decode cX7_text 253 = .ok (.iload_n 2, 1) := by decide +kernel
theorem dX7_text_254 : decode cX7_text 254 = .ok (.iaload, 1) := by decide +kernel
theorem dX7_text_255 : decode cX7_text 255 = .ok (.iastore, 1) := by decide +kernel
theorem dX7_text_256 : decode cX7_text 256 = .ok (.iinc 2 1, 3) := by decide +kernel
theorem dX7_text_259 : decode cX7_text 259 = .ok (.goto (-28), 3) := by decide +kernel
theorem dX7_text_262 : decode cX7_text 262 = .ok (.aload_n 0, 1) := by decide +kernel
theorem dX7_text_263 : decode cX7_text 263 = .ok (.getfield 7, 3) := by decide +kernel
theorem dX7_text_266 : decode cX7_text 266 = .ok (.bipush 9, 2) := by decide +kernel
theorem dX7_text_268 : decode cX7_text 268 = .ok (.dup2, 1) := by decide +kernel
theorem dX7_text_269 : decode cX7_text 269 = .ok (.iaload, 1) := by decide +kernel
theorem dX7_text_270 : decode cX7_text 270 = .ok (.iconst 1, 1) := by decide +kernel
theorem dX7_text_271 : decode cX7_text 271 = .ok (.iadd, 1) := by decide +kernel
theorem dX7_text_272 : decode cX7_text 272 = .ok (.iastore, 1) := by decide +kernel
theorem dX7_text_273 : decode cX7_text 273 = .ok (.iload_n 1, 1) := by decide +kernel
theorem dX7_text_274 : decode cX7_text 274 = .ok (.ireturn, 1) := by decide +kernel
theorem dX7_textTold_0 : decode cX7_textTold 0 = .ok (.iload_n 1, 1) := by decide +kernel
theorem dX7_textTold_1 : decode cX7_textTold 1 = .ok (.i2l, 1) := by decide +kernel
theorem dX7_textTold_2 : decode cX7_textTold 2 = .ok (.lconst 0, 1) := by decide +kernel
theorem dX7_textTold_3 : decode cX7_textTold 3 = .ok (.aload_n 0, 1) := by decide +kernel
theorem dX7_textTold_4 : decode cX7_textTold 4 = .ok (.getfield 7, 3) := by decide +kernel
theorem dX7_textTold_7 : decode cX7_textTold 7 = .ok (.bipush 9, 2) := by decide +kernel
theorem dX7_textTold_9 : decode cX7_textTold 9 = .ok (.iaload, 1) := by decide +kernel
theorem dX7_textTold_10 : decode cX7_textTold 10 = .ok (.iconst 1, 1) := by decide +kernel
theorem dX7_textTold_11 : decode cX7_textTold 11 = .ok (.isub, 1) := by decide +kernel
theorem dX7_textTold_12 : decode cX7_textTold 12 = .ok (.i2l, 1) := by decide +kernel
theorem dX7_textTold_13 : decode cX7_textTold 13 = .ok (.invokestatic 86, 3) := by decide +kernel
theorem dX7_textTold_16 : decode cX7_textTold 16 = .ok (.ifCond .eq 13, 3) := by decide +kernel
theorem dX7_textTold_19 : decode cX7_textTold 19 = .ok (.iload_n 2, 1) := by decide +kernel
theorem dX7_textTold_20 : decode cX7_textTold 20 = .ok (.i2l, 1) := by decide +kernel
theorem dX7_textTold_21 : decode cX7_textTold 21 = .ok (.lconst 0, 1) := by decide +kernel
theorem dX7_textTold_22 : decode cX7_textTold 22 = .ok (.lconst 1, 1) := by decide +kernel
theorem dX7_textTold_23 : decode cX7_textTold 23 = .ok (.invokestatic 86, 3) := by decide +kernel
theorem dX7_textTold_26 : decode cX7_textTold 26 = .ok (.ifCond .ne 6, 3) := by decide +kernel
theorem dX7_textTold_29 : decode cX7_textTold 29 = .ok (.ldc 155, 2) := by decide +kernel
theorem dX7_textTold_31 : decode cX7_textTold 31 = .ok (.ireturn, 1) := by decide +kernel
theorem dX7_textTold_32 : decode cX7_textTold 32 = .ok (.iload_n 2, 1) := by decide +kernel
theorem dX7_textTold_33 : decode cX7_textTold 33 = .ok (.ifCond .ne 12, 3) := by decide +kernel
theorem dX7_textTold_36 : decode cX7_textTold 36 = .ok (.aload_n 0, 1) := by decide +kernel
theorem dX7_textTold_37 : decode cX7_textTold 37 = .ok (.getfield 25, 3) := by decide +kernel
theorem dX7_textTold_40 : decode cX7_textTold 40 = .ok (.iload_n 1, 1) := by decide +kernel
theorem dX7_textTold_41 : decode cX7_textTold 41 = .ok (.iaload, 1) := by decide +kernel
theorem dX7_textTold_42 : decode cX7_textTold 42 = .ok (.goto 9, 3) := by decide +kernel
theorem dX7_textTold_45 : decode cX7_textTold 45 = .ok (.aload_n 0, 1) := by decide +kernel
theorem dX7_textTold_46 : decode cX7_textTold 46 = .ok (.getfield 31, 3) := by decide +kernel
theorem dX7_textTold_49 : decode cX7_textTold 49 = .ok (.iload_n 1, 1) := by decide +kernel
theorem dX7_textTold_50 : decode cX7_textTold 50 = .ok (.iaload, 1) := by decide +kernel
theorem dX7_textTold_51 : decode cX7_textTold 51 = .ok (.ireturn, 1) := by decide +kernel
theorem dX7_why_0 : decode cX7_why 0 = .ok (.iload_n 1, 1) := by decide +kernel
theorem dX7_why_1 : decode cX7_why 1 = .ok (.i2l, 1) := by decide +kernel
theorem dX7_why_2 : decode cX7_why 2 = .ok (.lconst 0, 1) := by decide +kernel
theorem dX7_why_3 : decode cX7_why 3 = .ok (.ldc2_w 179, 3) := by decide +kernel
theorem dX7_why_6 : decode cX7_why 6 = .ok (.invokestatic 86, 3) := by decide +kernel
theorem dX7_why_9 : decode cX7_why 9 = .ok (.ifCond .ne 6, 3) := by decide +kernel
theorem dX7_why_12 : decode cX7_why 12 = .ok (.ldc 155, 2) := by decide +kernel
theorem dX7_why_14 : decode cX7_why 14 = .ok (.ireturn, 1) := by decide +kernel
theorem dX7_why_15 : decode cX7_why 15 = .ok (.aload_n 0, 1) := by decide +kernel
theorem dX7_why_16 : decode cX7_why 16 = .ok (.iload_n 1, 1) := by decide +kernel
theorem dX7_why_17 : decode cX7_why 17 = .ok (.invokevirtual 98, 3) := by decide +kernel
theorem dX7_why_20 : decode cX7_why 20 = .ok (.istore_n 2, 1) := by decide +kernel
theorem dX7_why_21 : decode cX7_why 21 = .ok (.iload_n 2, 1) := by decide +kernel
theorem dX7_why_22 : decode cX7_why 22 = .ok (.ifCond .ge 8, 3) := by decide +kernel
theorem dX7_why_25 : decode cX7_why 25 = .ok (.ldc 150, 2) := by decide +kernel
theorem dX7_why_27 : decode cX7_why 27 = .ok (.goto 4, 3) := by decide +kernel
theorem dX7_why_30 : decode cX7_why 30 = .ok (.iload_n 2, 1) := by decide +kernel
theorem dX7_why_31 : decode cX7_why 31 = .ok (.ireturn, 1) := by decide +kernel
theorem dX7_isSheet_0 : decode cX7_isSheet 0 = .ok (.iload_n 0, 1) := by decide +kernel
theorem dX7_isSheet_1 : decode cX7_isSheet 1 = .ok (.i2l, 1) := by decide +kernel
theorem dX7_isSheet_2 : decode cX7_isSheet 2 = .ok (.lconst 0, 1) := by decide +kernel
theorem dX7_isSheet_3 : decode cX7_isSheet 3 = .ok (.ldc2_w 318, 3) := by decide +kernel
theorem dX7_isSheet_6 : decode cX7_isSheet 6 = .ok (.invokestatic 86, 3) := by decide +kernel
theorem dX7_isSheet_9 : decode cX7_isSheet 9 = .ok (.ireturn, 1) := by decide +kernel
theorem dX7_sheet_0 : decode cX7_sheet 0 = .ok (.iload_n 1, 1) := by decide +kernel
theorem dX7_sheet_1 : decode cX7_sheet 1 = .ok (.invokestatic 218, 3) := by decide +kernel
theorem dX7_sheet_4 : decode cX7_sheet 4 = .ok (.ifCond .eq 25, 3) := by decide +kernel
theorem dX7_sheet_7 : decode cX7_sheet 7 = .ok (.iload_n 2, 1) := by decide +kernel
theorem dX7_sheet_8 : decode cX7_sheet 8 = .ok (.i2l, 1) := by decide +kernel
theorem dX7_sheet_9 : decode cX7_sheet 9 = .ok (.ldc2_w 247, 3) := by decide +kernel
theorem dX7_sheet_12 : decode cX7_sheet 12 = .ok (.lconst 1, 1) := by decide +kernel
theorem dX7_sheet_13 : decode cX7_sheet 13 = .ok (.invokestatic 86, 3) := by decide +kernel
theorem dX7_sheet_16 : decode cX7_sheet 16 = .ok (.ifCond .eq 13, 3) := by decide +kernel
theorem dX7_sheet_19 : decode cX7_sheet 19 = .ok (.iload_n 2, 1) := by decide +kernel
theorem dX7_sheet_20 : decode cX7_sheet 20 = .ok (.ifCond .lt 12, 3) := by decide +kernel
theorem dX7_sheet_23 : decode cX7_sheet 23 = .ok (.iload_n 3, 1) := by decide +kernel
theorem dX7_sheet_24 : decode cX7_sheet 24 = .ok (.bipush 24, 2) := by decide +kernel
theorem dX7_sheet_26 : decode cX7_sheet 26 = .ok (.if_icmp .le 6, 3) := by decide +kernel
theorem dX7_sheet_29 : decode cX7_sheet 29 = .ok (.ldc 155, 2) := by decide +kernel
theorem dX7_sheet_31 : decode cX7_sheet 31 = .ok (.ireturn, 1) := by decide +kernel
theorem dX7_sheet_32 : decode cX7_sheet 32 = .ok (.iload_n 2, 1) := by decide +kernel
theorem dX7_sheet_33 : decode cX7_sheet 33 = .ok (.ifCond .lt 11, 3) := by decide +kernel
theorem dX7_sheet_36 : decode cX7_sheet 36 = .ok (.iload_n 3, 1) := by decide +kernel
theorem dX7_sheet_37 : decode cX7_sheet 37 = .ok (.ifCond .ge 7, 3) := by decide +kernel
theorem dX7_sheet_40 : decode cX7_sheet 40 = .ok (.ldc_w 320, 3) := by decide +kernel
theorem dX7_sheet_43 : decode cX7_sheet 43 = .ok (.ireturn, 1) := by decide +kernel
theorem dX7_sheet_44 : decode cX7_sheet 44 = .ok (.aload_n 0, 1) := by decide +kernel
theorem dX7_sheet_45 : decode cX7_sheet 45 = .ok (.getfield 43, 3) := by decide +kernel
theorem dX7_sheet_48 : decode cX7_sheet 48 = .ok (.iload_n 1, 1) := by decide +kernel
theorem dX7_sheet_49 : decode cX7_sheet 49 = .ok (.iload_n 2, 1) := by decide +kernel
theorem dX7_sheet_50 : decode cX7_sheet 50 = .ok (.iastore, 1) := by decide +kernel
theorem dX7_sheet_51 : decode cX7_sheet 51 = .ok (.aload_n 0, 1) := by decide +kernel
theorem dX7_sheet_52 : decode cX7_sheet 52 = .ok (.getfield 46, 3) := by decide +kernel
theorem dX7_sheet_55 : decode cX7_sheet 55 = .ok (.iload_n 1, 1) := by decide +kernel
theorem dX7_sheet_56 : decode cX7_sheet 56 = .ok (.iload_n 2, 1) := by decide +kernel
theorem dX7_sheet_57 : decode cX7_sheet 57 = .ok (.ifCond .ge 7, 3) := by decide +kernel
theorem dX7_sheet_60 : decode cX7_sheet 60 = .ok (.iconst 0, 1) := by decide +kernel
theorem dX7_sheet_61 : decode cX7_sheet 61 = .ok (.goto 4, 3) := by decide +kernel
theorem dX7_sheet_64 : decode cX7_sheet 64 = .ok (.iload_n 3, 1) := by decide +kernel
theorem dX7_sheet_65 : decode cX7_sheet 65 = .ok (.iastore, 1) := by decide +kernel
theorem dX7_sheet_66 : decode cX7_sheet 66 = .ok (.iconst 0, 1) := by decide +kernel
theorem dX7_sheet_67 : decode cX7_sheet 67 = .ok (.istore 4, 2) := by decide +kernel
theorem dX7_sheet_69 : decode cX7_sheet 69 = .ok (.iload 4, 2) := by decide +kernel
theorem dX7_sheet_71 : decode cX7_sheet 71 = .ok (.bipush 24, 2) := by decide +kernel
theorem dX7_sheet_73 : decode cX7_sheet 73 = .ok (.if_icmp .ge 35, 3) := by decide +kernel
theorem dX7_sheet_76 : decode cX7_sheet 76 = .ok (.aload_n 0, 1) := by decide +kernel
theorem dX7_sheet_77 : decode cX7_sheet 77 = .ok (.getfield 49, 3) := by decide +kernel
theorem dX7_sheet_80 : decode cX7_sheet 80 = .ok (.bipush 24, 2) := by decide +kernel
theorem dX7_sheet_82 : decode cX7_sheet 82 = .ok (.iload_n 1, 1) := by decide +kernel
theorem dX7_sheet_83 : decode cX7_sheet 83 = .ok (.imul, 1) := by decide +kernel
theorem dX7_sheet_84 : decode cX7_sheet 84 = .ok (.iload 4, 2) := by decide +kernel
theorem dX7_sheet_86 : decode cX7_sheet 86 = .ok (.iadd, 1) := by decide +kernel
theorem dX7_sheet_87 : decode cX7_sheet 87 = .ok (.iconst 0, 1) := by decide +kernel
theorem dX7_sheet_88 : decode cX7_sheet 88 = .ok (.iastore, 1) := by decide +kernel
theorem dX7_sheet_89 : decode cX7_sheet 89 = .ok (.aload_n 0, 1) := by decide +kernel
theorem dX7_sheet_90 : decode cX7_sheet 90 = .ok (.getfield 52, 3) := by decide +kernel
theorem dX7_sheet_93 : decode cX7_sheet 93 = .ok (.bipush 24, 2) := by decide +kernel
theorem dX7_sheet_95 : decode cX7_sheet 95 = .ok (.iload_n 1, 1) := by decide +kernel
theorem dX7_sheet_96 : decode cX7_sheet 96 = .ok (.imul, 1) := by decide +kernel
theorem dX7_sheet_97 : decode cX7_sheet 97 = .ok (.iload 4, 2) := by decide +kernel
theorem dX7_sheet_99 : decode cX7_sheet 99 = .ok (.iadd, 1) := by decide +kernel
theorem dX7_sheet_100 : decode cX7_sheet 100 = .ok (.iconst 1, 1) := by decide +kernel
theorem dX7_sheet_101 : decode cX7_sheet 101 = .ok (.bastore, 1) := by decide +kernel
theorem dX7_sheet_102 : decode cX7_sheet 102 = .ok (.iinc 4 1, 3) := by decide +kernel
theorem dX7_sheet_105 : decode cX7_sheet 105 = .ok (.goto (-36), 3) := by decide +kernel
theorem dX7_sheet_108 : decode cX7_sheet 108 = .ok (.aload_n 0, 1) := by decide +kernel
theorem dX7_sheet_109 : decode cX7_sheet 109 = .ok (.getfield 46, 3) := by decide +kernel
theorem dX7_sheet_112 : decode cX7_sheet 112 = .ok (.iload_n 1, 1) := by decide +kernel
theorem dX7_sheet_113 : decode cX7_sheet 113 = .ok (.iaload, 1) := by decide +kernel
theorem dX7_sheet_114 : decode cX7_sheet 114 = .ok (.ireturn, 1) := by decide +kernel
theorem dX7_mark_0 : decode cX7_mark 0 = .ok (.iload_n 1, 1) := by decide +kernel
theorem dX7_mark_1 : decode cX7_mark 1 = .ok (.invokestatic 218, 3) := by decide +kernel
theorem dX7_mark_4 : decode cX7_mark 4 = .ok (.ifCond .ne 6, 3) := by decide +kernel
theorem dX7_mark_7 : decode cX7_mark 7 = .ok (.ldc 155, 2) := by decide +kernel
theorem dX7_mark_9 : decode cX7_mark 9 = .ok (.ireturn, 1) := by decide +kernel
theorem dX7_mark_10 : decode cX7_mark 10 = .ok (.aload_n 0, 1) := by decide +kernel
theorem dX7_mark_11 : decode cX7_mark 11 = .ok (.getfield 43, 3) := by decide +kernel
theorem dX7_mark_14 : decode cX7_mark 14 = .ok (.iload_n 1, 1) := by decide +kernel
theorem dX7_mark_15 : decode cX7_mark 15 = .ok (.iaload, 1) := by decide +kernel
theorem dX7_mark_16 : decode cX7_mark 16 = .ok (.ifCond .ge 6, 3) := by decide +kernel
theorem dX7_mark_19 : decode cX7_mark 19 = .ok (.ldc 221, 2) := by decide +kernel
theorem dX7_mark_21 : decode cX7_mark 21 = .ok (.ireturn, 1) := by decide +kernel
theorem dX7_mark_22 : decode cX7_mark 22 = .ok (.iload_n 2, 1) := by decide +kernel
theorem dX7_mark_23 : decode cX7_mark 23 = .ok (.i2l, 1) := by decide +kernel
theorem dX7_mark_24 : decode cX7_mark 24 = .ok (.lconst 0, 1) := by decide +kernel
theorem dX7_mark_25 : decode cX7_mark 25 = .ok (.aload_n 0, 1) := by decide +kernel
theorem dX7_mark_26 : decode cX7_mark 26 = .ok (.getfield 46, 3) := by decide +kernel
theorem dX7_mark_29 : decode cX7_mark 29 = .ok (.iload_n 1, 1) := by decide +kernel
theorem dX7_mark_30 : decode cX7_mark 30 = .ok (.iaload, 1) := by decide +kernel
theorem dX7_mark_31 : decode cX7_mark 31 = .ok (.iconst 1, 1) := by decide +kernel
theorem dX7_mark_32 : decode cX7_mark 32 = .ok (.isub, 1) := by decide +kernel
theorem dX7_mark_33 : decode cX7_mark 33 = .ok (.i2l, 1) := by decide +kernel
theorem dX7_mark_34 : decode cX7_mark 34 = .ok (.invokestatic 86, 3) := by decide +kernel
theorem dX7_mark_37 : decode cX7_mark 37 = .ok (.ifCond .ne 7, 3) := by decide +kernel
theorem dX7_mark_40 : decode cX7_mark 40 = .ok (.ldc_w 321, 3) := by decide +kernel
theorem dX7_mark_43 : decode cX7_mark 43 = .ok (.ireturn, 1) := by decide +kernel
theorem dX7_mark_44 : decode cX7_mark 44 = .ok (.aload_n 0, 1) := by decide +kernel
theorem dX7_mark_45 : decode cX7_mark 45 = .ok (.getfield 43, 3) := by decide +kernel
theorem dX7_mark_48 : decode cX7_mark 48 = .ok (.iload_n 1, 1) := by decide +kernel
theorem dX7_mark_49 : decode cX7_mark 49 = .ok (.iaload, 1) := by decide +kernel
theorem dX7_mark_50 : decode cX7_mark 50 = .ok (.ifCond .ne 12, 3) := by decide +kernel
theorem dX7_mark_53 : decode cX7_mark 53 = .ok (.iload_n 3, 1) := by decide +kernel
theorem dX7_mark_54 : decode cX7_mark 54 = .ok (.ldc 150, 2) := by decide +kernel
theorem dX7_mark_56 : decode cX7_mark 56 = .ok (.if_icmp .ne 6, 3) := by decide +kernel
theorem dX7_mark_59 : decode cX7_mark 59 = .ok (.ldc 171, 2) := by decide +kernel
theorem dX7_mark_61 : decode cX7_mark 61 = .ok (.ireturn, 1) := by decide +kernel
theorem dX7_mark_62 : decode cX7_mark 62 = .ok (.aload_n 0, 1) := by decide +kernel
theorem dX7_mark_63 : decode cX7_mark 63 = .ok (.getfield 43, 3) := by decide +kernel
theorem dX7_mark_66 : decode cX7_mark 66 = .ok (.iload_n 1, 1) := by decide +kernel
theorem dX7_mark_67 : decode cX7_mark 67 = .ok (.iaload, 1) := by decide +kernel
theorem dX7_mark_68 : decode cX7_mark 68 = .ok (.iconst 1, 1) := by decide +kernel
theorem dX7_mark_69 : decode cX7_mark 69 = .ok (.if_icmp .ne 26, 3) := by decide +kernel
theorem dX7_mark_72 : decode cX7_mark 72 = .ok (.iload_n 3, 1) := by decide +kernel
theorem dX7_mark_73 : decode cX7_mark 73 = .ok (.ldc 150, 2) := by decide +kernel
theorem dX7_mark_75 : decode cX7_mark 75 = .ok (.if_icmp .eq 20, 3) := by decide +kernel
theorem dX7_mark_78 : decode cX7_mark 78 = .ok (.iload_n 3, 1) := by decide +kernel
theorem dX7_mark_79 : decode cX7_mark 79 = .ok (.i2l, 1) := by decide +kernel
theorem dX7_mark_80 : decode cX7_mark 80 = .ok (.ldc2_w 322, 3) := by decide +kernel
theorem dX7_mark_83 : decode cX7_mark 83 = .ok (.ldc2_w 216, 3) := by decide +kernel
theorem dX7_mark_86 : decode cX7_mark 86 = .ok (.invokestatic 86, 3) := by decide +kernel
theorem dX7_mark_89 : decode cX7_mark 89 = .ok (.ifCond .ne 6, 3) := by decide +kernel
theorem dX7_mark_92 : decode cX7_mark 92 = .ok (.ldc 155, 2) := by decide +kernel
theorem dX7_mark_94 : decode cX7_mark 94 = .ok (.ireturn, 1) := by decide +kernel
theorem dX7_mark_95 : decode cX7_mark 95 = .ok (.aload_n 0, 1) := by decide +kernel
theorem dX7_mark_96 : decode cX7_mark 96 = .ok (.getfield 52, 3) := by decide +kernel
theorem dX7_mark_99 : decode cX7_mark 99 = .ok (.bipush 24, 2) := by decide +kernel
theorem dX7_mark_101 : decode cX7_mark 101 = .ok (.iload_n 1, 1) := by decide +kernel
theorem dX7_mark_102 : decode cX7_mark 102 = .ok (.imul, 1) := by decide +kernel
theorem dX7_mark_103 : decode cX7_mark 103 = .ok (.iload_n 2, 1) := by decide +kernel
theorem dX7_mark_104 : decode cX7_mark 104 = .ok (.iadd, 1) := by decide +kernel
theorem dX7_mark_105 : decode cX7_mark 105 = .ok (.iload_n 3, 1) := by decide +kernel
theorem dX7_mark_106 : decode cX7_mark 106 = .ok (.ldc 150, 2) := by decide +kernel
theorem dX7_mark_108 : decode cX7_mark 108 = .ok (.if_icmp .eq 7, 3) := by decide +kernel
theorem dX7_mark_111 : decode cX7_mark 111 = .ok (.iconst 1, 1) := by decide +kernel
theorem dX7_mark_112 : decode cX7_mark 112 = .ok (.goto 4, 3) := by decide +kernel
theorem dX7_mark_115 : decode cX7_mark 115 = .ok (.iconst 0, 1) := by decide +kernel
theorem dX7_mark_116 : decode cX7_mark 116 = .ok (.bastore, 1) := by decide +kernel
theorem dX7_mark_117 : decode cX7_mark 117 = .ok (.aload_n 0, 1) := by decide +kernel
theorem dX7_mark_118 : decode cX7_mark 118 = .ok (.getfield 49, 3) := by decide +kernel
theorem dX7_mark_121 : decode cX7_mark 121 = .ok (.bipush 24, 2) := by decide +kernel
theorem dX7_mark_123 : decode cX7_mark 123 = .ok (.iload_n 1, 1) := by decide +kernel
theorem dX7_mark_124 : decode cX7_mark 124 = .ok (.imul, 1) := by decide +kernel
theorem dX7_mark_125 : decode cX7_mark 125 = .ok (.iload_n 2, 1) := by decide +kernel
theorem dX7_mark_126 : decode cX7_mark 126 = .ok (.iadd, 1) := by decide +kernel
theorem dX7_mark_127 : decode cX7_mark 127 = .ok (.iload_n 3, 1) := by decide +kernel
theorem dX7_mark_128 : decode cX7_mark 128 = .ok (.ldc 150, 2) := by decide +kernel
theorem dX7_mark_130 : decode cX7_mark 130 = .ok (.if_icmp .ne 7, 3) := by decide +kernel
theorem dX7_mark_133 : decode cX7_mark 133 = .ok (.iconst 0, 1) := by decide +kernel
theorem dX7_mark_134 : decode cX7_mark 134 = .ok (.goto 18, 3) := by decide +kernel
theorem dX7_mark_137 : decode cX7_mark 137 = .ok (.aload_n 0, 1) := by decide +kernel
theorem dX7_mark_138 : decode cX7_mark 138 = .ok (.getfield 43, 3) := by decide +kernel
theorem dX7_mark_141 : decode cX7_mark 141 = .ok (.iload_n 1, 1) := by decide +kernel
theorem dX7_mark_142 : decode cX7_mark 142 = .ok (.iaload, 1) := by decide +kernel
theorem dX7_mark_143 : decode cX7_mark 143 = .ok (.ifCond .ne 8, 3) := by decide +kernel
theorem dX7_mark_146 : decode cX7_mark 146 = .ok (.iload_n 3, 1) := by decide +kernel
theorem dX7_mark_147 : decode cX7_mark 147 = .ok (.i2s, 1) := by decide +kernel
theorem dX7_mark_148 : decode cX7_mark 148 = .ok (.goto 4, 3) := by decide +kernel
theorem dX7_mark_151 : decode cX7_mark 151 = .ok (.iload_n 3, 1) := by decide +kernel
theorem dX7_mark_152 : decode cX7_mark 152 = .ok (.iastore, 1) := by decide +kernel
theorem dX7_mark_153 : decode cX7_mark 153 = .ok (.iconst 1, 1) := by decide +kernel
theorem dX7_mark_154 : decode cX7_mark 154 = .ok (.ireturn, 1) := by decide +kernel
theorem dX7_pour_0 : decode cX7_pour 0 = .ok (.iload_n 1, 1) := by decide +kernel
theorem dX7_pour_1 : decode cX7_pour 1 = .ok (.invokestatic 218, 3) := by decide +kernel
theorem dX7_pour_4 : decode cX7_pour 4 = .ok (.ifCond .ne 6, 3) := by decide +kernel
theorem dX7_pour_7 : decode cX7_pour 7 = .ok (.ldc 155, 2) := by decide +kernel
theorem dX7_pour_9 : decode cX7_pour 9 = .ok (.ireturn, 1) := by decide +kernel
theorem dX7_pour_10 : decode cX7_pour 10 = .ok (.aload_n 0, 1) := by decide +kernel
theorem dX7_pour_11 : decode cX7_pour 11 = .ok (.getfield 43, 3) := by decide +kernel
theorem dX7_pour_14 : decode cX7_pour 14 = .ok (.iload_n 1, 1) := by decide +kernel
theorem dX7_pour_15 : decode cX7_pour 15 = .ok (.iaload, 1) := by decide +kernel
theorem dX7_pour_16 : decode cX7_pour 16 = .ok (.ifCond .ge 6, 3) := by decide +kernel
theorem dX7_pour_19 : decode cX7_pour 19 = .ok (.ldc 221, 2) := by decide +kernel
theorem dX7_pour_21 : decode cX7_pour 21 = .ok (.ireturn, 1) := by decide +kernel
theorem dX7_pour_22 : decode cX7_pour 22 = .ok (.iconst 0, 1) := by decide +kernel
theorem dX7_pour_23 : decode cX7_pour 23 = .ok (.istore_n 2, 1) := by decide +kernel
theorem dX7_pour_24 : decode cX7_pour 24 = .ok (.iconst 0, 1) := by decide +kernel
theorem dX7_pour_25 : decode cX7_pour 25 = .ok (.istore_n 3, 1) := by decide +kernel
theorem dX7_pour_26 : decode cX7_pour 26 = .ok (.iload_n 3, 1) := by decide +kernel
theorem dX7_pour_27 : decode cX7_pour 27 = .ok (.aload_n 0, 1) := by decide +kernel
theorem dX7_pour_28 : decode cX7_pour 28 = .ok (.getfield 7, 3) := by decide +kernel
theorem dX7_pour_31 : decode cX7_pour 31 = .ok (.iconst 0, 1) := by decide +kernel
theorem dX7_pour_32 : decode cX7_pour 32 = .ok (.iaload, 1) := by decide +kernel
theorem dX7_pour_33 : decode cX7_pour 33 = .ok (.if_icmp .ge 88, 3) := by decide +kernel
theorem dX7_pour_36 : decode cX7_pour 36 = .ok (.iload_n 3, 1) := by decide +kernel
theorem dX7_pour_37 : decode cX7_pour 37 = .ok (.aload_n 0, 1) := by decide +kernel
theorem dX7_pour_38 : decode cX7_pour 38 = .ok (.getfield 46, 3) := by decide +kernel
theorem dX7_pour_41 : decode cX7_pour 41 = .ok (.iload_n 1, 1) := by decide +kernel
theorem dX7_pour_42 : decode cX7_pour 42 = .ok (.iaload, 1) := by decide +kernel
theorem dX7_pour_43 : decode cX7_pour 43 = .ok (.if_icmp .ge 78, 3) := by decide +kernel
theorem dX7_pour_46 : decode cX7_pour 46 = .ok (.aload_n 0, 1) := by decide +kernel
theorem dX7_pour_47 : decode cX7_pour 47 = .ok (.iload_n 3, 1) := by decide +kernel
theorem dX7_pour_48 : decode cX7_pour 48 = .ok (.iconst 2, 1) := by decide +kernel
theorem dX7_pour_49 : decode cX7_pour 49 = .ok (.invokevirtual 101, 3) := by decide +kernel
theorem dX7_pour_52 : decode cX7_pour 52 = .ok (.istore 4, 2) := by decide +kernel
theorem dX7_pour_54 : decode cX7_pour 54 = .ok (.aload_n 0, 1) := by decide +kernel
theorem dX7_pour_55 : decode cX7_pour 55 = .ok (.getfield 52, 3) := by decide +kernel
theorem dX7_pour_58 : decode cX7_pour 58 = .ok (.bipush 24, 2) := by decide +kernel
theorem dX7_pour_60 : decode cX7_pour 60 = .ok (.iload_n 1, 1) := by decide +kernel
theorem dX7_pour_61 : decode cX7_pour 61 = .ok (.imul, 1) := by decide +kernel
theorem dX7_pour_62 : decode cX7_pour 62 = .ok (.iload_n 3, 1) := by decide +kernel
theorem dX7_pour_63 : decode cX7_pour 63 = .ok (.iadd, 1) := by decide +kernel
theorem dX7_pour_64 : decode cX7_pour 64 = .ok (.baload, 1) := by decide +kernel
theorem dX7_pour_65 : decode cX7_pour 65 = .ok (.ifCond .eq 23, 3) := by decide +kernel
theorem dX7_pour_68 : decode cX7_pour 68 = .ok (.aload_n 0, 1) := by decide +kernel
theorem dX7_pour_69 : decode cX7_pour 69 = .ok (.getfield 49, 3) := by decide +kernel
theorem dX7_pour_72 : decode cX7_pour 72 = .ok (.bipush 24, 2) := by decide +kernel
theorem dX7_pour_74 : decode cX7_pour 74 = .ok (.iload_n 1, 1) := by decide +kernel
theorem dX7_pour_75 : decode cX7_pour 75 = .ok (.imul, 1) := by decide +kernel
theorem dX7_pour_76 : decode cX7_pour 76 = .ok (.iload_n 3, 1) := by decide +kernel
theorem dX7_pour_77 : decode cX7_pour 77 = .ok (.iadd, 1) := by decide +kernel
theorem dX7_pour_78 : decode cX7_pour 78 = .ok (.iaload, 1) := by decide +kernel
theorem dX7_pour_79 : decode cX7_pour 79 = .ok (.iconst 0, 1) := by decide +kernel
theorem dX7_pour_80 : decode cX7_pour 80 = .ok (.bipush 99, 2) := by decide +kernel
theorem dX7_pour_82 : decode cX7_pour 82 = .ok (.invokestatic 112, 3) := by decide +kernel
theorem dX7_pour_85 : decode cX7_pour 85 = .ok (.goto 5, 3) := by decide +kernel
theorem dX7_pour_88 : decode cX7_pour 88 = .ok (.iload 4, 2) := by decide +kernel
theorem dX7_pour_90 : decode cX7_pour 90 = .ok (.istore 5, 2) := by decide +kernel
theorem dX7_pour_92 : decode cX7_pour 92 = .ok (.aload_n 0, 1) := by decide +kernel
theorem dX7_pour_93 : decode cX7_pour 93 = .ok (.iload_n 3, 1) := by decide +kernel
theorem dX7_pour_94 : decode cX7_pour 94 = .ok (.iconst 2, 1) := by decide +kernel
theorem dX7_pour_95 : decode cX7_pour 95 = .ok (.iload 5, 2) := by decide +kernel
theorem dX7_pour_97 : decode cX7_pour 97 = .ok (.invokevirtual 125, 3) := by decide +kernel
theorem dX7_pour_100 : decode cX7_pour 100 = .ok (.iload_n 2, 1) := by decide +kernel
theorem dX7_pour_101 : decode cX7_pour 101 = .ok (.iload 5, 2) := by decide +kernel
theorem dX7_pour_103 : decode cX7_pour 103 = .ok (.iload 4, 2) := by decide +kernel
theorem dX7_pour_105 : decode cX7_pour 105 = .ok (.if_icmp .eq 7, 3) := by decide +kernel
theorem dX7_pour_108 : decode cX7_pour 108 = .ok (.iconst 1, 1) := by decide +kernel
theorem dX7_pour_109 : decode cX7_pour 109 = .ok (.goto 4, 3) := by decide +kernel
theorem dX7_pour_112 : decode cX7_pour 112 = .ok (.iconst 0, 1) := by decide +kernel
theorem dX7_pour_113 : decode cX7_pour 113 = .ok (.iadd, 1) := by decide +kernel
theorem dX7_pour_114 : decode cX7_pour 114 = .ok (.istore_n 2, 1) := by decide +kernel
theorem dX7_pour_115 : decode cX7_pour 115 = .ok (.iinc 3 1, 3) := by decide +kernel
theorem dX7_pour_118 : decode cX7_pour 118 = .ok (.goto (-92), 3) := by decide +kernel
theorem dX7_pour_121 : decode cX7_pour 121 = .ok (.iload_n 2, 1) := by decide +kernel
theorem dX7_pour_122 : decode cX7_pour 122 = .ok (.ireturn, 1) := by decide +kernel
theorem dX7_reads_0 : decode cX7_reads 0 = .ok (.iload_n 1, 1) := by decide +kernel
theorem dX7_reads_1 : decode cX7_reads 1 = .ok (.invokestatic 218, 3) := by decide +kernel
theorem dX7_reads_4 : decode cX7_reads 4 = .ok (.ifCond .ne 6, 3) := by decide +kernel
theorem dX7_reads_7 : decode cX7_reads 7 = .ok (.ldc 155, 2) := by decide +kernel
theorem dX7_reads_9 : decode cX7_reads 9 = .ok (.ireturn, 1) := by decide +kernel
theorem dX7_reads_10 : decode cX7_reads 10 = .ok (.aload_n 0, 1) := by decide +kernel
theorem dX7_reads_11 : decode cX7_reads 11 = .ok (.getfield 43, 3) := by decide +kernel
theorem dX7_reads_14 : decode cX7_reads 14 = .ok (.iload_n 1, 1) := by decide +kernel
theorem dX7_reads_15 : decode cX7_reads 15 = .ok (.iaload, 1) := by decide +kernel
theorem dX7_reads_16 : decode cX7_reads 16 = .ok (.ifCond .ge 6, 3) := by decide +kernel
theorem dX7_reads_19 : decode cX7_reads 19 = .ok (.ldc 221, 2) := by decide +kernel
theorem dX7_reads_21 : decode cX7_reads 21 = .ok (.ireturn, 1) := by decide +kernel
theorem dX7_reads_22 : decode cX7_reads 22 = .ok (.iconst 0, 1) := by decide +kernel
theorem dX7_reads_23 : decode cX7_reads 23 = .ok (.istore_n 2, 1) := by decide +kernel
theorem dX7_reads_24 : decode cX7_reads 24 = .ok (.iload_n 2, 1) := by decide +kernel
theorem dX7_reads_25 : decode cX7_reads 25 = .ok (.aload_n 0, 1) := by decide +kernel
theorem dX7_reads_26 : decode cX7_reads 26 = .ok (.getfield 46, 3) := by decide +kernel
theorem dX7_reads_29 : decode cX7_reads 29 = .ok (.iload_n 1, 1) := by decide +kernel
theorem dX7_reads_30 : decode cX7_reads 30 = .ok (.iaload, 1) := by decide +kernel
theorem dX7_reads_31 : decode cX7_reads 31 = .ok (.if_icmp .ge 53, 3) := by decide +kernel
theorem dX7_reads_34 : decode cX7_reads 34 = .ok (.aload_n 0, 1) := by decide +kernel
theorem dX7_reads_35 : decode cX7_reads 35 = .ok (.getfield 52, 3) := by decide +kernel
theorem dX7_reads_38 : decode cX7_reads 38 = .ok (.bipush 24, 2) := by decide +kernel
theorem dX7_reads_40 : decode cX7_reads 40 = .ok (.iload_n 1, 1) := by decide +kernel
theorem dX7_reads_41 : decode cX7_reads 41 = .ok (.imul, 1) := by decide +kernel
theorem dX7_reads_42 : decode cX7_reads 42 = .ok (.iload_n 2, 1) := by decide +kernel
theorem dX7_reads_43 : decode cX7_reads 43 = .ok (.iadd, 1) := by decide +kernel
theorem dX7_reads_44 : decode cX7_reads 44 = .ok (.baload, 1) := by decide +kernel
theorem dX7_reads_45 : decode cX7_reads 45 = .ok (.ifCond .eq 33, 3) := by decide +kernel
theorem dX7_reads_48 : decode cX7_reads 48 = .ok (.aload_n 0, 1) := by decide +kernel
theorem dX7_reads_49 : decode cX7_reads 49 = .ok (.iload_n 2, 1) := by decide +kernel
theorem dX7_reads_50 : decode cX7_reads 50 = .ok (.invokevirtual 157, 3) := by decide +kernel
theorem dX7_reads_53 : decode cX7_reads 53 = .ok (.ifCond .eq 23, 3) := by decide +kernel
theorem dX7_reads_56 : decode cX7_reads 56 = .ok (.aload_n 0, 1) := by decide +kernel
theorem dX7_reads_57 : decode cX7_reads 57 = .ok (.getfield 49, 3) := by decide +kernel
theorem dX7_reads_60 : decode cX7_reads 60 = .ok (.bipush 24, 2) := by decide +kernel
theorem dX7_reads_62 : decode cX7_reads 62 = .ok (.iload_n 1, 1) := by decide +kernel
theorem dX7_reads_63 : decode cX7_reads 63 = .ok (.imul, 1) := by decide +kernel
theorem dX7_reads_64 : decode cX7_reads 64 = .ok (.iload_n 2, 1) := by decide +kernel
theorem dX7_reads_65 : decode cX7_reads 65 = .ok (.iadd, 1) := by decide +kernel
theorem dX7_reads_66 : decode cX7_reads 66 = .ok (.iaload, 1) := by decide +kernel
theorem dX7_reads_67 : decode cX7_reads 67 = .ok (.aload_n 0, 1) := by decide +kernel
theorem dX7_reads_68 : decode cX7_reads 68 = .ok (.iload_n 2, 1) := by decide +kernel
theorem dX7_reads_69 : decode cX7_reads 69 = .ok (.iconst 1, 1) := by decide +kernel
theorem dX7_reads_70 : decode cX7_reads 70 = .ok (.invokevirtual 101, 3) := by decide +kernel
theorem dX7_reads_73 : decode cX7_reads 73 = .ok (.if_icmp .eq 5, 3) := by decide +kernel
theorem dX7_reads_76 : decode cX7_reads 76 = .ok (.iload_n 2, 1) := by decide +kernel
theorem dX7_reads_77 : decode cX7_reads 77 = .ok (.ireturn, 1) := by decide +kernel
theorem dX7_reads_78 : decode cX7_reads 78 = .ok (.iinc 2 1, 3) := by decide +kernel
theorem dX7_reads_81 : decode cX7_reads 81 = .ok (.goto (-57), 3) := by decide +kernel
theorem dX7_reads_84 : decode cX7_reads 84 = .ok (.ldc 150, 2) := by decide +kernel
theorem dX7_reads_86 : decode cX7_reads 86 = .ok (.ireturn, 1) := by decide +kernel
theorem dX7_copy_0 : decode cX7_copy 0 = .ok (.iload_n 1, 1) := by decide +kernel
theorem dX7_copy_1 : decode cX7_copy 1 = .ok (.invokestatic 218, 3) := by decide +kernel
theorem dX7_copy_4 : decode cX7_copy 4 = .ok (.ifCond .eq 10, 3) := by decide +kernel
theorem dX7_copy_7 : decode cX7_copy 7 = .ok (.iload_n 3, 1) := by decide +kernel
theorem dX7_copy_8 : decode cX7_copy 8 = .ok (.invokestatic 218, 3) := by decide +kernel
theorem dX7_copy_11 : decode cX7_copy 11 = .ok (.ifCond .ne 6, 3) := by decide +kernel
theorem dX7_copy_14 : decode cX7_copy 14 = .ok (.ldc 155, 2) := by decide +kernel
theorem dX7_copy_16 : decode cX7_copy 16 = .ok (.ireturn, 1) := by decide +kernel
theorem dX7_copy_17 : decode cX7_copy 17 = .ok (.aload_n 0, 1) := by decide +kernel
theorem dX7_copy_18 : decode cX7_copy 18 = .ok (.getfield 43, 3) := by decide +kernel
theorem dX7_copy_21 : decode cX7_copy 21 = .ok (.iload_n 1, 1) := by decide +kernel
theorem dX7_copy_22 : decode cX7_copy 22 = .ok (.iaload, 1) := by decide +kernel
theorem dX7_copy_23 : decode cX7_copy 23 = .ok (.ifCond .lt 12, 3) := by decide +kernel
theorem dX7_copy_26 : decode cX7_copy 26 = .ok (.aload_n 0, 1) := by decide +kernel
theorem dX7_copy_27 : decode cX7_copy 27 = .ok (.getfield 43, 3) := by decide +kernel
theorem dX7_copy_30 : decode cX7_copy 30 = .ok (.iload_n 3, 1) := by decide +kernel
theorem dX7_copy_31 : decode cX7_copy 31 = .ok (.iaload, 1) := by decide +kernel
theorem dX7_copy_32 : decode cX7_copy 32 = .ok (.ifCond .ge 6, 3) := by decide +kernel
theorem dX7_copy_35 : decode cX7_copy 35 = .ok (.ldc 221, 2) := by decide +kernel
theorem dX7_copy_37 : decode cX7_copy 37 = .ok (.ireturn, 1) := by decide +kernel
theorem dX7_copy_38 : decode cX7_copy 38 = .ok (.aload_n 0, 1) := by decide +kernel
theorem dX7_copy_39 : decode cX7_copy 39 = .ok (.getfield 43, 3) := by decide +kernel
theorem dX7_copy_42 : decode cX7_copy 42 = .ok (.iload_n 1, 1) := by decide +kernel
theorem dX7_copy_43 : decode cX7_copy 43 = .ok (.iaload, 1) := by decide +kernel
theorem dX7_copy_44 : decode cX7_copy 44 = .ok (.aload_n 0, 1) := by decide +kernel
theorem dX7_copy_45 : decode cX7_copy 45 = .ok (.getfield 43, 3) := by decide +kernel
theorem dX7_copy_48 : decode cX7_copy 48 = .ok (.iload_n 3, 1) := by decide +kernel
theorem dX7_copy_49 : decode cX7_copy 49 = .ok (.iaload, 1) := by decide +kernel
theorem dX7_copy_50 : decode cX7_copy 50 = .ok (.if_icmp .eq 6, 3) := by decide +kernel
theorem dX7_copy_53 : decode cX7_copy 53 = .ok (.ldc 171, 2) := by decide +kernel
theorem dX7_copy_55 : decode cX7_copy 55 = .ok (.ireturn, 1) := by decide +kernel
theorem dX7_copy_56 : decode cX7_copy 56 = .ok (.iload_n 2, 1) := by decide +kernel
theorem dX7_copy_57 : decode cX7_copy 57 = .ok (.ifCond .lt 48, 3) := by decide +kernel
theorem dX7_copy_60 : decode cX7_copy 60 = .ok (.iload 4, 2) := by decide +kernel
theorem dX7_copy_62 : decode cX7_copy 62 = .ok (.ifCond .lt 43, 3) := by decide +kernel
theorem dX7_copy_65 : decode cX7_copy 65 = .ok (.iload 5, 2) := by decide +kernel
theorem dX7_copy_67 : decode cX7_copy 67 = .ok (.ifCond .lt 38, 3) := by decide +kernel
theorem dX7_copy_70 : decode cX7_copy 70 = .ok (.iload_n 2, 1) := by decide +kernel
theorem dX7_copy_71 : decode cX7_copy 71 = .ok (.i2l, 1) := by decide +kernel
theorem dX7_copy_72 : decode cX7_copy 72 = .ok (.iload 5, 2) := by decide +kernel
theorem dX7_copy_74 : decode cX7_copy 74 = .ok (.i2l, 1) := by decide +kernel
theorem dX7_copy_75 : decode cX7_copy 75 = .ok (.ladd, 1) := by decide +kernel
theorem dX7_copy_76 : decode cX7_copy 76 = .ok (.aload_n 0, 1) := by decide +kernel
theorem dX7_copy_77 : decode cX7_copy 77 = .ok (.getfield 46, 3) := by decide +kernel
theorem dX7_copy_80 : decode cX7_copy 80 = .ok (.iload_n 1, 1) := by decide +kernel
theorem dX7_copy_81 : decode cX7_copy 81 = .ok (.iaload, 1) := by decide +kernel
theorem dX7_copy_82 : decode cX7_copy 82 = .ok (.i2l, 1) := by decide +kernel
theorem dX7_copy_83 : decode cX7_copy 83 = .ok (.lcmp, 1) := by decide +kernel
theorem dX7_copy_84 : decode cX7_copy 84 = .ok (.ifCond .gt 21, 3) := by decide +kernel
theorem dX7_copy_87 : decode cX7_copy 87 = .ok (.iload 4, 2) := by decide +kernel
theorem dX7_copy_89 : decode cX7_copy 89 = .ok (.i2l, 1) := by decide +kernel
theorem dX7_copy_90 : decode cX7_copy 90 = .ok (.iload 5, 2) := by decide +kernel
theorem dX7_copy_92 : decode cX7_copy 92 = .ok (.i2l, 1) := by decide +kernel
theorem dX7_copy_93 : decode cX7_copy 93 = .ok (.ladd, 1) := by decide +kernel
theorem dX7_copy_94 : decode cX7_copy 94 = .ok (.aload_n 0, 1) := by decide +kernel
theorem dX7_copy_95 : decode cX7_copy 95 = .ok (.getfield 46, 3) := by decide +kernel
theorem dX7_copy_98 : decode cX7_copy 98 = .ok (.iload_n 3, 1) := by decide +kernel
theorem dX7_copy_99 : decode cX7_copy 99 = .ok (.iaload, 1) := by decide +kernel
theorem dX7_copy_100 : decode cX7_copy 100 = .ok (.i2l, 1) := by decide +kernel
theorem dX7_copy_101 : decode cX7_copy 101 = .ok (.lcmp, 1) := by decide +kernel
theorem dX7_copy_102 : decode cX7_copy 102 = .ok (.ifCond .le 7, 3) := by decide +kernel
theorem dX7_copy_105 : decode cX7_copy 105 = .ok (.ldc_w 321, 3) := by decide +kernel
theorem dX7_copy_108 : decode cX7_copy 108 = .ok (.ireturn, 1) := by decide +kernel
theorem dX7_copy_109 : decode cX7_copy 109 = .ok (.iconst 0, 1) := by decide +kernel
theorem dX7_copy_110 : decode cX7_copy 110 = .ok (.istore 6, 2) := by decide +kernel
theorem dX7_copy_112 : decode cX7_copy 112 = .ok (.iload 6, 2) := by decide +kernel
theorem dX7_copy_114 : decode cX7_copy 114 = .ok (.iload 5, 2) := by decide +kernel
theorem dX7_copy_116 : decode cX7_copy 116 = .ok (.if_icmp .ge 51, 3) := by decide +kernel
theorem dX7_copy_119 : decode cX7_copy 119 = .ok (.aload_n 0, 1) := by decide +kernel
theorem dX7_copy_120 : decode cX7_copy 120 = .ok (.getfield 59, 3) := by decide +kernel
theorem dX7_copy_123 : decode cX7_copy 123 = .ok (.iload 6, 2) := by decide +kernel
theorem dX7_copy_125 : decode cX7_copy 125 = .ok (.aload_n 0, 1) := by decide +kernel
theorem dX7_copy_126 : decode cX7_copy 126 = .ok (.getfield 49, 3) := by decide +kernel
theorem dX7_copy_129 : decode cX7_copy 129 = .ok (.bipush 24, 2) := by decide +kernel
theorem dX7_copy_131 : decode cX7_copy 131 = .ok (.iload_n 1, 1) := by decide +kernel
theorem dX7_copy_132 : decode cX7_copy 132 = .ok (.imul, 1) := by decide +kernel
theorem dX7_copy_133 : decode cX7_copy 133 = .ok (.iload_n 2, 1) := by decide +kernel
theorem dX7_copy_134 : decode cX7_copy 134 = .ok (.iadd, 1) := by decide +kernel
theorem dX7_copy_135 : decode cX7_copy 135 = .ok (.iload 6, 2) := by decide +kernel
theorem dX7_copy_137 : decode cX7_copy 137 = .ok (.iadd, 1) := by decide +kernel
theorem dX7_copy_138 : decode cX7_copy 138 = .ok (.iaload, 1) := by decide +kernel
theorem dX7_copy_139 : decode cX7_copy 139 = .ok (.iastore, 1) := by decide +kernel
theorem dX7_copy_140 : decode cX7_copy 140 = .ok (.aload_n 0, 1) := by decide +kernel
theorem dX7_copy_141 : decode cX7_copy 141 = .ok (.getfield 62, 3) := by decide +kernel
theorem dX7_copy_144 : decode cX7_copy 144 = .ok (.iload 6, 2) := by decide +kernel
theorem dX7_copy_146 : decode cX7_copy 146 = .ok (.aload_n 0, 1) := by decide +kernel
theorem dX7_copy_147 : decode cX7_copy 147 = .ok (.getfield 52, 3) := by decide +kernel
theorem dX7_copy_150 : decode cX7_copy 150 = .ok (.bipush 24, 2) := by decide +kernel
theorem dX7_copy_152 : decode cX7_copy 152 = .ok (.iload_n 1, 1) := by decide +kernel
theorem dX7_copy_153 : decode cX7_copy 153 = .ok (.imul, 1) := by decide +kernel
theorem dX7_copy_154 : decode cX7_copy 154 = .ok (.iload_n 2, 1) := by decide +kernel
theorem dX7_copy_155 : decode cX7_copy 155 = .ok (.iadd, 1) := by decide +kernel
theorem dX7_copy_156 : decode cX7_copy 156 = .ok (.iload 6, 2) := by decide +kernel
theorem dX7_copy_158 : decode cX7_copy 158 = .ok (.iadd, 1) := by decide +kernel
theorem dX7_copy_159 : decode cX7_copy 159 = .ok (.baload, 1) := by decide +kernel
theorem dX7_copy_160 : decode cX7_copy 160 = .ok (.bastore, 1) := by decide +kernel
theorem dX7_copy_161 : decode cX7_copy 161 = .ok (.iinc 6 1, 3) := by decide +kernel
theorem dX7_copy_164 : decode cX7_copy 164 = .ok (.goto (-52), 3) := by decide +kernel
theorem dX7_copy_167 : decode cX7_copy 167 = .ok (.iconst 0, 1) := by decide +kernel
theorem dX7_copy_168 : decode cX7_copy 168 = .ok (.istore 6, 2) := by decide +kernel
theorem dX7_copy_170 : decode cX7_copy 170 = .ok (.iload 6, 2) := by decide +kernel
theorem dX7_copy_172 : decode cX7_copy 172 = .ok (.iload 5, 2) := by decide +kernel
theorem dX7_copy_174 : decode cX7_copy 174 = .ok (.if_icmp .ge 53, 3) := by decide +kernel
theorem dX7_copy_177 : decode cX7_copy 177 = .ok (.aload_n 0, 1) := by decide +kernel
theorem dX7_copy_178 : decode cX7_copy 178 = .ok (.getfield 49, 3) := by decide +kernel
theorem dX7_copy_181 : decode cX7_copy 181 = .ok (.bipush 24, 2) := by decide +kernel
theorem dX7_copy_183 : decode cX7_copy 183 = .ok (.iload_n 3, 1) := by decide +kernel
theorem dX7_copy_184 : decode cX7_copy 184 = .ok (.imul, 1) := by decide +kernel
theorem dX7_copy_185 : decode cX7_copy 185 = .ok (.iload 4, 2) := by decide +kernel
theorem dX7_copy_187 : decode cX7_copy 187 = .ok (.iadd, 1) := by decide +kernel
theorem dX7_copy_188 : decode cX7_copy 188 = .ok (.iload 6, 2) := by decide +kernel
theorem dX7_copy_190 : decode cX7_copy 190 = .ok (.iadd, 1) := by decide +kernel
theorem dX7_copy_191 : decode cX7_copy 191 = .ok (.aload_n 0, 1) := by decide +kernel
theorem dX7_copy_192 : decode cX7_copy 192 = .ok (.getfield 59, 3) := by decide +kernel
theorem dX7_copy_195 : decode cX7_copy 195 = .ok (.iload 6, 2) := by decide +kernel
theorem dX7_copy_197 : decode cX7_copy 197 = .ok (.iaload, 1) := by decide +kernel
theorem dX7_copy_198 : decode cX7_copy 198 = .ok (.iastore, 1) := by decide +kernel
theorem dX7_copy_199 : decode cX7_copy 199 = .ok (.aload_n 0, 1) := by decide +kernel
theorem dX7_copy_200 : decode cX7_copy 200 = .ok (.getfield 52, 3) := by decide +kernel
theorem dX7_copy_203 : decode cX7_copy 203 = .ok (.bipush 24, 2) := by decide +kernel
theorem dX7_copy_205 : decode cX7_copy 205 = .ok (.iload_n 3, 1) := by decide +kernel
theorem dX7_copy_206 : decode cX7_copy 206 = .ok (.imul, 1) := by decide +kernel
theorem dX7_copy_207 : decode cX7_copy 207 = .ok (.iload 4, 2) := by decide +kernel
theorem dX7_copy_209 : decode cX7_copy 209 = .ok (.iadd, 1) := by decide +kernel
theorem dX7_copy_210 : decode cX7_copy 210 = .ok (.iload 6, 2) := by decide +kernel
theorem dX7_copy_212 : decode cX7_copy 212 = .ok (.iadd, 1) := by decide +kernel
theorem dX7_copy_213 : decode cX7_copy 213 = .ok (.aload_n 0, 1) := by decide +kernel
theorem dX7_copy_214 : decode cX7_copy 214 = .ok (.getfield 62, 3) := by decide +kernel
theorem dX7_copy_217 : decode cX7_copy 217 = .ok (.iload 6, 2) := by decide +kernel
theorem dX7_copy_219 : decode cX7_copy 219 = .ok (.baload, 1) := by decide +kernel
theorem dX7_copy_220 : decode cX7_copy 220 = .ok (.bastore, 1) := by decide +kernel
theorem dX7_copy_221 : decode cX7_copy 221 = .ok (.iinc 6 1, 3) := by decide +kernel
theorem dX7_copy_224 : decode cX7_copy 224 = .ok (.goto (-54), 3) := by decide +kernel
theorem dX7_copy_227 : decode cX7_copy 227 = .ok (.iload 5, 2) := by decide +kernel
theorem dX7_copy_229 : decode cX7_copy 229 = .ok (.ireturn, 1) := by decide +kernel
theorem dX7_lay_0 : decode cX7_lay 0 = .ok (.iload_n 1, 1) := by decide +kernel
theorem dX7_lay_1 : decode cX7_lay 1 = .ok (.i2l, 1) := by decide +kernel
theorem dX7_lay_2 : decode cX7_lay 2 = .ok (.lconst 0, 1) := by decide +kernel
theorem dX7_lay_3 : decode cX7_lay 3 = .ok (.ldc2_w 175, 3) := by decide +kernel
theorem dX7_lay_6 : decode cX7_lay 6 = .ok (.invokestatic 86, 3) := by decide +kernel
theorem dX7_lay_9 : decode cX7_lay 9 = .ok (.ifCond .eq 40, 3) := by decide +kernel
theorem dX7_lay_12 : decode cX7_lay 12 = .ok (.iload_n 2, 1) := by decide +kernel
theorem dX7_lay_13 : decode cX7_lay 13 = .ok (.i2l, 1) := by decide +kernel
theorem dX7_lay_14 : decode cX7_lay 14 = .ok (.lconst 0, 1) := by decide +kernel
theorem dX7_lay_15 : decode cX7_lay 15 = .ok (.ldc2_w 318, 3) := by decide +kernel
theorem dX7_lay_18 : decode cX7_lay 18 = .ok (.invokestatic 86, 3) := by decide +kernel
theorem dX7_lay_21 : decode cX7_lay 21 = .ok (.ifCond .eq 28, 3) := by decide +kernel
theorem dX7_lay_24 : decode cX7_lay 24 = .ok (.iload_n 2, 1) := by decide +kernel
theorem dX7_lay_25 : decode cX7_lay 25 = .ok (.iconst 1, 1) := by decide +kernel
theorem dX7_lay_26 : decode cX7_lay 26 = .ok (.if_icmp .ne 11, 3) := by decide +kernel
theorem dX7_lay_29 : decode cX7_lay 29 = .ok (.aload_n 0, 1) := by decide +kernel
theorem dX7_lay_30 : decode cX7_lay 30 = .ok (.iload_n 3, 1) := by decide +kernel
theorem dX7_lay_31 : decode cX7_lay 31 = .ok (.invokevirtual 157, 3) := by decide +kernel
theorem dX7_lay_34 : decode cX7_lay 34 = .ok (.ifCond .eq 15, 3) := by decide +kernel
theorem dX7_lay_37 : decode cX7_lay 37 = .ok (.iload_n 2, 1) := by decide +kernel
theorem dX7_lay_38 : decode cX7_lay 38 = .ok (.iconst 2, 1) := by decide +kernel
theorem dX7_lay_39 : decode cX7_lay 39 = .ok (.if_icmp .ne 13, 3) := by decide +kernel
theorem dX7_lay_42 : decode cX7_lay 42 = .ok (.iload_n 3, 1) := by decide +kernel
theorem dX7_lay_43 : decode cX7_lay 43 = .ok (.invokestatic 218, 3) := by decide +kernel
theorem dX7_lay_46 : decode cX7_lay 46 = .ok (.ifCond .ne 6, 3) := by decide +kernel
theorem dX7_lay_49 : decode cX7_lay 49 = .ok (.ldc 155, 2) := by decide +kernel
theorem dX7_lay_51 : decode cX7_lay 51 = .ok (.ireturn, 1) := by decide +kernel
theorem dX7_lay_52 : decode cX7_lay 52 = .ok (.iload_n 2, 1) := by decide +kernel
theorem dX7_lay_53 : decode cX7_lay 53 = .ok (.iconst 2, 1) := by decide +kernel
theorem dX7_lay_54 : decode cX7_lay 54 = .ok (.if_icmp .ne 15, 3) := by decide +kernel
theorem dX7_lay_57 : decode cX7_lay 57 = .ok (.aload_n 0, 1) := by decide +kernel
theorem dX7_lay_58 : decode cX7_lay 58 = .ok (.getfield 43, 3) := by decide +kernel
theorem dX7_lay_61 : decode cX7_lay 61 = .ok (.iload_n 3, 1) := by decide +kernel
theorem dX7_lay_62 : decode cX7_lay 62 = .ok (.iaload, 1) := by decide +kernel
theorem dX7_lay_63 : decode cX7_lay 63 = .ok (.ifCond .ge 6, 3) := by decide +kernel
theorem dX7_lay_66 : decode cX7_lay 66 = .ok (.ldc 221, 2) := by decide +kernel
theorem dX7_lay_68 : decode cX7_lay 68 = .ok (.ireturn, 1) := by decide +kernel
theorem dX7_lay_69 : decode cX7_lay 69 = .ok (.aload_n 0, 1) := by decide +kernel
theorem dX7_lay_70 : decode cX7_lay 70 = .ok (.getfield 65, 3) := by decide +kernel
theorem dX7_lay_73 : decode cX7_lay 73 = .ok (.iload_n 1, 1) := by decide +kernel
theorem dX7_lay_74 : decode cX7_lay 74 = .ok (.iaload, 1) := by decide +kernel
theorem dX7_lay_75 : decode cX7_lay 75 = .ok (.istore 4, 2) := by decide +kernel
theorem dX7_lay_77 : decode cX7_lay 77 = .ok (.aload_n 0, 1) := by decide +kernel
theorem dX7_lay_78 : decode cX7_lay 78 = .ok (.getfield 65, 3) := by decide +kernel
theorem dX7_lay_81 : decode cX7_lay 81 = .ok (.iload_n 1, 1) := by decide +kernel
theorem dX7_lay_82 : decode cX7_lay 82 = .ok (.iload_n 2, 1) := by decide +kernel
theorem dX7_lay_83 : decode cX7_lay 83 = .ok (.iastore, 1) := by decide +kernel
theorem dX7_lay_84 : decode cX7_lay 84 = .ok (.iload_n 2, 1) := by decide +kernel
theorem dX7_lay_85 : decode cX7_lay 85 = .ok (.iconst 1, 1) := by decide +kernel
theorem dX7_lay_86 : decode cX7_lay 86 = .ok (.if_icmp .ne 51, 3) := by decide +kernel
theorem dX7_lay_89 : decode cX7_lay 89 = .ok (.aload_n 0, 1) := by decide +kernel
theorem dX7_lay_90 : decode cX7_lay 90 = .ok (.getfield 71, 3) := by decide +kernel
theorem dX7_lay_93 : decode cX7_lay 93 = .ok (.iload_n 1, 1) := by decide +kernel
theorem dX7_lay_94 : decode cX7_lay 94 = .ok (.aload_n 0, 1) := by decide +kernel
theorem dX7_lay_95 : decode cX7_lay 95 = .ok (.iload_n 3, 1) := by decide +kernel
theorem dX7_lay_96 : decode cX7_lay 96 = .ok (.iconst 0, 1) := by decide +kernel
theorem dX7_lay_97 : decode cX7_lay 97 = .ok (.invokevirtual 101, 3) := by decide +kernel
theorem dX7_lay_100 : decode cX7_lay 100 = .ok (.iastore, 1) := by decide +kernel
theorem dX7_lay_101 : decode cX7_lay 101 = .ok (.aload_n 0, 1) := by decide +kernel
theorem dX7_lay_102 : decode cX7_lay 102 = .ok (.getfield 68, 3) := by decide +kernel
theorem dX7_lay_105 : decode cX7_lay 105 = .ok (.iload_n 1, 1) := by decide +kernel
theorem dX7_lay_106 : decode cX7_lay 106 = .ok (.aload_n 0, 1) := by decide +kernel
theorem dX7_lay_107 : decode cX7_lay 107 = .ok (.iload_n 3, 1) := by decide +kernel
theorem dX7_lay_108 : decode cX7_lay 108 = .ok (.iconst 0, 1) := by decide +kernel
theorem dX7_lay_109 : decode cX7_lay 109 = .ok (.invokevirtual 101, 3) := by decide +kernel
theorem dX7_lay_112 : decode cX7_lay 112 = .ok (.aload_n 0, 1) := by decide +kernel
theorem dX7_lay_113 : decode cX7_lay 113 = .ok (.iload_n 3, 1) := by decide +kernel
theorem dX7_lay_114 : decode cX7_lay 114 = .ok (.iconst 1, 1) := by decide +kernel
theorem dX7_lay_115 : decode cX7_lay 115 = .ok (.invokevirtual 101, 3) := by decide +kernel
theorem dX7_lay_118 : decode cX7_lay 118 = .ok (.aload_n 0, 1) := by decide +kernel
theorem dX7_lay_119 : decode cX7_lay 119 = .ok (.iload_n 3, 1) := by decide +kernel
theorem dX7_lay_120 : decode cX7_lay 120 = .ok (.iconst 3, 1) := by decide +kernel
theorem dX7_lay_121 : decode cX7_lay 121 = .ok (.invokevirtual 101, 3) := by decide +kernel
theorem dX7_lay_124 : decode cX7_lay 124 = .ok (.aload_n 0, 1) := by decide +kernel
theorem dX7_lay_125 : decode cX7_lay 125 = .ok (.iload_n 3, 1) := by decide +kernel
theorem dX7_lay_126 : decode cX7_lay 126 = .ok (.iconst 4, 1) := by decide +kernel
theorem dX7_lay_127 : decode cX7_lay 127 = .ok (.invokevirtual 101, 3) := by decide +kernel
theorem dX7_lay_130 : decode cX7_lay 130 = .ok (.invokestatic 163, 3) := by decide +kernel
theorem dX7_lay_133 : decode cX7_lay 133 = .ok (.iastore, 1) := by decide +kernel
theorem dX7_lay_134 : decode cX7_lay 134 = .ok (.goto 94, 3) := by decide +kernel
theorem dX7_lay_137 : decode cX7_lay 137 = .ok (.iload_n 2, 1) := by decide +kernel
theorem dX7_lay_138 : decode cX7_lay 138 = .ok (.iconst 2, 1) := by decide +kernel
theorem dX7_lay_139 : decode cX7_lay 139 = .ok (.if_icmp .ne 82, 3) := by decide +kernel
theorem dX7_lay_142 : decode cX7_lay 142 = .ok (.aload_n 0, 1) := by decide +kernel
theorem dX7_lay_143 : decode cX7_lay 143 = .ok (.getfield 74, 3) := by decide +kernel
theorem dX7_lay_146 : decode cX7_lay 146 = .ok (.iload_n 1, 1) := by decide +kernel
theorem dX7_lay_147 : decode cX7_lay 147 = .ok (.aload_n 0, 1) := by decide +kernel
theorem dX7_lay_148 : decode cX7_lay 148 = .ok (.getfield 46, 3) := by decide +kernel
theorem dX7_lay_151 : decode cX7_lay 151 = .ok (.iload_n 3, 1) := by decide +kernel
theorem dX7_lay_152 : decode cX7_lay 152 = .ok (.iaload, 1) := by decide +kernel
theorem dX7_lay_153 : decode cX7_lay 153 = .ok (.iastore, 1) := by decide +kernel
theorem dX7_lay_154 : decode cX7_lay 154 = .ok (.iconst 0, 1) := by decide +kernel
theorem dX7_lay_155 : decode cX7_lay 155 = .ok (.istore 5, 2) := by decide +kernel
theorem dX7_lay_157 : decode cX7_lay 157 = .ok (.iload 5, 2) := by decide +kernel
theorem dX7_lay_159 : decode cX7_lay 159 = .ok (.bipush 24, 2) := by decide +kernel
theorem dX7_lay_161 : decode cX7_lay 161 = .ok (.if_icmp .ge 57, 3) := by decide +kernel
theorem dX7_lay_164 : decode cX7_lay 164 = .ok (.aload_n 0, 1) := by decide +kernel
theorem dX7_lay_165 : decode cX7_lay 165 = .ok (.getfield 77, 3) := by decide +kernel
theorem dX7_lay_168 : decode cX7_lay 168 = .ok (.bipush 24, 2) := by decide +kernel
theorem dX7_lay_170 : decode cX7_lay 170 = .ok (.iload_n 1, 1) := by decide +kernel
theorem dX7_lay_171 : decode cX7_lay 171 = .ok (.imul, 1) := by decide +kernel
theorem dX7_lay_172 : decode cX7_lay 172 = .ok (.iload 5, 2) := by decide +kernel
theorem dX7_lay_174 : decode cX7_lay 174 = .ok (.iadd, 1) := by decide +kernel
theorem dX7_lay_175 : decode cX7_lay 175 = .ok (.aload_n 0, 1) := by decide +kernel
theorem dX7_lay_176 : decode cX7_lay 176 = .ok (.getfield 49, 3) := by decide +kernel
theorem dX7_lay_179 : decode cX7_lay 179 = .ok (.bipush 24, 2) := by decide +kernel
theorem dX7_lay_181 : decode cX7_lay 181 = .ok (.iload_n 3, 1) := by decide +kernel
theorem dX7_lay_182 : decode cX7_lay 182 = .ok (.imul, 1) := by decide +kernel
theorem dX7_lay_183 : decode cX7_lay 183 = .ok (.iload 5, 2) := by decide +kernel
theorem dX7_lay_185 : decode cX7_lay 185 = .ok (.iadd, 1) := by decide +kernel
theorem dX7_lay_186 : decode cX7_lay 186 = .ok (.iaload, 1) := by decide +kernel
theorem dX7_lay_187 : decode cX7_lay 187 = .ok (.iastore, 1) := by decide +kernel
theorem dX7_lay_188 : decode cX7_lay 188 = .ok (.aload_n 0, 1) := by decide +kernel
theorem dX7_lay_189 : decode cX7_lay 189 = .ok (.getfield 80, 3) := by decide +kernel
theorem dX7_lay_192 : decode cX7_lay 192 = .ok (.bipush 24, 2) := by decide +kernel
theorem dX7_lay_194 : decode cX7_lay 194 = .ok (.iload_n 1, 1) := by decide +kernel
theorem dX7_lay_195 : decode cX7_lay 195 = .ok (.imul, 1) := by decide +kernel
theorem dX7_lay_196 : decode cX7_lay 196 = .ok (.iload 5, 2) := by decide +kernel
theorem dX7_lay_198 : decode cX7_lay 198 = .ok (.iadd, 1) := by decide +kernel
theorem dX7_lay_199 : decode cX7_lay 199 = .ok (.aload_n 0, 1) := by decide +kernel
theorem dX7_lay_200 : decode cX7_lay 200 = .ok (.getfield 52, 3) := by decide +kernel
theorem dX7_lay_203 : decode cX7_lay 203 = .ok (.bipush 24, 2) := by decide +kernel
theorem dX7_lay_205 : decode cX7_lay 205 = .ok (.iload_n 3, 1) := by decide +kernel
theorem dX7_lay_206 : decode cX7_lay 206 = .ok (.imul, 1) := by decide +kernel
theorem dX7_lay_207 : decode cX7_lay 207 = .ok (.iload 5, 2) := by decide +kernel
theorem dX7_lay_209 : decode cX7_lay 209 = .ok (.iadd, 1) := by decide +kernel
theorem dX7_lay_210 : decode cX7_lay 210 = .ok (.baload, 1) := by decide +kernel
theorem dX7_lay_211 : decode cX7_lay 211 = .ok (.bastore, 1) := by decide +kernel
theorem dX7_lay_212 : decode cX7_lay 212 = .ok (.iinc 5 1, 3) := by decide +kernel
theorem dX7_lay_215 : decode cX7_lay 215 = .ok (.goto (-58), 3) := by decide +kernel
theorem dX7_lay_218 : decode cX7_lay 218 = .ok (.goto 10, 3) := by decide +kernel
theorem dX7_lay_221 : decode cX7_lay 221 = .ok (.aload_n 0, 1) := by decide +kernel
theorem dX7_lay_222 : decode cX7_lay 222 = .ok (.getfield 68, 3) := by decide +kernel
theorem dX7_lay_225 : decode cX7_lay 225 = .ok (.iload_n 1, 1) := by decide +kernel
theorem dX7_lay_226 : decode cX7_lay 226 = .ok (.iload_n 3, 1) := by decide +kernel
theorem dX7_lay_227 : decode cX7_lay 227 = .ok (.iastore, 1) := by decide +kernel
theorem dX7_lay_228 : decode cX7_lay 228 = .ok (.iload 4, 2) := by decide +kernel
theorem dX7_lay_230 : decode cX7_lay 230 = .ok (.ireturn, 1) := by decide +kernel
theorem dX7_ask_0 : decode cX7_ask 0 = .ok (.iload_n 1, 1) := by decide +kernel
theorem dX7_ask_1 : decode cX7_ask 1 = .ok (.i2l, 1) := by decide +kernel
theorem dX7_ask_2 : decode cX7_ask 2 = .ok (.lconst 0, 1) := by decide +kernel
theorem dX7_ask_3 : decode cX7_ask 3 = .ok (.ldc2_w 175, 3) := by decide +kernel
theorem dX7_ask_6 : decode cX7_ask 6 = .ok (.invokestatic 86, 3) := by decide +kernel
theorem dX7_ask_9 : decode cX7_ask 9 = .ok (.ifCond .eq 15, 3) := by decide +kernel
theorem dX7_ask_12 : decode cX7_ask 12 = .ok (.iload_n 2, 1) := by decide +kernel
theorem dX7_ask_13 : decode cX7_ask 13 = .ok (.i2l, 1) := by decide +kernel
theorem dX7_ask_14 : decode cX7_ask 14 = .ok (.lconst 0, 1) := by decide +kernel
theorem dX7_ask_15 : decode cX7_ask 15 = .ok (.ldc2_w 151, 3) := by decide +kernel
theorem dX7_ask_18 : decode cX7_ask 18 = .ok (.invokestatic 86, 3) := by decide +kernel
theorem dX7_ask_21 : decode cX7_ask 21 = .ok (.ifCond .ne 6, 3) := by decide +kernel
theorem dX7_ask_24 : decode cX7_ask 24 = .ok (.ldc 155, 2) := by decide +kernel
theorem dX7_ask_26 : decode cX7_ask 26 = .ok (.ireturn, 1) := by decide +kernel
theorem dX7_ask_27 : decode cX7_ask 27 = .ok (.aload_n 0, 1) := by decide +kernel
theorem dX7_ask_28 : decode cX7_ask 28 = .ok (.getfield 65, 3) := by decide +kernel
theorem dX7_ask_31 : decode cX7_ask 31 = .ok (.iload_n 1, 1) := by decide +kernel
theorem dX7_ask_32 : decode cX7_ask 32 = .ok (.iaload, 1) := by decide +kernel
theorem dX7_ask_33 : decode cX7_ask 33 = .ok (.ifCond .ne 6, 3) := by decide +kernel
theorem dX7_ask_36 : decode cX7_ask 36 = .ok (.ldc 221, 2) := by decide +kernel
theorem dX7_ask_38 : decode cX7_ask 38 = .ok (.ireturn, 1) := by decide +kernel
theorem dX7_ask_39 : decode cX7_ask 39 = .ok (.aload_n 0, 1) := by decide +kernel
theorem dX7_ask_40 : decode cX7_ask 40 = .ok (.getfield 65, 3) := by decide +kernel
theorem dX7_ask_43 : decode cX7_ask 43 = .ok (.iload_n 1, 1) := by decide +kernel
theorem dX7_ask_44 : decode cX7_ask 44 = .ok (.iaload, 1) := by decide +kernel
theorem dX7_ask_45 : decode cX7_ask 45 = .ok (.iconst 1, 1) := by decide +kernel
theorem dX7_ask_46 : decode cX7_ask 46 = .ok (.if_icmp .ne 25, 3) := by decide +kernel
theorem dX7_ask_49 : decode cX7_ask 49 = .ok (.aload_n 0, 1) := by decide +kernel
theorem dX7_ask_50 : decode cX7_ask 50 = .ok (.getfield 71, 3) := by decide +kernel
theorem dX7_ask_53 : decode cX7_ask 53 = .ok (.iload_n 1, 1) := by decide +kernel
theorem dX7_ask_54 : decode cX7_ask 54 = .ok (.iaload, 1) := by decide +kernel
theorem dX7_ask_55 : decode cX7_ask 55 = .ok (.iload_n 2, 1) := by decide +kernel
theorem dX7_ask_56 : decode cX7_ask 56 = .ok (.invokestatic 167, 3) := by decide +kernel
theorem dX7_ask_59 : decode cX7_ask 59 = .ok (.ifCond .eq 12, 3) := by decide +kernel
theorem dX7_ask_62 : decode cX7_ask 62 = .ok (.aload_n 0, 1) := by decide +kernel
theorem dX7_ask_63 : decode cX7_ask 63 = .ok (.getfield 68, 3) := by decide +kernel
theorem dX7_ask_66 : decode cX7_ask 66 = .ok (.iload_n 1, 1) := by decide +kernel
theorem dX7_ask_67 : decode cX7_ask 67 = .ok (.iaload, 1) := by decide +kernel
theorem dX7_ask_68 : decode cX7_ask 68 = .ok (.goto 5, 3) := by decide +kernel
theorem dX7_ask_71 : decode cX7_ask 71 = .ok (.ldc 171, 2) := by decide +kernel
theorem dX7_ask_73 : decode cX7_ask 73 = .ok (.ireturn, 1) := by decide +kernel
theorem dX7_item_0 : decode cX7_item 0 = .ok (.iload_n 1, 1) := by decide +kernel
theorem dX7_item_1 : decode cX7_item 1 = .ok (.i2l, 1) := by decide +kernel
theorem dX7_item_2 : decode cX7_item 2 = .ok (.lconst 0, 1) := by decide +kernel
theorem dX7_item_3 : decode cX7_item 3 = .ok (.ldc2_w 175, 3) := by decide +kernel
theorem dX7_item_6 : decode cX7_item 6 = .ok (.invokestatic 86, 3) := by decide +kernel
theorem dX7_item_9 : decode cX7_item 9 = .ok (.ifCond .ne 6, 3) := by decide +kernel
theorem dX7_item_12 : decode cX7_item 12 = .ok (.ldc 155, 2) := by decide +kernel
theorem dX7_item_14 : decode cX7_item 14 = .ok (.ireturn, 1) := by decide +kernel
theorem dX7_item_15 : decode cX7_item 15 = .ok (.aload_n 0, 1) := by decide +kernel
theorem dX7_item_16 : decode cX7_item 16 = .ok (.getfield 65, 3) := by decide +kernel
theorem dX7_item_19 : decode cX7_item 19 = .ok (.iload_n 1, 1) := by decide +kernel
theorem dX7_item_20 : decode cX7_item 20 = .ok (.iaload, 1) := by decide +kernel
theorem dX7_item_21 : decode cX7_item 21 = .ok (.ifCond .ne 6, 3) := by decide +kernel
theorem dX7_item_24 : decode cX7_item 24 = .ok (.ldc 221, 2) := by decide +kernel
theorem dX7_item_26 : decode cX7_item 26 = .ok (.ireturn, 1) := by decide +kernel
theorem dX7_item_27 : decode cX7_item 27 = .ok (.aload_n 0, 1) := by decide +kernel
theorem dX7_item_28 : decode cX7_item 28 = .ok (.getfield 65, 3) := by decide +kernel
theorem dX7_item_31 : decode cX7_item 31 = .ok (.iload_n 1, 1) := by decide +kernel
theorem dX7_item_32 : decode cX7_item 32 = .ok (.iaload, 1) := by decide +kernel
theorem dX7_item_33 : decode cX7_item 33 = .ok (.iconst 2, 1) := by decide +kernel
theorem dX7_item_34 : decode cX7_item 34 = .ok (.if_icmp .eq 6, 3) := by decide +kernel
theorem dX7_item_37 : decode cX7_item 37 = .ok (.ldc 171, 2) := by decide +kernel
theorem dX7_item_39 : decode cX7_item 39 = .ok (.ireturn, 1) := by decide +kernel
theorem dX7_item_40 : decode cX7_item 40 = .ok (.iload_n 2, 1) := by decide +kernel
theorem dX7_item_41 : decode cX7_item 41 = .ok (.i2l, 1) := by decide +kernel
theorem dX7_item_42 : decode cX7_item 42 = .ok (.lconst 0, 1) := by decide +kernel
theorem dX7_item_43 : decode cX7_item 43 = .ok (.aload_n 0, 1) := by decide +kernel
theorem dX7_item_44 : decode cX7_item 44 = .ok (.getfield 74, 3) := by decide +kernel
theorem dX7_item_47 : decode cX7_item 47 = .ok (.iload_n 1, 1) := by decide +kernel
theorem dX7_item_48 : decode cX7_item 48 = .ok (.iaload, 1) := by decide +kernel
theorem dX7_item_49 : decode cX7_item 49 = .ok (.iconst 1, 1) := by decide +kernel
theorem dX7_item_50 : decode cX7_item 50 = .ok (.isub, 1) := by decide +kernel
theorem dX7_item_51 : decode cX7_item 51 = .ok (.i2l, 1) := by decide +kernel
theorem dX7_item_52 : decode cX7_item 52 = .ok (.invokestatic 86, 3) := by decide +kernel
theorem dX7_item_55 : decode cX7_item 55 = .ok (.ifCond .ne 7, 3) := by decide +kernel
theorem dX7_item_58 : decode cX7_item 58 = .ok (.ldc_w 321, 3) := by decide +kernel
theorem dX7_item_61 : decode cX7_item 61 = .ok (.ireturn, 1) := by decide +kernel
theorem dX7_item_62 : decode cX7_item 62 = .ok (.aload_n 0, 1) := by decide +kernel
theorem dX7_item_63 : decode cX7_item 63 = .ok (.getfield 80, 3) := by decide +kernel
theorem dX7_item_66 : decode cX7_item 66 = .ok (.bipush 24, 2) := by decide +kernel
theorem dX7_item_68 : decode cX7_item 68 = .ok (.iload_n 1, 1) := by decide +kernel
theorem dX7_item_69 : decode cX7_item 69 = .ok (.imul, 1) := by decide +kernel
theorem dX7_item_70 : decode cX7_item 70 = .ok (.iload_n 2, 1) := by decide +kernel
theorem dX7_item_71 : decode cX7_item 71 = .ok (.iadd, 1) := by decide +kernel
theorem dX7_item_72 : decode cX7_item 72 = .ok (.baload, 1) := by decide +kernel
theorem dX7_item_73 : decode cX7_item 73 = .ok (.ifCond .eq 17, 3) := by decide +kernel
theorem dX7_item_76 : decode cX7_item 76 = .ok (.aload_n 0, 1) := by decide +kernel
theorem dX7_item_77 : decode cX7_item 77 = .ok (.getfield 77, 3) := by decide +kernel
theorem dX7_item_80 : decode cX7_item 80 = .ok (.bipush 24, 2) := by decide +kernel
theorem dX7_item_82 : decode cX7_item 82 = .ok (.iload_n 1, 1) := by decide +kernel
theorem dX7_item_83 : decode cX7_item 83 = .ok (.imul, 1) := by decide +kernel
theorem dX7_item_84 : decode cX7_item 84 = .ok (.iload_n 2, 1) := by decide +kernel
theorem dX7_item_85 : decode cX7_item 85 = .ok (.iadd, 1) := by decide +kernel
theorem dX7_item_86 : decode cX7_item 86 = .ok (.iaload, 1) := by decide +kernel
theorem dX7_item_87 : decode cX7_item 87 = .ok (.goto 5, 3) := by decide +kernel
theorem dX7_item_90 : decode cX7_item 90 = .ok (.ldc 171, 2) := by decide +kernel
theorem dX7_item_92 : decode cX7_item 92 = .ok (.ireturn, 1) := by decide +kernel
theorem dX7_rest_0 : decode cX7_rest 0 = .ok (.iload_n 1, 1) := by decide +kernel
theorem dX7_rest_1 : decode cX7_rest 1 = .ok (.i2l, 1) := by decide +kernel
theorem dX7_rest_2 : decode cX7_rest 2 = .ok (.lconst 0, 1) := by decide +kernel
theorem dX7_rest_3 : decode cX7_rest 3 = .ok (.ldc2_w 175, 3) := by decide +kernel
theorem dX7_rest_6 : decode cX7_rest 6 = .ok (.invokestatic 86, 3) := by decide +kernel
theorem dX7_rest_9 : decode cX7_rest 9 = .ok (.ifCond .ne 6, 3) := by decide +kernel
theorem dX7_rest_12 : decode cX7_rest 12 = .ok (.ldc 155, 2) := by decide +kernel
theorem dX7_rest_14 : decode cX7_rest 14 = .ok (.ireturn, 1) := by decide +kernel
theorem dX7_rest_15 : decode cX7_rest 15 = .ok (.aload_n 0, 1) := by decide +kernel
theorem dX7_rest_16 : decode cX7_rest 16 = .ok (.getfield 65, 3) := by decide +kernel
theorem dX7_rest_19 : decode cX7_rest 19 = .ok (.iload_n 1, 1) := by decide +kernel
theorem dX7_rest_20 : decode cX7_rest 20 = .ok (.iaload, 1) := by decide +kernel
theorem dX7_rest_21 : decode cX7_rest 21 = .ok (.ifCond .ne 6, 3) := by decide +kernel
theorem dX7_rest_24 : decode cX7_rest 24 = .ok (.ldc 221, 2) := by decide +kernel
theorem dX7_rest_26 : decode cX7_rest 26 = .ok (.ireturn, 1) := by decide +kernel
theorem dX7_rest_27 : decode cX7_rest 27 = .ok (.aload_n 0, 1) := by decide +kernel
theorem dX7_rest_28 : decode cX7_rest 28 = .ok (.getfield 65, 3) := by decide +kernel
theorem dX7_rest_31 : decode cX7_rest 31 = .ok (.iload_n 1, 1) := by decide +kernel
theorem dX7_rest_32 : decode cX7_rest 32 = .ok (.iaload, 1) := by decide +kernel
theorem dX7_rest_33 : decode cX7_rest 33 = .ok (.iconst 3, 1) := by decide +kernel
theorem dX7_rest_34 : decode cX7_rest 34 = .ok (.if_icmp .eq 6, 3) := by decide +kernel
theorem dX7_rest_37 : decode cX7_rest 37 = .ok (.ldc 171, 2) := by decide +kernel
theorem dX7_rest_39 : decode cX7_rest 39 = .ok (.ireturn, 1) := by decide +kernel
theorem dX7_rest_40 : decode cX7_rest 40 = .ok (.iload_n 2, 1) := by decide +kernel
theorem dX7_rest_41 : decode cX7_rest 41 = .ok (.ifCond .ne 9, 3) := by decide +kernel
theorem dX7_rest_44 : decode cX7_rest 44 = .ok (.ldc_w 324, 3) := by decide +kernel
theorem dX7_rest_47 : decode cX7_rest 47 = .ok (.goto 20, 3) := by decide +kernel
theorem dX7_rest_50 : decode cX7_rest 50 = .ok (.iload_n 2, 1) := by decide +kernel
theorem dX7_rest_51 : decode cX7_rest 51 = .ok (.iconst (-1), 1) := by decide +kernel
theorem dX7_rest_52 : decode cX7_rest 52 = .ok (.if_icmp .ne 7, 3) := by decide +kernel
theorem dX7_rest_55 : decode cX7_rest 55 = .ok (.iconst 0, 1) := by decide +kernel
theorem dX7_rest_56 : decode cX7_rest 56 = .ok (.goto 11, 3) := by decide +kernel
theorem dX7_rest_59 : decode cX7_rest 59 = .ok (.aload_n 0, 1) := by decide +kernel
theorem dX7_rest_60 : decode cX7_rest 60 = .ok (.getfield 68, 3) := by decide +kernel
theorem dX7_rest_63 : decode cX7_rest 63 = .ok (.iload_n 1, 1) := by decide +kernel
theorem dX7_rest_64 : decode cX7_rest 64 = .ok (.iaload, 1) := by decide +kernel
theorem dX7_rest_65 : decode cX7_rest 65 = .ok (.iload_n 2, 1) := by decide +kernel
theorem dX7_rest_66 : decode cX7_rest 66 = .ok (.irem, 1) := by decide +kernel
theorem dX7_rest_67 : decode cX7_rest 67 = .ok (.ireturn, 1) := by decide +kernel
theorem dX7_tell_0 : decode cX7_tell 0 = .ok (.aload_n 0, 1) := by decide +kernel
theorem dX7_tell_1 : decode cX7_tell 1 = .ok (.getfield 325, 3) := by decide +kernel
theorem dX7_tell_4 : decode cX7_tell 4 = .ok (.bipush 60, 2) := by decide +kernel
theorem dX7_tell_6 : decode cX7_tell 6 = .ok (.if_icmp .ne 6, 3) := by decide +kernel
theorem dX7_tell_9 : decode cX7_tell 9 = .ok (.ldc 156, 2) := by decide +kernel
theorem dX7_tell_11 : decode cX7_tell 11 = .ok (.ireturn, 1) := by decide +kernel
theorem dX7_tell_12 : decode cX7_tell 12 = .ok (.aload_n 0, 1) := by decide +kernel
theorem dX7_tell_13 : decode cX7_tell 13 = .ok (.getfield 83, 3) := by decide +kernel
theorem dX7_tell_16 : decode cX7_tell 16 = .ok (.aload_n 0, 1) := by decide +kernel
theorem dX7_tell_17 : decode cX7_tell 17 = .ok (.getfield 325, 3) := by decide +kernel
theorem dX7_tell_20 : decode cX7_tell 20 = .ok (.iload_n 1, 1) := by decide +kernel
theorem dX7_tell_21 : decode cX7_tell 21 = .ok (.iastore, 1) := by decide +kernel
theorem dX7_tell_22 : decode cX7_tell 22 = .ok (.aload_n 0, 1) := by decide +kernel
theorem dX7_tell_23 : decode cX7_tell 23 = .ok (.dup, 1) := by decide +kernel
theorem dX7_tell_24 : decode cX7_tell 24 = .ok (.getfield 325, 3) := by decide +kernel
theorem dX7_tell_27 : decode cX7_tell 27 = .ok (.iconst 1, 1) := by decide +kernel
theorem dX7_tell_28 : decode cX7_tell 28 = .ok (.iadd, 1) := by decide +kernel
theorem dX7_tell_29 : decode cX7_tell 29 = .ok (.putfield 325, 3) := by decide +kernel
theorem dX7_tell_32 : decode cX7_tell 32 = .ok (.aload_n 0, 1) := by decide +kernel
theorem dX7_tell_33 : decode cX7_tell 33 = .ok (.getfield 325, 3) := by decide +kernel
theorem dX7_tell_36 : decode cX7_tell 36 = .ok (.ireturn, 1) := by decide +kernel
theorem dX7_check_0 : decode cX7_check 0 = .ok (.aload_n 0, 1) := by decide +kernel
theorem dX7_check_1 : decode cX7_check 1 = .ok (.getfield 325, 3) := by decide +kernel
theorem dX7_check_4 : decode cX7_check 4 = .ok (.istore_n 2, 1) := by decide +kernel
theorem dX7_check_5 : decode cX7_check 5 = .ok (.aload_n 0, 1) := by decide +kernel
theorem dX7_check_6 : decode cX7_check 6 = .ok (.iconst 0, 1) := by decide +kernel
theorem dX7_check_7 : decode cX7_check 7 = .ok (.putfield 325, 3) := by decide +kernel
theorem dX7_check_10 : decode cX7_check 10 = .ok (.iload_n 1, 1) := by decide +kernel
theorem dX7_check_11 : decode cX7_check 11 = .ok (.i2l, 1) := by decide +kernel
theorem dX7_check_12 : decode cX7_check 12 = .ok (.lconst 1, 1) := by decide +kernel
theorem dX7_check_13 : decode cX7_check 13 = .ok (.ldc2_w 328, 3) := by decide +kernel
theorem dX7_check_16 : decode cX7_check 16 = .ok (.invokestatic 86, 3) := by decide +kernel
theorem dX7_check_19 : decode cX7_check 19 = .ok (.ifCond .ne 6, 3) := by decide +kernel
theorem dX7_check_22 : decode cX7_check 22 = .ok (.ldc 155, 2) := by decide +kernel
theorem dX7_check_24 : decode cX7_check 24 = .ok (.ireturn, 1) := by decide +kernel
theorem dX7_check_25 : decode cX7_check 25 = .ok (.aload_n 0, 1) := by decide +kernel
theorem dX7_check_26 : decode cX7_check 26 = .ok (.getfield 330, 3) := by decide +kernel
theorem dX7_check_29 : decode cX7_check 29 = .ok (.ifCond .ne 7, 3) := by decide +kernel
theorem dX7_check_32 : decode cX7_check 32 = .ok (.ldc_w 324, 3) := by decide +kernel
theorem dX7_check_35 : decode cX7_check 35 = .ok (.ireturn, 1) := by decide +kernel
theorem dX7_check_36 : decode cX7_check 36 = .ok (.aload_n 0, 1) := by decide +kernel
theorem dX7_check_37 : decode cX7_check 37 = .ok (.getfield 7, 3) := by decide +kernel
theorem dX7_check_40 : decode cX7_check 40 = .ok (.aload_n 0, 1) := by decide +kernel
theorem dX7_check_41 : decode cX7_check 41 = .ok (.getfield 19, 3) := by decide +kernel
theorem dX7_check_44 : decode cX7_check 44 = .ok (.invokestatic 200, 3) := by decide +kernel
theorem dX7_check_47 : decode cX7_check 47 = .ok (.aload_n 0, 1) := by decide +kernel
theorem dX7_check_48 : decode cX7_check 48 = .ok (.getfield 13, 3) := by decide +kernel
theorem dX7_check_51 : decode cX7_check 51 = .ok (.aload_n 0, 1) := by decide +kernel
theorem dX7_check_52 : decode cX7_check 52 = .ok (.getfield 7, 3) := by decide +kernel
theorem dX7_check_55 : decode cX7_check 55 = .ok (.invokestatic 200, 3) := by decide +kernel
theorem dX7_check_58 : decode cX7_check 58 = .ok (.iconst 2, 1) := by decide +kernel
theorem dX7_check_59 : decode cX7_check 59 = .ok (.iload_n 1, 1) := by decide +kernel
theorem dX7_check_60 : decode cX7_check 60 = .ok (.iconst 0, 1) := by decide +kernel
theorem dX7_check_61 : decode cX7_check 61 = .ok (.sipush 9999, 3) := by decide +kernel
theorem dX7_check_64 : decode cX7_check 64 = .ok (.aload_n 0, 1) := by decide +kernel
theorem dX7_check_65 : decode cX7_check 65 = .ok (.getfield 7, 3) := by decide +kernel
theorem dX7_check_68 : decode cX7_check 68 = .ok (.iconst 1, 1) := by decide +kernel
theorem dX7_check_69 : decode cX7_check 69 = .ok (.iaload, 1) := by decide +kernel
theorem dX7_check_70 : decode cX7_check 70 = .ok (.isub, 1) := by decide +kernel
theorem dX7_check_71 : decode cX7_check 71 = .ok (.invokestatic 112, 3) := by decide +kernel
theorem dX7_check_74 : decode cX7_check 74 = .ok (.imul, 1) := by decide +kernel
theorem dX7_check_75 : decode cX7_check 75 = .ok (.istore_n 3, 1) := by decide +kernel
theorem dX7_check_76 : decode cX7_check 76 = .ok (.iconst 0, 1) := by decide +kernel
theorem dX7_check_77 : decode cX7_check 77 = .ok (.istore 4, 2) := by decide +kernel
theorem dX7_check_79 : decode cX7_check 79 = .ok (.iconst 1, 1) := by decide +kernel
theorem dX7_check_80 : decode cX7_check 80 = .ok (.istore 5, 2) := by decide +kernel
theorem dX7_check_82 : decode cX7_check 82 = .ok (.iconst 0, 1) := by decide +kernel
theorem dX7_check_83 : decode cX7_check 83 = .ok (.istore 6, 2) := by decide +kernel
theorem dX7_check_85 : decode cX7_check 85 = .ok (.iload 6, 2) := by decide +kernel
theorem dX7_check_87 : decode cX7_check 87 = .ok (.iload_n 3, 1) := by decide +kernel
theorem dX7_check_88 : decode cX7_check 88 = .ok (.if_icmp .ge 85, 3) := by decide +kernel
theorem dX7_check_91 : decode cX7_check 91 = .ok (.iload 5, 2) := by decide +kernel
theorem dX7_check_93 : decode cX7_check 93 = .ok (.ifCond .eq 80, 3) := by decide +kernel
theorem dX7_check_96 : decode cX7_check 96 = .ok (.iload 6, 2) := by decide +kernel
theorem dX7_check_98 : decode cX7_check 98 = .ok (.iconst 2, 1) := by decide +kernel
theorem dX7_check_99 : decode cX7_check 99 = .ok (.irem, 1) := by decide +kernel
theorem dX7_check_100 : decode cX7_check 100 = .ok (.ifCond .ne 7, 3) := by decide +kernel
theorem dX7_check_103 : decode cX7_check 103 = .ok (.aload_n 0, 1) := by decide +kernel
theorem dX7_check_104 : decode cX7_check 104 = .ok (.invokevirtual 147, 3) := by decide +kernel
theorem dX7_check_107 : decode cX7_check 107 = .ok (.iload 6, 2) := by decide +kernel
theorem dX7_check_109 : decode cX7_check 109 = .ok (.iload_n 2, 1) := by decide +kernel
theorem dX7_check_110 : decode cX7_check 110 = .ok (.if_icmp .ge 39, 3) := by decide +kernel
theorem dX7_check_113 : decode cX7_check 113 = .ok (.aload_n 0, 1) := by decide +kernel
theorem dX7_check_114 : decode cX7_check 114 = .ok (.getfield 83, 3) := by decide +kernel
theorem dX7_check_117 : decode cX7_check 117 = .ok (.iload 6, 2) := by decide +kernel
theorem dX7_check_119 : decode cX7_check 119 = .ok (.iaload, 1) := by decide +kernel
theorem dX7_check_120 : decode cX7_check 120 = .ok (.iload 6, 2) := by decide +kernel
theorem dX7_check_122 : decode cX7_check 122 = .ok (.iconst 2, 1) := by decide +kernel
theorem dX7_check_123 : decode cX7_check 123 = .ok (.irem, 1) := by decide +kernel
theorem dX7_check_124 : decode cX7_check 124 = .ok (.ifCond .ne 13, 3) := by decide +kernel
theorem dX7_check_127 : decode cX7_check 127 = .ok (.aload_n 0, 1) := by decide +kernel
theorem dX7_check_128 : decode cX7_check 128 = .ok (.getfield 7, 3) := by decide +kernel
theorem dX7_check_131 : decode cX7_check 131 = .ok (.bipush 6, 2) := by decide +kernel
theorem dX7_check_133 : decode cX7_check 133 = .ok (.iaload, 1) := by decide +kernel
theorem dX7_check_134 : decode cX7_check 134 = .ok (.goto 8, 3) := by decide +kernel
theorem dX7_check_137 : decode cX7_check 137 = .ok (.aload_n 0, 1) := by decide +kernel
theorem dX7_check_138 : decode cX7_check 138 = .ok (.iconst 3, 1) := by decide +kernel
theorem dX7_check_139 : decode cX7_check 139 = .ok (.invokevirtual 194, 3) := by decide +kernel
theorem dX7_check_142 : decode cX7_check 142 = .ok (.if_icmp .ne 7, 3) := by decide +kernel
theorem dX7_check_145 : decode cX7_check 145 = .ok (.iconst 1, 1) := by decide +kernel
theorem dX7_check_146 : decode cX7_check 146 = .ok (.goto 4, 3) := by decide +kernel
theorem dX7_check_149 : decode cX7_check 149 = .ok (.iconst 0, 1) := by decide +kernel
theorem dX7_check_150 : decode cX7_check 150 = .ok (.istore 5, 2) := by decide +kernel
theorem dX7_check_152 : decode cX7_check 152 = .ok (.iload 4, 2) := by decide +kernel
theorem dX7_check_154 : decode cX7_check 154 = .ok (.iload 5, 2) := by decide +kernel
theorem dX7_check_156 : decode cX7_check 156 = .ok (.ifCond .eq 7, 3) := by decide +kernel
theorem dX7_check_159 : decode cX7_check 159 = .ok (.iconst 1, 1) := by decide +kernel
theorem dX7_check_160 : decode cX7_check 160 = .ok (.goto 4, 3) := by decide +kernel
theorem dX7_check_163 : decode cX7_check 163 = .ok (.iconst 0, 1) := by decide +kernel
theorem dX7_check_164 : decode cX7_check 164 = .ok (.iadd, 1) := by decide +kernel
theorem dX7_check_165 : decode cX7_check 165 = .ok (.istore 4, 2) := by decide +kernel
theorem dX7_check_167 : decode cX7_check 167 = .ok (.iinc 6 1, 3) := by decide +kernel
theorem dX7_check_170 : decode cX7_check 170 = .ok (.goto (-85), 3) := by decide +kernel
theorem dX7_check_173 : decode cX7_check 173 = .ok (.aload_n 0, 1) := by decide +kernel
theorem dX7_check_174 : decode cX7_check 174 = .ok (.getfield 19, 3) := by decide +kernel
theorem dX7_check_177 : decode cX7_check 177 = .ok (.aload_n 0, 1) := by decide +kernel
theorem dX7_check_178 : decode cX7_check 178 = .ok (.getfield 7, 3) := by decide +kernel
theorem dX7_check_181 : decode cX7_check 181 = .ok (.invokestatic 200, 3) := by decide +kernel
theorem dX7_check_184 : decode cX7_check 184 = .ok (.iload 5, 2) := by decide +kernel
theorem dX7_check_186 : decode cX7_check 186 = .ok (.ifCond .eq 13, 3) := by decide +kernel
theorem dX7_check_189 : decode cX7_check 189 = .ok (.iload 4, 2) := by decide +kernel
theorem dX7_check_191 : decode cX7_check 191 = .ok (.iload_n 2, 1) := by decide +kernel
theorem dX7_check_192 : decode cX7_check 192 = .ok (.if_icmp .ne 7, 3) := by decide +kernel
theorem dX7_check_195 : decode cX7_check 195 = .ok (.iconst 0, 1) := by decide +kernel
theorem dX7_check_196 : decode cX7_check 196 = .ok (.goto 7, 3) := by decide +kernel
theorem dX7_check_199 : decode cX7_check 199 = .ok (.iconst 1, 1) := by decide +kernel
theorem dX7_check_200 : decode cX7_check 200 = .ok (.iload 4, 2) := by decide +kernel
theorem dX7_check_202 : decode cX7_check 202 = .ok (.iadd, 1) := by decide +kernel
theorem dX7_check_203 : decode cX7_check 203 = .ok (.ireturn, 1) := by decide +kernel
theorem dX7_keep_0 : decode cX7_keep 0 = .ok (.aload_n 0, 1) := by decide +kernel
theorem dX7_keep_1 : decode cX7_keep 1 = .ok (.getfield 7, 3) := by decide +kernel
theorem dX7_keep_4 : decode cX7_keep 4 = .ok (.aload_n 0, 1) := by decide +kernel
theorem dX7_keep_5 : decode cX7_keep 5 = .ok (.getfield 13, 3) := by decide +kernel
theorem dX7_keep_8 : decode cX7_keep 8 = .ok (.invokestatic 200, 3) := by decide +kernel
theorem dX7_keep_11 : decode cX7_keep 11 = .ok (.aload_n 0, 1) := by decide +kernel
theorem dX7_keep_12 : decode cX7_keep 12 = .ok (.iconst 1, 1) := by decide +kernel
theorem dX7_keep_13 : decode cX7_keep 13 = .ok (.putfield 330, 3) := by decide +kernel
theorem dX7_keep_16 : decode cX7_keep 16 = .ok (.aload_n 0, 1) := by decide +kernel
theorem dX7_keep_17 : decode cX7_keep 17 = .ok (.getfield 7, 3) := by decide +kernel
theorem dX7_keep_20 : decode cX7_keep 20 = .ok (.iconst 0, 1) := by decide +kernel
theorem dX7_keep_21 : decode cX7_keep 21 = .ok (.iaload, 1) := by decide +kernel
theorem dX7_keep_22 : decode cX7_keep 22 = .ok (.ireturn, 1) := by decide +kernel
theorem dX7_back_0 : decode cX7_back 0 = .ok (.aload_n 0, 1) := by decide +kernel
theorem dX7_back_1 : decode cX7_back 1 = .ok (.getfield 330, 3) := by decide +kernel
theorem dX7_back_4 : decode cX7_back 4 = .ok (.ifCond .ne 7, 3) := by decide +kernel
theorem dX7_back_7 : decode cX7_back 7 = .ok (.ldc_w 324, 3) := by decide +kernel
theorem dX7_back_10 : decode cX7_back 10 = .ok (.ireturn, 1) := by decide +kernel
theorem dX7_back_11 : decode cX7_back 11 = .ok (.aload_n 0, 1) := by decide +kernel
theorem dX7_back_12 : decode cX7_back 12 = .ok (.getfield 13, 3) := by decide +kernel
theorem dX7_back_15 : decode cX7_back 15 = .ok (.aload_n 0, 1) := by decide +kernel
theorem dX7_back_16 : decode cX7_back 16 = .ok (.getfield 7, 3) := by decide +kernel
theorem dX7_back_19 : decode cX7_back 19 = .ok (.invokestatic 200, 3) := by decide +kernel
theorem dX7_back_22 : decode cX7_back 22 = .ok (.aload_n 0, 1) := by decide +kernel
theorem dX7_back_23 : decode cX7_back 23 = .ok (.getfield 7, 3) := by decide +kernel
theorem dX7_back_26 : decode cX7_back 26 = .ok (.iconst 0, 1) := by decide +kernel
theorem dX7_back_27 : decode cX7_back 27 = .ok (.iaload, 1) := by decide +kernel
theorem dX7_back_28 : decode cX7_back 28 = .ok (.ireturn, 1) := by decide +kernel
theorem dX7_count_0 : decode cX7_count 0 = .ok (.iload_n 1, 1) := by decide +kernel
theorem dX7_count_1 : decode cX7_count 1 = .ok (.tableswitch 98 0 8 #[51, 58, 65, 65, 65, 72, 80, 85, 90], 51) := by decide +kernel
theorem dX7_count_52 : decode cX7_count 52 = .ok (.aload_n 0, 1) := by decide +kernel
theorem dX7_count_53 : decode cX7_count 53 = .ok (.getfield 7, 3) := by decide +kernel
theorem dX7_count_56 : decode cX7_count 56 = .ok (.iconst 0, 1) := by decide +kernel
theorem dX7_count_57 : decode cX7_count 57 = .ok (.iaload, 1) := by decide +kernel
theorem dX7_count_58 : decode cX7_count 58 = .ok (.ireturn, 1) := by decide +kernel
theorem dX7_count_59 : decode cX7_count 59 = .ok (.aload_n 0, 1) := by decide +kernel
theorem dX7_count_60 : decode cX7_count 60 = .ok (.getfield 7, 3) := by decide +kernel
theorem dX7_count_63 : decode cX7_count 63 = .ok (.iconst 1, 1) := by decide +kernel
theorem dX7_count_64 : decode cX7_count 64 = .ok (.iaload, 1) := by decide +kernel
theorem dX7_count_65 : decode cX7_count 65 = .ok (.ireturn, 1) := by decide +kernel
theorem dX7_count_66 : decode cX7_count 66 = .ok (.aload_n 0, 1) := by decide +kernel
theorem dX7_count_67 : decode cX7_count 67 = .ok (.getfield 7, 3) := by decide +kernel
theorem dX7_count_70 : decode cX7_count 70 = .ok (.iload_n 1, 1) := by decide +kernel
theorem dX7_count_71 : decode cX7_count 71 = .ok (.iaload, 1) := by decide +kernel
theorem dX7_count_72 : decode cX7_count 72 = .ok (.ireturn, 1) := by decide +kernel
theorem dX7_count_73 : decode cX7_count 73 = .ok (.aload_n 0, 1) := by decide +kernel
theorem dX7_count_74 : decode cX7_count 74 = .ok (.getfield 7, 3) := by decide +kernel
theorem dX7_count_77 : decode cX7_count 77 = .ok (.bipush 9, 2) := by decide +kernel
theorem dX7_count_79 : decode cX7_count 79 = .ok (.iaload, 1) := by decide +kernel
theorem dX7_count_80 : decode cX7_count 80 = .ok (.ireturn, 1) := by decide +kernel
theorem dX7_count_81 : decode cX7_count 81 = .ok (.aload_n 0, 1) := by decide +kernel
theorem dX7_count_82 : decode cX7_count 82 = .ok (.getfield 325, 3) := by decide +kernel
theorem dX7_count_85 : decode cX7_count 85 = .ok (.ireturn, 1) := by decide +kernel
theorem dX7_count_86 : decode cX7_count 86 = .ok (.aload_n 0, 1) := by decide +kernel
theorem dX7_count_87 : decode cX7_count 87 = .ok (.getfield 222, 3) := by decide +kernel
theorem dX7_count_90 : decode cX7_count 90 = .ok (.ireturn, 1) := by decide +kernel
theorem dX7_count_91 : decode cX7_count 91 = .ok (.aload_n 0, 1) := by decide +kernel
theorem dX7_count_92 : decode cX7_count 92 = .ok (.getfield 7, 3) := by decide +kernel
theorem dX7_count_95 : decode cX7_count 95 = .ok (.bipush 8, 2) := by decide +kernel
theorem dX7_count_97 : decode cX7_count 97 = .ok (.iaload, 1) := by decide +kernel
theorem dX7_count_98 : decode cX7_count 98 = .ok (.ireturn, 1) := by decide +kernel
theorem dX7_count_99 : decode cX7_count 99 = .ok (.ldc 155, 2) := by decide +kernel
theorem dX7_count_101 : decode cX7_count 101 = .ok (.ireturn, 1) := by decide +kernel
