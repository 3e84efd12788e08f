theorem dX0_init_0 : decode cX0_init 0 = .ok (.aload_n 0, 1) := by decide +kernel
theorem dX0_init_1 : decode cX0_init 1 = .ok (.invokespecial 3, 3) := by decide +kernel
theorem dX0_init_4 : decode cX0_init 4 = .ok (.aload_n 0, 1) := by decide +kernel
theorem dX0_init_5 : decode cX0_init 5 = .ok (.bipush 14, 2) := by decide +kernel
theorem dX0_init_7 : decode cX0_init 7 = .ok (.anewarray 9, 3) := by decide +kernel
theorem dX0_init_10 : decode cX0_init 10 = .ok (.putfield 11, 3) := by decide +kernel
theorem dX0_init_13 : decode cX0_init 13 = .ok (.aload_n 0, 1) := by decide +kernel
theorem dX0_init_14 : decode cX0_init 14 = .ok (.ldc 17, 2) := by decide +kernel
theorem dX0_init_16 : decode cX0_init 16 = .ok (.invokevirtual 19, 3) := by decide +kernel
theorem dX0_init_19 : decode cX0_init 19 = .ok (.newarray .int, 2) := by decide +kernel
theorem dX0_init_21 : decode cX0_init 21 = .ok (.putfield 25, 3) := by decide +kernel
theorem dX0_init_24 : decode cX0_init 24 = .ok (.aload_n 0, 1) := by decide +kernel
theorem dX0_init_25 : decode cX0_init 25 = .ok (.bipush 96, 2) := by decide +kernel
theorem dX0_init_27 : decode cX0_init 27 = .ok (.newarray .int, 2) := by decide +kernel
theorem dX0_init_29 : decode cX0_init 29 = .ok (.putfield 29, 3) := by decide +kernel
theorem dX0_init_32 : decode cX0_init 32 = .ok (.return_, 1) := by decide +kernel
theorem dX0_at_0 : decode cX0_at 0 = .ok (.iload_n 1, 1) := by decide +kernel
theorem dX0_at_1 : decode cX0_at 1 = .ok (.ifCond .lt 21, 3) := by decide +kernel
theorem dX0_at_4 : decode cX0_at 4 = .ok (.iload_n 1, 1) := by decide +kernel
theorem dX0_at_5 : decode cX0_at 5 = .ok (.aload_n 0, 1) := by decide +kernel
theorem dX0_at_6 : decode cX0_at 6 = .ok (.getfield 11, 3) := by decide +kernel
theorem dX0_at_9 : decode cX0_at 9 = .ok (.arraylength, 1) := by decide +kernel
theorem dX0_at_10 : decode cX0_at 10 = .ok (.if_icmp .ge 12, 3) := by decide +kernel
theorem dX0_at_13 : decode cX0_at 13 = .ok (.aload_n 0, 1) := by decide +kernel
theorem dX0_at_14 : decode cX0_at 14 = .ok (.getfield 11, 3) := by decide +kernel
theorem dX0_at_17 : decode cX0_at 17 = .ok (.iload_n 1, 1) := by decide +kernel
theorem dX0_at_18 : decode cX0_at 18 = .ok (.aaload, 1) := by decide +kernel
theorem dX0_at_19 : decode cX0_at 19 = .ok (.goto 4, 3) := by decide +kernel
theorem dX0_at_22 : decode cX0_at 22 = .ok (.aconst_null, 1) := by decide +kernel
theorem dX0_at_23 : decode cX0_at 23 = .ok (.areturn, 1) := by decide +kernel
theorem dX1_init_0 : decode cX1_init 0 = .ok (.aload_n 0, 1) := by decide +kernel
theorem dX1_init_1 : decode cX1_init 1 = .ok (.invokespecial 3, 3) := by decide +kernel
theorem dX1_init_4 : decode cX1_init 4 = .ok (.aload_n 0, 1) := by decide +kernel
theorem dX1_init_5 : decode cX1_init 5 = .ok (.bipush 96, 2) := by decide +kernel
theorem dX1_init_7 : decode cX1_init 7 = .ok (.newarray .int, 2) := by decide +kernel
theorem dX1_init_9 : decode cX1_init 9 = .ok (.putfield 9, 3) := by decide +kernel
theorem dX1_init_12 : decode cX1_init 12 = .ok (.aload_n 0, 1) := by decide +kernel
theorem dX1_init_13 : decode cX1_init 13 = .ok (.bipush 96, 2) := by decide +kernel
theorem dX1_init_15 : decode cX1_init 15 = .ok (.newarray .int, 2) := by decide +kernel
theorem dX1_init_17 : decode cX1_init 17 = .ok (.putfield 15, 3) := by decide +kernel
theorem dX1_init_20 : decode cX1_init 20 = .ok (.return_, 1) := by decide +kernel
theorem dX1_faultOf_0 : decode cX1_faultOf 0 = .ok (.aload_n 0, 1) := by decide +kernel
theorem dX1_faultOf_1 : decode cX1_faultOf 1 = .ok (.iconst 0, 1) := by decide +kernel
theorem dX1_faultOf_2 : decode cX1_faultOf 2 = .ok (.putfield 18, 3) := by decide +kernel
theorem dX1_faultOf_5 : decode cX1_faultOf 5 = .ok (.aload_n 0, 1) := by decide +kernel
theorem dX1_faultOf_6 : decode cX1_faultOf 6 = .ok (.iconst 0, 1) := by decide +kernel
theorem dX1_faultOf_7 : decode cX1_faultOf 7 = .ok (.putfield 22, 3) := by decide +kernel
theorem dX1_faultOf_10 : decode cX1_faultOf 10 = .ok (.aload_n 0, 1) := by decide +kernel
theorem dX1_faultOf_11 : decode cX1_faultOf 11 = .ok (.iconst 0, 1) := by decide +kernel
theorem dX1_faultOf_12 : decode cX1_faultOf 12 = .ok (.putfield 25, 3) := by decide +kernel
theorem dX1_faultOf_15 : decode cX1_faultOf 15 = .ok (.aload_n 0, 1) := by decide +kernel
theorem dX1_faultOf_16 : decode cX1_faultOf 16 = .ok (.iconst 0, 1) := by decide +kernel
theorem dX1_faultOf_17 : decode cX1_faultOf 17 = .ok (.putfield 28, 3) := by decide +kernel
theorem dX1_faultOf_20 : decode cX1_faultOf 20 = .ok (.aload_n 0, 1) := by decide +kernel
theorem dX1_faultOf_21 : decode cX1_faultOf 21 = .ok (.iconst 0, 1) := by decide +kernel
theorem dX1_faultOf_22 : decode cX1_faultOf 22 = .ok (.putfield 31, 3) := by decide +kernel
theorem dX1_faultOf_25 : decode cX1_faultOf 25 = .ok (.aload_n 1, 1) := by decide +kernel
theorem dX1_faultOf_26 : decode cX1_faultOf 26 = .ok (.iload_n 2, 1) := by decide +kernel
theorem dX1_faultOf_27 : decode cX1_faultOf 27 = .ok (.iconst 0, 1) := by decide +kernel
theorem dX1_faultOf_28 : decode cX1_faultOf 28 = .ok (.invokestatic 34, 3) := by decide +kernel
theorem dX1_faultOf_31 : decode cX1_faultOf 31 = .ok (.istore_n 3, 1) := by decide +kernel
theorem dX1_faultOf_32 : decode cX1_faultOf 32 = .ok (.aload_n 1, 1) := by decide +kernel
theorem dX1_faultOf_33 : decode cX1_faultOf 33 = .ok (.iload_n 2, 1) := by decide +kernel
theorem dX1_faultOf_34 : decode cX1_faultOf 34 = .ok (.iload_n 3, 1) := by decide +kernel
theorem dX1_faultOf_35 : decode cX1_faultOf 35 = .ok (.invokestatic 38, 3) := by decide +kernel
theorem dX1_faultOf_38 : decode cX1_faultOf 38 = .ok (.istore 4, 2) := by decide +kernel
theorem dX1_faultOf_40 : decode cX1_faultOf 40 = .ok (.aload_n 0, 1) := by decide +kernel
theorem dX1_faultOf_41 : decode cX1_faultOf 41 = .ok (.aload_n 1, 1) := by decide +kernel
theorem dX1_faultOf_42 : decode cX1_faultOf 42 = .ok (.iload_n 3, 1) := by decide +kernel
theorem dX1_faultOf_43 : decode cX1_faultOf 43 = .ok (.iload 4, 2) := by decide +kernel
theorem dX1_faultOf_45 : decode cX1_faultOf 45 = .ok (.invokestatic 41, 3) := by decide +kernel
theorem dX1_faultOf_48 : decode cX1_faultOf 48 = .ok (.putfield 44, 3) := by decide +kernel
theorem dX1_faultOf_51 : decode cX1_faultOf 51 = .ok (.aload_n 0, 1) := by decide +kernel
theorem dX1_faultOf_52 : decode cX1_faultOf 52 = .ok (.getfield 44, 3) := by decide +kernel
theorem dX1_faultOf_55 : decode cX1_faultOf 55 = .ok (.ifCond .ge 5, 3) := by decide +kernel
theorem dX1_faultOf_58 : decode cX1_faultOf 58 = .ok (.iload_n 3, 1) := by decide +kernel
theorem dX1_faultOf_59 : decode cX1_faultOf 59 = .ok (.ireturn, 1) := by decide +kernel
theorem dX1_faultOf_60 : decode cX1_faultOf 60 = .ok (.iconst 0, 1) := by decide +kernel
theorem dX1_faultOf_61 : decode cX1_faultOf 61 = .ok (.istore 5, 2) := by decide +kernel
theorem dX1_faultOf_63 : decode cX1_faultOf 63 = .ok (.iconst 0, 1) := by decide +kernel
theorem dX1_faultOf_64 : decode cX1_faultOf 64 = .ok (.istore 6, 2) := by decide +kernel
theorem dX1_faultOf_66 : decode cX1_faultOf 66 = .ok (.iload 6, 2) := by decide +kernel
theorem dX1_faultOf_68 : decode cX1_faultOf 68 = .ok (.iload_n 2, 1) := by decide +kernel
theorem dX1_faultOf_69 : decode cX1_faultOf 69 = .ok (.if_icmp .ge 105, 3) := by decide +kernel
theorem dX1_faultOf_72 : decode cX1_faultOf 72 = .ok (.iload 4, 2) := by decide +kernel
theorem dX1_faultOf_74 : decode cX1_faultOf 74 = .ok (.iload_n 2, 1) := by decide +kernel
theorem dX1_faultOf_75 : decode cX1_faultOf 75 = .ok (.if_icmp .ge 99, 3) := by decide +kernel
theorem dX1_faultOf_78 : decode cX1_faultOf 78 = .ok (.aload_n 1, 1) := by decide +kernel
theorem dX1_faultOf_79 : decode cX1_faultOf 79 = .ok (.iload 4, 2) := by decide +kernel
theorem dX1_faultOf_81 : decode cX1_faultOf 81 = .ok (.iconst 1, 1) := by decide +kernel
theorem dX1_faultOf_82 : decode cX1_faultOf 82 = .ok (.isub, 1) := by decide +kernel
theorem dX1_faultOf_83 : decode cX1_faultOf 83 = .ok (.iaload, 1) := by decide +kernel
theorem dX1_faultOf_84 : decode cX1_faultOf 84 = .ok (.invokestatic 47, 3) := by decide +kernel
theorem dX1_faultOf_87 : decode cX1_faultOf 87 = .ok (.istore 7, 2) := by decide +kernel
theorem dX1_faultOf_89 : decode cX1_faultOf 89 = .ok (.aload_n 1, 1) := by decide +kernel
theorem dX1_faultOf_90 : decode cX1_faultOf 90 = .ok (.iload_n 2, 1) := by decide +kernel
theorem dX1_faultOf_91 : decode cX1_faultOf 91 = .ok (.iload 4, 2) := by decide +kernel
theorem dX1_faultOf_93 : decode cX1_faultOf 93 = .ok (.invokestatic 34, 3) := by decide +kernel
theorem dX1_faultOf_96 : decode cX1_faultOf 96 = .ok (.istore_n 3, 1) := by decide +kernel
theorem dX1_faultOf_97 : decode cX1_faultOf 97 = .ok (.iload_n 3, 1) := by decide +kernel
theorem dX1_faultOf_98 : decode cX1_faultOf 98 = .ok (.iload_n 2, 1) := by decide +kernel
theorem dX1_faultOf_99 : decode cX1_faultOf 99 = .ok (.if_icmp .lt 6, 3) := by decide +kernel
theorem dX1_faultOf_102 : decode cX1_faultOf 102 = .ok (.goto 72, 3) := by decide +kernel
theorem dX1_faultOf_105 : decode cX1_faultOf 105 = .ok (.iload_n 3, 1) := by decide +kernel
theorem dX1_faultOf_106 : decode cX1_faultOf 106 = .ok (.iload 4, 2) := by decide +kernel
theorem dX1_faultOf_108 : decode cX1_faultOf 108 = .ok (.if_icmp .ne 19, 3) := by decide +kernel
theorem dX1_faultOf_111 : decode cX1_faultOf 111 = .ok (.iload 7, 2) := by decide +kernel
theorem dX1_faultOf_113 : decode cX1_faultOf 113 = .ok (.ifCond .eq 14, 3) := by decide +kernel
theorem dX1_faultOf_116 : decode cX1_faultOf 116 = .ok (.aload_n 1, 1) := by decide +kernel
theorem dX1_faultOf_117 : decode cX1_faultOf 117 = .ok (.iload_n 3, 1) := by decide +kernel
theorem dX1_faultOf_118 : decode cX1_faultOf 118 = .ok (.iaload, 1) := by decide +kernel
theorem dX1_faultOf_119 : decode cX1_faultOf 119 = .ok (.invokestatic 47, 3) := by decide +kernel
theorem dX1_faultOf_122 : decode cX1_faultOf 122 = .ok (.ifCond .eq 5, 3) := by decide +kernel
theorem dX1_faultOf_125 : decode cX1_faultOf 125 = .ok (.iload_n 3, 1) := by decide +kernel
theorem dX1_faultOf_126 : decode cX1_faultOf 126 = .ok (.ireturn, 1) := by decide +kernel
theorem dX1_faultOf_127 : decode cX1_faultOf 127 = .ok (.aload_n 1, 1) := by decide +kernel
theorem dX1_faultOf_128 : decode cX1_faultOf 128 = .ok (.iload_n 2, 1) := by decide +kernel
theorem dX1_faultOf_129 : decode cX1_faultOf 129 = .ok (.iload_n 3, 1) := by decide +kernel
theorem dX1_faultOf_130 : decode cX1_faultOf 130 = .ok (.invokestatic 38, 3) := by decide +kernel
theorem dX1_faultOf_133 : decode cX1_faultOf 133 = .ok (.istore 4, 2) := by decide +kernel
theorem dX1_faultOf_135 : decode cX1_faultOf 135 = .ok (.iload 5, 2) := by decide +kernel
theorem dX1_faultOf_137 : decode cX1_faultOf 137 = .ok (.ifCond .ne 14, 3) := by decide +kernel
theorem dX1_faultOf_140 : decode cX1_faultOf 140 = .ok (.aload_n 0, 1) := by decide +kernel
theorem dX1_faultOf_141 : decode cX1_faultOf 141 = .ok (.aload_n 1, 1) := by decide +kernel
theorem dX1_faultOf_142 : decode cX1_faultOf 142 = .ok (.iload_n 3, 1) := by decide +kernel
theorem dX1_faultOf_143 : decode cX1_faultOf 143 = .ok (.iload 4, 2) := by decide +kernel
theorem dX1_faultOf_145 : decode cX1_faultOf 145 = .ok (.invokevirtual 51, 3) := by decide +kernel
theorem dX1_faultOf_148 : decode cX1_faultOf 148 = .ok (.goto 10, 3) := by decide +kernel
theorem dX1_faultOf_151 : decode cX1_faultOf 151 = .ok (.aload_n 0, 1) := by decide +kernel
theorem dX1_faultOf_152 : decode cX1_faultOf 152 = .ok (.aload_n 1, 1) := by decide +kernel
theorem dX1_faultOf_153 : decode cX1_faultOf 153 = .ok (.iload_n 3, 1) := by decide +kernel
theorem dX1_faultOf_154 : decode cX1_faultOf 154 = .ok (.iaload, 1) := by decide +kernel
theorem dX1_faultOf_155 : decode cX1_faultOf 155 = .ok (.invokevirtual 54, 3) := by decide +kernel
theorem dX1_faultOf_158 : decode cX1_faultOf 158 = .ok (.istore 5, 2) := by decide +kernel
theorem dX1_faultOf_160 : decode cX1_faultOf 160 = .ok (.iload 5, 2) := by decide +kernel
theorem dX1_faultOf_162 : decode cX1_faultOf 162 = .ok (.iconst 2, 1) := by decide +kernel
theorem dX1_faultOf_163 : decode cX1_faultOf 163 = .ok (.if_icmp .ne 5, 3) := by decide +kernel
theorem dX1_faultOf_166 : decode cX1_faultOf 166 = .ok (.iload_n 3, 1) := by decide +kernel
theorem dX1_faultOf_167 : decode cX1_faultOf 167 = .ok (.ireturn, 1) := by decide +kernel
theorem dX1_faultOf_168 : decode cX1_faultOf 168 = .ok (.iinc 6 1, 3) := by decide +kernel
theorem dX1_faultOf_171 : decode cX1_faultOf 171 = .ok (.goto (-105), 3) := by decide +kernel
theorem dX1_faultOf_174 : decode cX1_faultOf 174 = .ok (.iload 5, 2) := by decide +kernel
theorem dX1_faultOf_176 : decode cX1_faultOf 176 = .ok (.ifCond .eq 10, 3) := by decide +kernel
theorem dX1_faultOf_179 : decode cX1_faultOf 179 = .ok (.aload_n 0, 1) := by decide +kernel
theorem dX1_faultOf_180 : decode cX1_faultOf 180 = .ok (.getfield 25, 3) := by decide +kernel
theorem dX1_faultOf_183 : decode cX1_faultOf 183 = .ok (.ifCond .le 5, 3) := by decide +kernel
theorem dX1_faultOf_186 : decode cX1_faultOf 186 = .ok (.iload_n 2, 1) := by decide +kernel
theorem dX1_faultOf_187 : decode cX1_faultOf 187 = .ok (.ireturn, 1) := by decide +kernel
theorem dX1_faultOf_188 : decode cX1_faultOf 188 = .ok (.aload_n 0, 1) := by decide +kernel
theorem dX1_faultOf_189 : decode cX1_faultOf 189 = .ok (.iconst 1, 1) := by decide +kernel
theorem dX1_faultOf_190 : decode cX1_faultOf 190 = .ok (.invokevirtual 58, 3) := by decide +kernel
theorem dX1_faultOf_193 : decode cX1_faultOf 193 = .ok (.iconst (-1), 1) := by decide +kernel
theorem dX1_faultOf_194 : decode cX1_faultOf 194 = .ok (.ireturn, 1) := by decide +kernel
theorem dX1_asText_0 : decode cX1_asText 0 = .ok (.new 62, 3) := by decide +kernel
theorem dX1_asText_3 : decode cX1_asText 3 = .ok (.dup, 1) := by decide +kernel
theorem dX1_asText_4 : decode cX1_asText 4 = .ok (.aload_n 0, 1) := by decide +kernel
theorem dX1_asText_5 : decode cX1_asText 5 = .ok (.getfield 44, 3) := by decide +kernel
theorem dX1_asText_8 : decode cX1_asText 8 = .ok (.aload_n 0, 1) := by decide +kernel
theorem dX1_asText_9 : decode cX1_asText 9 = .ok (.getfield 31, 3) := by decide +kernel
theorem dX1_asText_12 : decode cX1_asText 12 = .ok (.aload_n 0, 1) := by decide +kernel
theorem dX1_asText_13 : decode cX1_asText 13 = .ok (.getfield 9, 3) := by decide +kernel
theorem dX1_asText_16 : decode cX1_asText 16 = .ok (.aload_n 0, 1) := by decide +kernel
theorem dX1_asText_17 : decode cX1_asText 17 = .ok (.getfield 18, 3) := by decide +kernel
theorem dX1_asText_20 : decode cX1_asText 20 = .ok (.invokestatic 64, 3) := by decide +kernel
theorem dX1_asText_23 : decode cX1_asText 23 = .ok (.invokespecial 70, 3) := by decide +kernel
theorem dX1_asText_26 : decode cX1_asText 26 = .ok (.areturn, 1) := by decide +kernel
theorem dX1_pastBlanks_0 : decode cX1_pastBlanks 0 = .ok (.iload_n 2, 1) := by decide +kernel
theorem dX1_pastBlanks_1 : decode cX1_pastBlanks 1 = .ok (.istore_n 3, 1) := by decide +kernel
theorem dX1_pastBlanks_2 : decode cX1_pastBlanks 2 = .ok (.iload_n 3, 1) := by decide +kernel
theorem dX1_pastBlanks_3 : decode cX1_pastBlanks 3 = .ok (.iload_n 1, 1) := by decide +kernel
theorem dX1_pastBlanks_4 : decode cX1_pastBlanks 4 = .ok (.if_icmp .ge 17, 3) := by decide +kernel
theorem dX1_pastBlanks_7 : decode cX1_pastBlanks 7 = .ok (.aload_n 0, 1) := by decide +kernel
theorem dX1_pastBlanks_8 : decode cX1_pastBlanks 8 = .ok (.iload_n 3, 1) := by decide +kernel
theorem dX1_pastBlanks_9 : decode cX1_pastBlanks 9 = .ok (.iaload, 1) := by decide +kernel
theorem dX1_pastBlanks_10 : decode cX1_pastBlanks 10 = .ok (.bipush 32, 2) := by decide +kernel
theorem dX1_pastBlanks_12 : decode cX1_pastBlanks 12 = .ok (.if_icmp .ne 9, 3) := by decide +kernel
theorem dX1_pastBlanks_15 : decode cX1_pastBlanks 15 = .ok (.iinc 3 1, 3) := by decide +kernel
theorem dX1_pastBlanks_18 : decode cX1_pastBlanks 18 = .ok (.goto (-16), 3) := by decide +kernel
theorem dX1_pastBlanks_21 : decode cX1_pastBlanks 21 = .ok (.iload_n 3, 1) := by decide +kernel
theorem dX1_pastBlanks_22 : decode cX1_pastBlanks 22 = .ok (.ireturn, 1) := by decide +kernel
theorem dX1_endOf_0 : decode cX1_endOf 0 = .ok (.iload_n 2, 1) := by decide +kernel
theorem dX1_endOf_1 : decode cX1_endOf 1 = .ok (.istore_n 3, 1) := by decide +kernel
theorem dX1_endOf_2 : decode cX1_endOf 2 = .ok (.iload_n 3, 1) := by decide +kernel
theorem dX1_endOf_3 : decode cX1_endOf 3 = .ok (.iload_n 1, 1) := by decide +kernel
theorem dX1_endOf_4 : decode cX1_endOf 4 = .ok (.if_icmp .ge 34, 3) := by decide +kernel
theorem dX1_endOf_7 : decode cX1_endOf 7 = .ok (.aload_n 0, 1) := by decide +kernel
theorem dX1_endOf_8 : decode cX1_endOf 8 = .ok (.iload_n 3, 1) := by decide +kernel
theorem dX1_endOf_9 : decode cX1_endOf 9 = .ok (.iaload, 1) := by decide +kernel
theorem dX1_endOf_10 : decode cX1_endOf 10 = .ok (.invokestatic 73, 3) := by decide +kernel
theorem dX1_endOf_13 : decode cX1_endOf 13 = .ok (.ifCond .eq 25, 3) := by decide +kernel
theorem dX1_endOf_16 : decode cX1_endOf 16 = .ok (.iload_n 3, 1) := by decide +kernel
theorem dX1_endOf_17 : decode cX1_endOf 17 = .ok (.iload_n 1, 1) := by decide +kernel
theorem dX1_endOf_18 : decode cX1_endOf 18 = .ok (.if_icmp .ge 18, 3) := by decide +kernel
theorem dX1_endOf_21 : decode cX1_endOf 21 = .ok (.aload_n 0, 1) := by decide +kernel
theorem dX1_endOf_22 : decode cX1_endOf 22 = .ok (.iload_n 3, 1) := by decide +kernel
theorem dX1_endOf_23 : decode cX1_endOf 23 = .ok (.iaload, 1) := by decide +kernel
theorem dX1_endOf_24 : decode cX1_endOf 24 = .ok (.invokestatic 73, 3) := by decide +kernel
theorem dX1_endOf_27 : decode cX1_endOf 27 = .ok (.ifCond .eq 9, 3) := by decide +kernel
theorem dX1_endOf_30 : decode cX1_endOf 30 = .ok (.iinc 3 1, 3) := by decide +kernel
theorem dX1_endOf_33 : decode cX1_endOf 33 = .ok (.goto (-17), 3) := by decide +kernel
theorem dX1_endOf_36 : decode cX1_endOf 36 = .ok (.iload_n 3, 1) := by decide +kernel
theorem dX1_endOf_37 : decode cX1_endOf 37 = .ok (.ireturn, 1) := by decide +kernel
theorem dX1_endOf_38 : decode cX1_endOf 38 = .ok (.iload_n 3, 1) := by decide +kernel
theorem dX1_endOf_39 : decode cX1_endOf 39 = .ok (.iload_n 1, 1) := by decide +kernel
theorem dX1_endOf_40 : decode cX1_endOf 40 = .ok (.if_icmp .ge 18, 3) := by decide +kernel
theorem dX1_endOf_43 : decode cX1_endOf 43 = .ok (.aload_n 0, 1) := by decide +kernel
theorem dX1_endOf_44 : decode cX1_endOf 44 = .ok (.iload_n 3, 1) := by decide +kernel
theorem dX1_endOf_45 : decode cX1_endOf 45 = .ok (.iaload, 1) := by decide +kernel
theorem dX1_endOf_46 : decode cX1_endOf 46 = .ok (.invokestatic 76, 3) := by decide +kernel
theorem dX1_endOf_49 : decode cX1_endOf 49 = .ok (.ifCond .eq 9, 3) := by decide +kernel
theorem dX1_endOf_52 : decode cX1_endOf 52 = .ok (.iinc 3 1, 3) := by decide +kernel
theorem dX1_endOf_55 : decode cX1_endOf 55 = .ok (.goto (-17), 3) := by decide +kernel
theorem dX1_endOf_58 : decode cX1_endOf 58 = .ok (.iload_n 3, 1) := by decide +kernel
theorem dX1_endOf_59 : decode cX1_endOf 59 = .ok (.iload_n 2, 1) := by decide +kernel
theorem dX1_endOf_60 : decode cX1_endOf 60 = .ok (.if_icmp .le 7, 3) := by decide +kernel
theorem dX1_endOf_63 : decode cX1_endOf 63 = .ok (.iload_n 3, 1) := by decide +kernel
theorem dX1_endOf_64 : decode cX1_endOf 64 = .ok (.goto 10, 3) := by decide +kernel
theorem dX1_endOf_67 : decode cX1_endOf 67 = .ok (.iload_n 1, 1) := by decide +kernel
theorem dX1_endOf_68 : decode cX1_endOf 68 = .ok (.iload_n 2, 1) := by decide +kernel
theorem dX1_endOf_69 : decode cX1_endOf 69 = .ok (.iconst 1, 1) := by decide +kernel
theorem dX1_endOf_70 : decode cX1_endOf 70 = .ok (.iadd, 1) := by decide +kernel
theorem dX1_endOf_71 : decode cX1_endOf 71 = .ok (.invokestatic 79, 3) := by decide +kernel
theorem dX1_endOf_74 : decode cX1_endOf 74 = .ok (.ireturn, 1) := by decide +kernel
theorem dX1_keyOf_0 : decode cX1_keyOf 0 = .ok (.iconst 0, 1) := by decide +kernel
theorem dX1_keyOf_1 : decode cX1_keyOf 1 = .ok (.istore_n 3, 1) := by decide +kernel
theorem dX1_keyOf_2 : decode cX1_keyOf 2 = .ok (.iload_n 1, 1) := by decide +kernel
theorem dX1_keyOf_3 : decode cX1_keyOf 3 = .ok (.istore 4, 2) := by decide +kernel
theorem dX1_keyOf_5 : decode cX1_keyOf 5 = .ok (.iload 4, 2) := by decide +kernel
theorem dX1_keyOf_7 : decode cX1_keyOf 7 = .ok (.iload_n 2, 1) := by decide +kernel
theorem dX1_keyOf_8 : decode cX1_keyOf 8 = .ok (.if_icmp .ge 26, 3) := by decide +kernel
theorem dX1_keyOf_11 : decode cX1_keyOf 11 = .ok (.iload_n 2, 1) := by decide +kernel
theorem dX1_keyOf_12 : decode cX1_keyOf 12 = .ok (.iload_n 1, 1) := by decide +kernel
theorem dX1_keyOf_13 : decode cX1_keyOf 13 = .ok (.isub, 1) := by decide +kernel
theorem dX1_keyOf_14 : decode cX1_keyOf 14 = .ok (.iconst 4, 1) := by decide +kernel
theorem dX1_keyOf_15 : decode cX1_keyOf 15 = .ok (.if_icmp .gt 19, 3) := by decide +kernel
theorem dX1_keyOf_18 : decode cX1_keyOf 18 = .ok (.iload_n 3, 1) := by decide +kernel
theorem dX1_keyOf_19 : decode cX1_keyOf 19 = .ok (.bipush 8, 2) := by decide +kernel
theorem dX1_keyOf_21 : decode cX1_keyOf 21 = .ok (.ishl, 1) := by decide +kernel
theorem dX1_keyOf_22 : decode cX1_keyOf 22 = .ok (.aload_n 0, 1) := by decide +kernel
theorem dX1_keyOf_23 : decode cX1_keyOf 23 = .ok (.iload 4, 2) := by decide +kernel
theorem dX1_keyOf_25 : decode cX1_keyOf 25 = .ok (.iaload, 1) := by decide +kernel
theorem dX1_keyOf_26 : decode cX1_keyOf 26 = .ok (.ior, 1) := by decide +kernel
theorem dX1_keyOf_27 : decode cX1_keyOf 27 = .ok (.istore_n 3, 1) := by decide +kernel
theorem dX1_keyOf_28 : decode cX1_keyOf 28 = .ok (.iinc 4 1, 3) := by decide +kernel
theorem dX1_keyOf_31 : decode cX1_keyOf 31 = .ok (.goto (-26), 3) := by decide +kernel
theorem dX1_keyOf_34 : decode cX1_keyOf 34 = .ok (.iload_n 3, 1) := by decide +kernel
theorem dX1_keyOf_35 : decode cX1_keyOf 35 = .ok (.lookupswitch 39 #[(6710629, 35), (6711668, 33), (1718185573, 37)], 33) := by decide +kernel
theorem dX1_keyOf_68 : decode cX1_keyOf 68 = .ok (.iconst 0, 1) := by decide +kernel
theorem dX1_keyOf_69 : decode cX1_keyOf 69 = .ok (.ireturn, 1) := by decide +kernel
theorem dX1_keyOf_70 : decode cX1_keyOf 70 = .ok (.iconst 1, 1) := by decide +kernel
theorem dX1_keyOf_71 : decode cX1_keyOf 71 = .ok (.ireturn, 1) := by decide +kernel
theorem dX1_keyOf_72 : decode cX1_keyOf 72 = .ok (.iconst 2, 1) := by decide +kernel
theorem dX1_keyOf_73 : decode cX1_keyOf 73 = .ok (.ireturn, 1) := by decide +kernel
theorem dX1_keyOf_74 : decode cX1_keyOf 74 = .ok (.iconst (-1), 1) := by decide +kernel
theorem dX1_keyOf_75 : decode cX1_keyOf 75 = .ok (.ireturn, 1) := by decide +kernel
theorem dX1_takePiece_0 : decode cX1_takePiece 0 = .ok (.aload_n 1, 1) := by decide +kernel
theorem dX1_takePiece_1 : decode cX1_takePiece 1 = .ok (.iload_n 2, 1) := by decide +kernel
theorem dX1_takePiece_2 : decode cX1_takePiece 2 = .ok (.iaload, 1) := by decide +kernel
theorem dX1_takePiece_3 : decode cX1_takePiece 3 = .ok (.istore 4, 2) := by decide +kernel
theorem dX1_takePiece_5 : decode cX1_takePiece 5 = .ok (.iload 4, 2) := by decide +kernel
theorem dX1_takePiece_7 : decode cX1_takePiece 7 = .ok (.invokestatic 73, 3) := by decide +kernel
theorem dX1_takePiece_10 : decode cX1_takePiece 10 = .ok (.ifCond .eq 47, 3) := by decide +kernel
theorem dX1_takePiece_13 : decode cX1_takePiece 13 = .ok (.iload_n 3, 1) := by decide +kernel
theorem dX1_takePiece_14 : decode cX1_takePiece 14 = .ok (.iload_n 2, 1) := by decide +kernel
theorem dX1_takePiece_15 : decode cX1_takePiece 15 = .ok (.isub, 1) := by decide +kernel
theorem dX1_takePiece_16 : decode cX1_takePiece 16 = .ok (.iconst 1, 1) := by decide +kernel
theorem dX1_takePiece_17 : decode cX1_takePiece 17 = .ok (.if_icmp .ne 38, 3) := by decide +kernel
theorem dX1_takePiece_20 : decode cX1_takePiece 20 = .ok (.aload_n 0, 1) := by decide +kernel
theorem dX1_takePiece_21 : decode cX1_takePiece 21 = .ok (.getfield 44, 3) := by decide +kernel
theorem dX1_takePiece_24 : decode cX1_takePiece 24 = .ok (.invokestatic 85, 3) := by decide +kernel
theorem dX1_takePiece_27 : decode cX1_takePiece 27 = .ok (.iload 4, 2) := by decide +kernel
theorem dX1_takePiece_29 : decode cX1_takePiece 29 = .ok (.i2c, 1) := by decide +kernel
theorem dX1_takePiece_30 : decode cX1_takePiece 30 = .ok (.invokevirtual 89, 3) := by decide +kernel
theorem dX1_takePiece_33 : decode cX1_takePiece 33 = .ok (.ifCond .lt 22, 3) := by decide +kernel
theorem dX1_takePiece_36 : decode cX1_takePiece 36 = .ok (.aload_n 0, 1) := by decide +kernel
theorem dX1_takePiece_37 : decode cX1_takePiece 37 = .ok (.sipush 10000, 3) := by decide +kernel
theorem dX1_takePiece_40 : decode cX1_takePiece 40 = .ok (.ldc 94, 2) := by decide +kernel
theorem dX1_takePiece_42 : decode cX1_takePiece 42 = .ok (.iload 4, 2) := by decide +kernel
theorem dX1_takePiece_44 : decode cX1_takePiece 44 = .ok (.i2c, 1) := by decide +kernel
theorem dX1_takePiece_45 : decode cX1_takePiece 45 = .ok (.invokevirtual 89, 3) := by decide +kernel
theorem dX1_takePiece_48 : decode cX1_takePiece 48 = .ok (.iadd, 1) := by decide +kernel
theorem dX1_takePiece_49 : decode cX1_takePiece 49 = .ok (.invokevirtual 96, 3) := by decide +kernel
theorem dX1_takePiece_52 : decode cX1_takePiece 52 = .ok (.goto 4, 3) := by decide +kernel
theorem dX1_takePiece_55 : decode cX1_takePiece 55 = .ok (.iconst 2, 1) := by decide +kernel
theorem dX1_takePiece_56 : decode cX1_takePiece 56 = .ok (.ireturn, 1) := by decide +kernel
theorem dX1_takePiece_57 : decode cX1_takePiece 57 = .ok (.iload 4, 2) := by decide +kernel
theorem dX1_takePiece_59 : decode cX1_takePiece 59 = .ok (.invokestatic 76, 3) := by decide +kernel
theorem dX1_takePiece_62 : decode cX1_takePiece 62 = .ok (.ifCond .eq 25, 3) := by decide +kernel
theorem dX1_takePiece_65 : decode cX1_takePiece 65 = .ok (.iload_n 3, 1) := by decide +kernel
theorem dX1_takePiece_66 : decode cX1_takePiece 66 = .ok (.iload_n 2, 1) := by decide +kernel
theorem dX1_takePiece_67 : decode cX1_takePiece 67 = .ok (.isub, 1) := by decide +kernel
theorem dX1_takePiece_68 : decode cX1_takePiece 68 = .ok (.iconst 4, 1) := by decide +kernel
theorem dX1_takePiece_69 : decode cX1_takePiece 69 = .ok (.if_icmp .gt 16, 3) := by decide +kernel
theorem dX1_takePiece_72 : decode cX1_takePiece 72 = .ok (.aload_n 0, 1) := by decide +kernel
theorem dX1_takePiece_73 : decode cX1_takePiece 73 = .ok (.aload_n 1, 1) := by decide +kernel
theorem dX1_takePiece_74 : decode cX1_takePiece 74 = .ok (.iload_n 2, 1) := by decide +kernel
theorem dX1_takePiece_75 : decode cX1_takePiece 75 = .ok (.iload_n 3, 1) := by decide +kernel
theorem dX1_takePiece_76 : decode cX1_takePiece 76 = .ok (.invokestatic 99, 3) := by decide +kernel
theorem dX1_takePiece_79 : decode cX1_takePiece 79 = .ok (.invokevirtual 96, 3) := by decide +kernel
theorem dX1_takePiece_82 : decode cX1_takePiece 82 = .ok (.goto 4, 3) := by decide +kernel
theorem dX1_takePiece_85 : decode cX1_takePiece 85 = .ok (.iconst 2, 1) := by decide +kernel
theorem dX1_takePiece_86 : decode cX1_takePiece 86 = .ok (.ireturn, 1) := by decide +kernel
theorem dX1_takePiece_87 : decode cX1_takePiece 87 = .ok (.iload 4, 2) := by decide +kernel
theorem dX1_takePiece_89 : decode cX1_takePiece 89 = .ok (.bipush 40, 2) := by decide +kernel
theorem dX1_takePiece_91 : decode cX1_takePiece 91 = .ok (.if_icmp .ne 30, 3) := by decide +kernel
theorem dX1_takePiece_94 : decode cX1_takePiece 94 = .ok (.aload_n 0, 1) := by decide +kernel
theorem dX1_takePiece_95 : decode cX1_takePiece 95 = .ok (.getfield 25, 3) := by decide +kernel
theorem dX1_takePiece_98 : decode cX1_takePiece 98 = .ok (.bipush 8, 2) := by decide +kernel
theorem dX1_takePiece_100 : decode cX1_takePiece 100 = .ok (.if_icmp .ge 21, 3) := by decide +kernel
theorem dX1_takePiece_103 : decode cX1_takePiece 103 = .ok (.aload_n 0, 1) := by decide +kernel
theorem dX1_takePiece_104 : decode cX1_takePiece 104 = .ok (.dup, 1) := by decide +kernel
theorem dX1_takePiece_105 : decode cX1_takePiece 105 = .ok (.getfield 25, 3) := by decide +kernel
theorem dX1_takePiece_108 : decode cX1_takePiece 108 = .ok (.iconst 1, 1) := by decide +kernel
theorem dX1_takePiece_109 : decode cX1_takePiece 109 = .ok (.iadd, 1) := by decide +kernel
theorem dX1_takePiece_110 : decode cX1_takePiece 110 = .ok (.putfield 25, 3) := by decide +kernel
theorem dX1_takePiece_113 : decode cX1_takePiece 113 = .ok (.aload_n 0, 1) := by decide +kernel
theorem dX1_takePiece_114 : decode cX1_takePiece 114 = .ok (.iload 4, 2) := by decide +kernel
theorem dX1_takePiece_116 : decode cX1_takePiece 116 = .ok (.invokevirtual 102, 3) := by decide +kernel
theorem dX1_takePiece_119 : decode cX1_takePiece 119 = .ok (.iconst 0, 1) := by decide +kernel
theorem dX1_takePiece_120 : decode cX1_takePiece 120 = .ok (.ireturn, 1) := by decide +kernel
theorem dX1_takePiece_121 : decode cX1_takePiece 121 = .ok (.iload 4, 2) := by decide +kernel
theorem dX1_takePiece_123 : decode cX1_takePiece 123 = .ok (.bipush 33, 2) := by decide +kernel
theorem dX1_takePiece_125 : decode cX1_takePiece 125 = .ok (.if_icmp .ne 30, 3) := by decide +kernel
theorem dX1_takePiece_128 : decode cX1_takePiece 128 = .ok (.aload_n 0, 1) := by decide +kernel
theorem dX1_takePiece_129 : decode cX1_takePiece 129 = .ok (.getfield 28, 3) := by decide +kernel
theorem dX1_takePiece_132 : decode cX1_takePiece 132 = .ok (.bipush 8, 2) := by decide +kernel
theorem dX1_takePiece_134 : decode cX1_takePiece 134 = .ok (.if_icmp .ge 21, 3) := by decide +kernel
theorem dX1_takePiece_137 : decode cX1_takePiece 137 = .ok (.aload_n 0, 1) := by decide +kernel
theorem dX1_takePiece_138 : decode cX1_takePiece 138 = .ok (.dup, 1) := by decide +kernel
theorem dX1_takePiece_139 : decode cX1_takePiece 139 = .ok (.getfield 28, 3) := by decide +kernel
theorem dX1_takePiece_142 : decode cX1_takePiece 142 = .ok (.iconst 1, 1) := by decide +kernel
theorem dX1_takePiece_143 : decode cX1_takePiece 143 = .ok (.iadd, 1) := by decide +kernel
theorem dX1_takePiece_144 : decode cX1_takePiece 144 = .ok (.putfield 28, 3) := by decide +kernel
theorem dX1_takePiece_147 : decode cX1_takePiece 147 = .ok (.aload_n 0, 1) := by decide +kernel
theorem dX1_takePiece_148 : decode cX1_takePiece 148 = .ok (.iload 4, 2) := by decide +kernel
theorem dX1_takePiece_150 : decode cX1_takePiece 150 = .ok (.invokevirtual 102, 3) := by decide +kernel
theorem dX1_takePiece_153 : decode cX1_takePiece 153 = .ok (.iconst 0, 1) := by decide +kernel
theorem dX1_takePiece_154 : decode cX1_takePiece 154 = .ok (.ireturn, 1) := by decide +kernel
theorem dX1_takePiece_155 : decode cX1_takePiece 155 = .ok (.iconst 2, 1) := by decide +kernel
theorem dX1_takePiece_156 : decode cX1_takePiece 156 = .ok (.ireturn, 1) := by decide +kernel
theorem dX1_takeValue_0 : decode cX1_takeValue 0 = .ok (.aload_n 0, 1) := by decide +kernel
theorem dX1_takeValue_1 : decode cX1_takeValue 1 = .ok (.dup, 1) := by decide +kernel
theorem dX1_takeValue_2 : decode cX1_takeValue 2 = .ok (.getfield 31, 3) := by decide +kernel
theorem dX1_takeValue_5 : decode cX1_takeValue 5 = .ok (.iconst 1, 1) := by decide +kernel
theorem dX1_takeValue_6 : decode cX1_takeValue 6 = .ok (.iadd, 1) := by decide +kernel
theorem dX1_takeValue_7 : decode cX1_takeValue 7 = .ok (.putfield 31, 3) := by decide +kernel
theorem dX1_takeValue_10 : decode cX1_takeValue 10 = .ok (.aload_n 0, 1) := by decide +kernel
theorem dX1_takeValue_11 : decode cX1_takeValue 11 = .ok (.iload_n 1, 1) := by decide +kernel
theorem dX1_takeValue_12 : decode cX1_takeValue 12 = .ok (.invokevirtual 105, 3) := by decide +kernel
theorem dX1_takeValue_15 : decode cX1_takeValue 15 = .ok (.aload_n 0, 1) := by decide +kernel
theorem dX1_takeValue_16 : decode cX1_takeValue 16 = .ok (.invokevirtual 108, 3) := by decide +kernel
theorem dX1_takeValue_19 : decode cX1_takeValue 19 = .ok (.iconst 1, 1) := by decide +kernel
theorem dX1_takeValue_20 : decode cX1_takeValue 20 = .ok (.ireturn, 1) := by decide +kernel
theorem dX1_takeSign_0 : decode cX1_takeSign 0 = .ok (.iload_n 1, 1) := by decide +kernel
theorem dX1_takeSign_1 : decode cX1_takeSign 1 = .ok (.bipush 41, 2) := by decide +kernel
theorem dX1_takeSign_3 : decode cX1_takeSign 3 = .ok (.if_icmp .ne 8, 3) := by decide +kernel
theorem dX1_takeSign_6 : decode cX1_takeSign 6 = .ok (.aload_n 0, 1) := by decide +kernel
theorem dX1_takeSign_7 : decode cX1_takeSign 7 = .ok (.invokevirtual 111, 3) := by decide +kernel
theorem dX1_takeSign_10 : decode cX1_takeSign 10 = .ok (.ireturn, 1) := by decide +kernel
theorem dX1_takeSign_11 : decode cX1_takeSign 11 = .ok (.iload_n 1, 1) := by decide +kernel
theorem dX1_takeSign_12 : decode cX1_takeSign 12 = .ok (.invokestatic 115, 3) := by decide +kernel
theorem dX1_takeSign_15 : decode cX1_takeSign 15 = .ok (.istore_n 2, 1) := by decide +kernel
theorem dX1_takeSign_16 : decode cX1_takeSign 16 = .ok (.iload_n 2, 1) := by decide +kernel
theorem dX1_takeSign_17 : decode cX1_takeSign 17 = .ok (.ifCond .ne 5, 3) := by decide +kernel
theorem dX1_takeSign_20 : decode cX1_takeSign 20 = .ok (.iconst 2, 1) := by decide +kernel
theorem dX1_takeSign_21 : decode cX1_takeSign 21 = .ok (.ireturn, 1) := by decide +kernel
theorem dX1_takeSign_22 : decode cX1_takeSign 22 = .ok (.aload_n 0, 1) := by decide +kernel
theorem dX1_takeSign_23 : decode cX1_takeSign 23 = .ok (.iload_n 2, 1) := by decide +kernel
theorem dX1_takeSign_24 : decode cX1_takeSign 24 = .ok (.iconst 1, 1) := by decide +kernel
theorem dX1_takeSign_25 : decode cX1_takeSign 25 = .ok (.iadd, 1) := by decide +kernel
theorem dX1_takeSign_26 : decode cX1_takeSign 26 = .ok (.invokevirtual 58, 3) := by decide +kernel
theorem dX1_takeSign_29 : decode cX1_takeSign 29 = .ok (.iload_n 2, 1) := by decide +kernel
theorem dX1_takeSign_30 : decode cX1_takeSign 30 = .ok (.iconst 3, 1) := by decide +kernel
theorem dX1_takeSign_31 : decode cX1_takeSign 31 = .ok (.if_icmp .ne 30, 3) := by decide +kernel
theorem dX1_takeSign_34 : decode cX1_takeSign 34 = .ok (.aload_n 0, 1) := by decide +kernel
theorem dX1_takeSign_35 : decode cX1_takeSign 35 = .ok (.getfield 22, 3) := by decide +kernel
theorem dX1_takeSign_38 : decode cX1_takeSign 38 = .ok (.ifCond .le 23, 3) := by decide +kernel
theorem dX1_takeSign_41 : decode cX1_takeSign 41 = .ok (.aload_n 0, 1) := by decide +kernel
theorem dX1_takeSign_42 : decode cX1_takeSign 42 = .ok (.getfield 15, 3) := by decide +kernel
theorem dX1_takeSign_45 : decode cX1_takeSign 45 = .ok (.aload_n 0, 1) := by decide +kernel
theorem dX1_takeSign_46 : decode cX1_takeSign 46 = .ok (.getfield 22, 3) := by decide +kernel
theorem dX1_takeSign_49 : decode cX1_takeSign 49 = .ok (.iconst 1, 1) := by decide +kernel
theorem dX1_takeSign_50 : decode cX1_takeSign 50 = .ok (.isub, 1) := by decide +kernel
theorem dX1_takeSign_51 : decode cX1_takeSign 51 = .ok (.iaload, 1) := by decide +kernel
theorem dX1_takeSign_52 : decode cX1_takeSign 52 = .ok (.invokestatic 115, 3) := by decide +kernel
theorem dX1_takeSign_55 : decode cX1_takeSign 55 = .ok (.iconst 3, 1) := by decide +kernel
theorem dX1_takeSign_56 : decode cX1_takeSign 56 = .ok (.if_icmp .ne 5, 3) := by decide +kernel
theorem dX1_takeSign_59 : decode cX1_takeSign 59 = .ok (.iconst 2, 1) := by decide +kernel
theorem dX1_takeSign_60 : decode cX1_takeSign 60 = .ok (.ireturn, 1) := by decide +kernel
theorem dX1_takeSign_61 : decode cX1_takeSign 61 = .ok (.aload_n 0, 1) := by decide +kernel
theorem dX1_takeSign_62 : decode cX1_takeSign 62 = .ok (.iload_n 2, 1) := by decide +kernel
theorem dX1_takeSign_63 : decode cX1_takeSign 63 = .ok (.invokevirtual 58, 3) := by decide +kernel
theorem dX1_takeSign_66 : decode cX1_takeSign 66 = .ok (.aload_n 0, 1) := by decide +kernel
theorem dX1_takeSign_67 : decode cX1_takeSign 67 = .ok (.iload_n 1, 1) := by decide +kernel
theorem dX1_takeSign_68 : decode cX1_takeSign 68 = .ok (.invokevirtual 102, 3) := by decide +kernel
theorem dX1_takeSign_71 : decode cX1_takeSign 71 = .ok (.iconst 0, 1) := by decide +kernel
theorem dX1_takeSign_72 : decode cX1_takeSign 72 = .ok (.ireturn, 1) := by decide +kernel
theorem dX1_takeBracket_0 : decode cX1_takeBracket 0 = .ok (.aload_n 0, 1) := by decide +kernel
theorem dX1_takeBracket_1 : decode cX1_takeBracket 1 = .ok (.getfield 25, 3) := by decide +kernel
theorem dX1_takeBracket_4 : decode cX1_takeBracket 4 = .ok (.ifCond .ne 5, 3) := by decide +kernel
theorem dX1_takeBracket_7 : decode cX1_takeBracket 7 = .ok (.iconst 2, 1) := by decide +kernel
theorem dX1_takeBracket_8 : decode cX1_takeBracket 8 = .ok (.ireturn, 1) := by decide +kernel
theorem dX1_takeBracket_9 : decode cX1_takeBracket 9 = .ok (.aload_n 0, 1) := by decide +kernel
theorem dX1_takeBracket_10 : decode cX1_takeBracket 10 = .ok (.iconst 1, 1) := by decide +kernel
theorem dX1_takeBracket_11 : decode cX1_takeBracket 11 = .ok (.invokevirtual 58, 3) := by decide +kernel
theorem dX1_takeBracket_14 : decode cX1_takeBracket 14 = .ok (.aload_n 0, 1) := by decide +kernel
theorem dX1_takeBracket_15 : decode cX1_takeBracket 15 = .ok (.dup, 1) := by decide +kernel
theorem dX1_takeBracket_16 : decode cX1_takeBracket 16 = .ok (.getfield 25, 3) := by decide +kernel
theorem dX1_takeBracket_19 : decode cX1_takeBracket 19 = .ok (.iconst 1, 1) := by decide +kernel
theorem dX1_takeBracket_20 : decode cX1_takeBracket 20 = .ok (.isub, 1) := by decide +kernel
theorem dX1_takeBracket_21 : decode cX1_takeBracket 21 = .ok (.putfield 25, 3) := by decide +kernel
theorem dX1_takeBracket_24 : decode cX1_takeBracket 24 = .ok (.aload_n 0, 1) := by decide +kernel
theorem dX1_takeBracket_25 : decode cX1_takeBracket 25 = .ok (.iconst 0, 1) := by decide +kernel
theorem dX1_takeBracket_26 : decode cX1_takeBracket 26 = .ok (.aload_n 0, 1) := by decide +kernel
theorem dX1_takeBracket_27 : decode cX1_takeBracket 27 = .ok (.getfield 22, 3) := by decide +kernel
theorem dX1_takeBracket_30 : decode cX1_takeBracket 30 = .ok (.iconst 1, 1) := by decide +kernel
theorem dX1_takeBracket_31 : decode cX1_takeBracket 31 = .ok (.isub, 1) := by decide +kernel
theorem dX1_takeBracket_32 : decode cX1_takeBracket 32 = .ok (.invokestatic 118, 3) := by decide +kernel
theorem dX1_takeBracket_35 : decode cX1_takeBracket 35 = .ok (.putfield 22, 3) := by decide +kernel
theorem dX1_takeBracket_38 : decode cX1_takeBracket 38 = .ok (.aload_n 0, 1) := by decide +kernel
theorem dX1_takeBracket_39 : decode cX1_takeBracket 39 = .ok (.invokevirtual 108, 3) := by decide +kernel
theorem dX1_takeBracket_42 : decode cX1_takeBracket 42 = .ok (.iconst 1, 1) := by decide +kernel
theorem dX1_takeBracket_43 : decode cX1_takeBracket 43 = .ok (.ireturn, 1) := by decide +kernel
theorem dX1_closeDownTo_0 : decode cX1_closeDownTo 0 = .ok (.aload_n 0, 1) := by decide +kernel
theorem dX1_closeDownTo_1 : decode cX1_closeDownTo 1 = .ok (.getfield 22, 3) := by decide +kernel
theorem dX1_closeDownTo_4 : decode cX1_closeDownTo 4 = .ok (.ifCond .le 51, 3) := by decide +kernel
theorem dX1_closeDownTo_7 : decode cX1_closeDownTo 7 = .ok (.aload_n 0, 1) := by decide +kernel
theorem dX1_closeDownTo_8 : decode cX1_closeDownTo 8 = .ok (.getfield 15, 3) := by decide +kernel
theorem dX1_closeDownTo_11 : decode cX1_closeDownTo 11 = .ok (.aload_n 0, 1) := by decide +kernel
theorem dX1_closeDownTo_12 : decode cX1_closeDownTo 12 = .ok (.getfield 22, 3) := by decide +kernel
theorem dX1_closeDownTo_15 : decode cX1_closeDownTo 15 = .ok (.iconst 1, 1) := by decide +kernel
theorem dX1_closeDownTo_16 : decode cX1_closeDownTo 16 = .ok (.isub, 1) := by decide +kernel
theorem dX1_closeDownTo_17 : decode cX1_closeDownTo 17 = .ok (.iaload, 1) := by decide +kernel
theorem dX1_closeDownTo_18 : decode cX1_closeDownTo 18 = .ok (.invokestatic 115, 3) := by decide +kernel
theorem dX1_closeDownTo_21 : decode cX1_closeDownTo 21 = .ok (.iload_n 1, 1) := by decide +kernel
theorem dX1_closeDownTo_22 : decode cX1_closeDownTo 22 = .ok (.if_icmp .lt 33, 3) := by decide +kernel
theorem dX1_closeDownTo_25 : decode cX1_closeDownTo 25 = .ok (.aload_n 0, 1) := by decide +kernel
theorem dX1_closeDownTo_26 : decode cX1_closeDownTo 26 = .ok (.dup, 1) := by decide +kernel
theorem dX1_closeDownTo_27 : decode cX1_closeDownTo 27 = .ok (.getfield 22, 3) := by decide +kernel
theorem dX1_closeDownTo_30 : decode cX1_closeDownTo 30 = .ok (.iconst 1, 1) := by decide +kernel
theorem dX1_closeDownTo_31 : decode cX1_closeDownTo 31 = .ok (.isub, 1) := by decide +kernel
theorem dX1_closeDownTo_32 : decode cX1_closeDownTo 32 = .ok (.putfield 22, 3) := by decide +kernel
theorem dX1_closeDownTo_35 : decode cX1_closeDownTo 35 = .ok (.aload_n 0, 1) := by decide +kernel
theorem dX1_closeDownTo_36 : decode cX1_closeDownTo 36 = .ok (.sipush 20000, 3) := by decide +kernel
theorem dX1_closeDownTo_39 : decode cX1_closeDownTo 39 = .ok (.aload_n 0, 1) := by decide +kernel
theorem dX1_closeDownTo_40 : decode cX1_closeDownTo 40 = .ok (.getfield 15, 3) := by decide +kernel
theorem dX1_closeDownTo_43 : decode cX1_closeDownTo 43 = .ok (.aload_n 0, 1) := by decide +kernel
theorem dX1_closeDownTo_44 : decode cX1_closeDownTo 44 = .ok (.getfield 22, 3) := by decide +kernel
theorem dX1_closeDownTo_47 : decode cX1_closeDownTo 47 = .ok (.iaload, 1) := by decide +kernel
theorem dX1_closeDownTo_48 : decode cX1_closeDownTo 48 = .ok (.iadd, 1) := by decide +kernel
theorem dX1_closeDownTo_49 : decode cX1_closeDownTo 49 = .ok (.invokevirtual 105, 3) := by decide +kernel
theorem dX1_closeDownTo_52 : decode cX1_closeDownTo 52 = .ok (.goto (-52), 3) := by decide +kernel
theorem dX1_closeDownTo_55 : decode cX1_closeDownTo 55 = .ok (.return_, 1) := by decide +kernel
theorem dX1_closeNots_0 : decode cX1_closeNots 0 = .ok (.aload_n 0, 1) := by decide +kernel
theorem dX1_closeNots_1 : decode cX1_closeNots 1 = .ok (.getfield 22, 3) := by decide +kernel
theorem dX1_closeNots_4 : decode cX1_closeNots 4 = .ok (.ifCond .le 49, 3) := by decide +kernel
theorem dX1_closeNots_7 : decode cX1_closeNots 7 = .ok (.aload_n 0, 1) := by decide +kernel
theorem dX1_closeNots_8 : decode cX1_closeNots 8 = .ok (.getfield 15, 3) := by decide +kernel
theorem dX1_closeNots_11 : decode cX1_closeNots 11 = .ok (.aload_n 0, 1) := by decide +kernel
theorem dX1_closeNots_12 : decode cX1_closeNots 12 = .ok (.getfield 22, 3) := by decide +kernel
theorem dX1_closeNots_15 : decode cX1_closeNots 15 = .ok (.iconst 1, 1) := by decide +kernel
theorem dX1_closeNots_16 : decode cX1_closeNots 16 = .ok (.isub, 1) := by decide +kernel
theorem dX1_closeNots_17 : decode cX1_closeNots 17 = .ok (.iaload, 1) := by decide +kernel
theorem dX1_closeNots_18 : decode cX1_closeNots 18 = .ok (.bipush 33, 2) := by decide +kernel
theorem dX1_closeNots_20 : decode cX1_closeNots 20 = .ok (.if_icmp .ne 33, 3) := by decide +kernel
theorem dX1_closeNots_23 : decode cX1_closeNots 23 = .ok (.aload_n 0, 1) := by decide +kernel
theorem dX1_closeNots_24 : decode cX1_closeNots 24 = .ok (.dup, 1) := by decide +kernel
theorem dX1_closeNots_25 : decode cX1_closeNots 25 = .ok (.getfield 22, 3) := by decide +kernel
theorem dX1_closeNots_28 : decode cX1_closeNots 28 = .ok (.iconst 1, 1) := by decide +kernel
theorem dX1_closeNots_29 : decode cX1_closeNots 29 = .ok (.isub, 1) := by decide +kernel
theorem dX1_closeNots_30 : decode cX1_closeNots 30 = .ok (.putfield 22, 3) := by decide +kernel
theorem dX1_closeNots_33 : decode cX1_closeNots 33 = .ok (.aload_n 0, 1) := by decide +kernel
theorem dX1_closeNots_34 : decode cX1_closeNots 34 = .ok (.dup, 1) := by decide +kernel
theorem dX1_closeNots_35 : decode cX1_closeNots 35 = .ok (.getfield 28, 3) := by decide +kernel
theorem dX1_closeNots_38 : decode cX1_closeNots 38 = .ok (.iconst 1, 1) := by decide +kernel
theorem dX1_closeNots_39 : decode cX1_closeNots 39 = .ok (.isub, 1) := by decide +kernel
theorem dX1_closeNots_40 : decode cX1_closeNots 40 = .ok (.putfield 28, 3) := by decide +kernel
theorem dX1_closeNots_43 : decode cX1_closeNots 43 = .ok (.aload_n 0, 1) := by decide +kernel
theorem dX1_closeNots_44 : decode cX1_closeNots 44 = .ok (.sipush 20033, 3) := by decide +kernel
theorem dX1_closeNots_47 : decode cX1_closeNots 47 = .ok (.invokevirtual 105, 3) := by decide +kernel
theorem dX1_closeNots_50 : decode cX1_closeNots 50 = .ok (.goto (-50), 3) := by decide +kernel
theorem dX1_closeNots_53 : decode cX1_closeNots 53 = .ok (.return_, 1) := by decide +kernel
theorem dX1_leaveOpen_0 : decode cX1_leaveOpen 0 = .ok (.aload_n 0, 1) := by decide +kernel
theorem dX1_leaveOpen_1 : decode cX1_leaveOpen 1 = .ok (.getfield 22, 3) := by decide +kernel
theorem dX1_leaveOpen_4 : decode cX1_leaveOpen 4 = .ok (.aload_n 0, 1) := by decide +kernel
theorem dX1_leaveOpen_5 : decode cX1_leaveOpen 5 = .ok (.getfield 15, 3) := by decide +kernel
theorem dX1_leaveOpen_8 : decode cX1_leaveOpen 8 = .ok (.arraylength, 1) := by decide +kernel
theorem dX1_leaveOpen_9 : decode cX1_leaveOpen 9 = .ok (.if_icmp .ge 23, 3) := by decide +kernel
theorem dX1_leaveOpen_12 : decode cX1_leaveOpen 12 = .ok (.aload_n 0, 1) := by decide +kernel
theorem dX1_leaveOpen_13 : decode cX1_leaveOpen 13 = .ok (.getfield 15, 3) := by decide +kernel
theorem dX1_leaveOpen_16 : decode cX1_leaveOpen 16 = .ok (.aload_n 0, 1) := by decide +kernel
theorem dX1_leaveOpen_17 : decode cX1_leaveOpen 17 = .ok (.getfield 22, 3) := by decide +kernel
theorem dX1_leaveOpen_20 : decode cX1_leaveOpen 20 = .ok (.iload_n 1, 1) := by decide +kernel
theorem dX1_leaveOpen_21 : decode cX1_leaveOpen 21 = .ok (.iastore, 1) := by decide +kernel
theorem dX1_leaveOpen_22 : decode cX1_leaveOpen 22 = .ok (.aload_n 0, 1) := by decide +kernel
theorem dX1_leaveOpen_23 : decode cX1_leaveOpen 23 = .ok (.dup, 1) := by decide +kernel
theorem dX1_leaveOpen_24 : decode cX1_leaveOpen 24 = .ok (.getfield 22, 3) := by decide +kernel
theorem dX1_leaveOpen_27 : decode cX1_leaveOpen 27 = .ok (.iconst 1, 1) := by decide +kernel
theorem dX1_leaveOpen_28 : decode cX1_leaveOpen 28 = .ok (.iadd, 1) := by decide +kernel
theorem dX1_leaveOpen_29 : decode cX1_leaveOpen 29 = .ok (.putfield 22, 3) := by decide +kernel
theorem dX1_leaveOpen_32 : decode cX1_leaveOpen 32 = .ok (.return_, 1) := by decide +kernel
theorem dX1_write_0 : decode cX1_write 0 = .ok (.aload_n 0, 1) := by decide +kernel
theorem dX1_write_1 : decode cX1_write 1 = .ok (.getfield 18, 3) := by decide +kernel
theorem dX1_write_4 : decode cX1_write 4 = .ok (.aload_n 0, 1) := by decide +kernel
theorem dX1_write_5 : decode cX1_write 5 = .ok (.getfield 9, 3) := by decide +kernel
theorem dX1_write_8 : decode cX1_write 8 = .ok (.arraylength, 1) := by decide +kernel
theorem dX1_write_9 : decode cX1_write 9 = .ok (.if_icmp .ge 23, 3) := by decide +kernel
theorem dX1_write_12 : decode cX1_write 12 = .ok (.aload_n 0, 1) := by decide +kernel
theorem dX1_write_13 : decode cX1_write 13 = .ok (.getfield 9, 3) := by decide +kernel
theorem dX1_write_16 : decode cX1_write 16 = .ok (.aload_n 0, 1) := by decide +kernel
theorem dX1_write_17 : decode cX1_write 17 = .ok (.getfield 18, 3) := by decide +kernel
theorem dX1_write_20 : decode cX1_write 20 = .ok (.iload_n 1, 1) := by decide +kernel
theorem dX1_write_21 : decode cX1_write 21 = .ok (.iastore, 1) := by decide +kernel
theorem dX1_write_22 : decode cX1_write 22 = .ok (.aload_n 0, 1) := by decide +kernel
theorem dX1_write_23 : decode cX1_write 23 = .ok (.dup, 1) := by decide +kernel
theorem dX1_write_24 : decode cX1_write 24 = .ok (.getfield 18, 3) := by decide +kernel
theorem dX1_write_27 : decode cX1_write 27 = .ok (.iconst 1, 1) := by decide +kernel
theorem dX1_write_28 : decode cX1_write 28 = .ok (.iadd, 1) := by decide +kernel
theorem dX1_write_29 : decode cX1_write 29 = .ok (.putfield 18, 3) := by decide +kernel
theorem dX1_write_32 : decode cX1_write 32 = .ok (.return_, 1) := by decide +kernel
theorem dX1_rankOf_0 : decode cX1_rankOf 0 = .ok (.iload_n 0, 1) := by decide +kernel
theorem dX1_rankOf_1 : decode cX1_rankOf 1 = .ok (.lookupswitch 93 #[(38, 85), (42, 91), (43, 89), (45, 89), (47, 91), (60, 87), (61, 87), (62, 87), (124, 83)], 83) := by decide +kernel
theorem dX1_rankOf_84 : decode cX1_rankOf 84 = .ok (.iconst 1, 1) := by decide +kernel
theorem dX1_rankOf_85 : decode cX1_rankOf 85 = .ok (.ireturn, 1) := by decide +kernel
theorem dX1_rankOf_86 : decode cX1_rankOf 86 = .ok (.iconst 2, 1) := by decide +kernel
theorem dX1_rankOf_87 : decode cX1_rankOf 87 = .ok (.ireturn, 1) := by decide +kernel
theorem dX1_rankOf_88 : decode cX1_rankOf 88 = .ok (.iconst 3, 1) := by decide +kernel
theorem dX1_rankOf_89 : decode cX1_rankOf 89 = .ok (.ireturn, 1) := by decide +kernel
theorem dX1_rankOf_90 : decode cX1_rankOf 90 = .ok (.iconst 4, 1) := by decide +kernel
theorem dX1_rankOf_91 : decode cX1_rankOf 91 = .ok (.ireturn, 1) := by decide +kernel
theorem dX1_rankOf_92 : decode cX1_rankOf 92 = .ok (.iconst 5, 1) := by decide +kernel
theorem dX1_rankOf_93 : decode cX1_rankOf 93 = .ok (.ireturn, 1) := by decide +kernel
theorem dX1_rankOf_94 : decode cX1_rankOf 94 = .ok (.iconst 0, 1) := by decide +kernel
theorem dX1_rankOf_95 : decode cX1_rankOf 95 = .ok (.ireturn, 1) := by decide +kernel
theorem dX1_namesOf_0 : decode cX1_namesOf 0 = .ok (.iload_n 0, 1) := by decide +kernel
theorem dX1_namesOf_1 : decode cX1_namesOf 1 = .ok (.lookupswitch 33 #[(0, 27), (1, 30)], 27) := by decide +kernel
theorem dX1_namesOf_28 : decode cX1_namesOf 28 = .ok (.ldc 121, 2) := by decide +kernel
theorem dX1_namesOf_30 : decode cX1_namesOf 30 = .ok (.areturn, 1) := by decide +kernel
theorem dX1_namesOf_31 : decode cX1_namesOf 31 = .ok (.ldc 123, 2) := by decide +kernel
theorem dX1_namesOf_33 : decode cX1_namesOf 33 = .ok (.areturn, 1) := by decide +kernel
theorem dX1_namesOf_34 : decode cX1_namesOf 34 = .ok (.ldc 125, 2) := by decide +kernel
theorem dX1_namesOf_36 : decode cX1_namesOf 36 = .ok (.areturn, 1) := by decide +kernel
theorem dX1_numberOf_0 : decode cX1_numberOf 0 = .ok (.iconst 0, 1) := by decide +kernel
theorem dX1_numberOf_1 : decode cX1_numberOf 1 = .ok (.istore_n 3, 1) := by decide +kernel
theorem dX1_numberOf_2 : decode cX1_numberOf 2 = .ok (.iload_n 1, 1) := by decide +kernel
theorem dX1_numberOf_3 : decode cX1_numberOf 3 = .ok (.istore 4, 2) := by decide +kernel
theorem dX1_numberOf_5 : decode cX1_numberOf 5 = .ok (.iload 4, 2) := by decide +kernel
theorem dX1_numberOf_7 : decode cX1_numberOf 7 = .ok (.iload_n 2, 1) := by decide +kernel
theorem dX1_numberOf_8 : decode cX1_numberOf 8 = .ok (.if_icmp .ge 22, 3) := by decide +kernel
theorem dX1_numberOf_11 : decode cX1_numberOf 11 = .ok (.iload_n 3, 1) := by decide +kernel
theorem dX1_numberOf_12 : decode cX1_numberOf 12 = .ok (.bipush 10, 2) := by decide +kernel
theorem dX1_numberOf_14 : decode cX1_numberOf 14 = .ok (.imul, 1) := by decide +kernel
theorem dX1_numberOf_15 : decode cX1_numberOf 15 = .ok (.aload_n 0, 1) := by decide +kernel
theorem dX1_numberOf_16 : decode cX1_numberOf 16 = .ok (.iload 4, 2) := by decide +kernel
theorem dX1_numberOf_18 : decode cX1_numberOf 18 = .ok (.iaload, 1) := by decide +kernel
theorem dX1_numberOf_19 : decode cX1_numberOf 19 = .ok (.iadd, 1) := by decide +kernel
theorem dX1_numberOf_20 : decode cX1_numberOf 20 = .ok (.bipush 48, 2) := by decide +kernel
theorem dX1_numberOf_22 : decode cX1_numberOf 22 = .ok (.isub, 1) := by decide +kernel
theorem dX1_numberOf_23 : decode cX1_numberOf 23 = .ok (.istore_n 3, 1) := by decide +kernel
theorem dX1_numberOf_24 : decode cX1_numberOf 24 = .ok (.iinc 4 1, 3) := by decide +kernel
theorem dX1_numberOf_27 : decode cX1_numberOf 27 = .ok (.goto (-22), 3) := by decide +kernel
theorem dX1_numberOf_30 : decode cX1_numberOf 30 = .ok (.iload_n 3, 1) := by decide +kernel
theorem dX1_numberOf_31 : decode cX1_numberOf 31 = .ok (.ireturn, 1) := by decide +kernel
theorem dX1_isLetter_0 : decode cX1_isLetter 0 = .ok (.iload_n 0, 1) := by decide +kernel
theorem dX1_isLetter_1 : decode cX1_isLetter 1 = .ok (.bipush 97, 2) := by decide +kernel
theorem dX1_isLetter_3 : decode cX1_isLetter 3 = .ok (.if_icmp .lt 13, 3) := by decide +kernel
theorem dX1_isLetter_6 : decode cX1_isLetter 6 = .ok (.iload_n 0, 1) := by decide +kernel
theorem dX1_isLetter_7 : decode cX1_isLetter 7 = .ok (.bipush 122, 2) := by decide +kernel
theorem dX1_isLetter_9 : decode cX1_isLetter 9 = .ok (.if_icmp .gt 7, 3) := by decide +kernel
theorem dX1_isLetter_12 : decode cX1_isLetter 12 = .ok (.iconst 1, 1) := by decide +kernel
theorem dX1_isLetter_13 : decode cX1_isLetter 13 = .ok (.goto 4, 3) := by decide +kernel
theorem dX1_isLetter_16 : decode cX1_isLetter 16 = .ok (.iconst 0, 1) := by decide +kernel
theorem dX1_isLetter_17 : decode cX1_isLetter 17 = .ok (.ireturn, 1) := by decide +kernel
theorem dX1_isDigit_0 : decode cX1_isDigit 0 = .ok (.iload_n 0, 1) := by decide +kernel
theorem dX1_isDigit_1 : decode cX1_isDigit 1 = .ok (.bipush 48, 2) := by decide +kernel
theorem dX1_isDigit_3 : decode cX1_isDigit 3 = .ok (.if_icmp .lt 13, 3) := by decide +kernel
theorem dX1_isDigit_6 : decode cX1_isDigit 6 = .ok (.iload_n 0, 1) := by decide +kernel
theorem dX1_isDigit_7 : decode cX1_isDigit 7 = .ok (.bipush 57, 2) := by decide +kernel
theorem dX1_isDigit_9 : decode cX1_isDigit 9 = .ok (.if_icmp .gt 7, 3) := by decide +kernel
theorem dX1_isDigit_12 : decode cX1_isDigit 12 = .ok (.iconst 1, 1) := by decide +kernel
theorem dX1_isDigit_13 : decode cX1_isDigit 13 = .ok (.goto 4, 3) := by decide +kernel
theorem dX1_isDigit_16 : decode cX1_isDigit 16 = .ok (.iconst 0, 1) := by decide +kernel
theorem dX1_isDigit_17 : decode cX1_isDigit 17 = .ok (.ireturn, 1) := by decide +kernel
theorem dX1_isWord_0 : decode cX1_isWord 0 = .ok (.iload_n 0, 1) := by decide +kernel
theorem dX1_isWord_1 : decode cX1_isWord 1 = .ok (.invokestatic 73, 3) := by decide +kernel
theorem dX1_isWord_4 : decode cX1_isWord 4 = .ok (.ifCond .ne 10, 3) := by decide +kernel
theorem dX1_isWord_7 : decode cX1_isWord 7 = .ok (.iload_n 0, 1) := by decide +kernel
theorem dX1_isWord_8 : decode cX1_isWord 8 = .ok (.invokestatic 76, 3) := by decide +kernel
theorem dX1_isWord_11 : decode cX1_isWord 11 = .ok (.ifCond .eq 7, 3) := by decide +kernel
theorem dX1_isWord_14 : decode cX1_isWord 14 = .ok (.iconst 1, 1) := by decide +kernel
theorem dX1_isWord_15 : decode cX1_isWord 15 = .ok (.goto 4, 3) := by decide +kernel
theorem dX1_isWord_18 : decode cX1_isWord 18 = .ok (.iconst 0, 1) := by decide +kernel
theorem dX1_isWord_19 : decode cX1_isWord 19 = .ok (.ireturn, 1) := by decide +kernel
theorem dX2_init_0 : decode cX2_init 0 = .ok (.aload_n 0, 1) := by decide +kernel
theorem dX2_init_1 : decode cX2_init 1 = .ok (.invokespecial 3, 3) := by decide +kernel
theorem dX2_init_4 : decode cX2_init 4 = .ok (.aload_n 0, 1) := by decide +kernel
theorem dX2_init_5 : decode cX2_init 5 = .ok (.bipush 24, 2) := by decide +kernel
theorem dX2_init_7 : decode cX2_init 7 = .ok (.newarray .int, 2) := by decide +kernel
theorem dX2_init_9 : decode cX2_init 9 = .ok (.putfield 9, 3) := by decide +kernel
theorem dX2_init_12 : decode cX2_init 12 = .ok (.aload_n 0, 1) := by decide +kernel
theorem dX2_init_13 : decode cX2_init 13 = .ok (.iconst (-1), 1) := by decide +kernel
theorem dX2_init_14 : decode cX2_init 14 = .ok (.putfield 15, 3) := by decide +kernel
theorem dX2_init_17 : decode cX2_init 17 = .ok (.return_, 1) := by decide +kernel
theorem dX2_clear_0 : decode cX2_clear 0 = .ok (.aload_n 0, 1) := by decide +kernel
theorem dX2_clear_1 : decode cX2_clear 1 = .ok (.iload_n 1, 1) := by decide +kernel
theorem dX2_clear_2 : decode cX2_clear 2 = .ok (.putfield 15, 3) := by decide +kernel
theorem dX2_clear_5 : decode cX2_clear 5 = .ok (.aload_n 0, 1) := by decide +kernel
theorem dX2_clear_6 : decode cX2_clear 6 = .ok (.iload_n 2, 1) := by decide +kernel
theorem dX2_clear_7 : decode cX2_clear 7 = .ok (.putfield 19, 3) := by decide +kernel
theorem dX2_clear_10 : decode cX2_clear 10 = .ok (.aload_n 0, 1) := by decide +kernel
theorem dX2_clear_11 : decode cX2_clear 11 = .ok (.getfield 9, 3) := by decide +kernel
theorem dX2_clear_14 : decode cX2_clear 14 = .ok (.iconst 0, 1) := by decide +kernel
theorem dX2_clear_15 : decode cX2_clear 15 = .ok (.invokestatic 22, 3) := by decide +kernel
theorem dX2_clear_18 : decode cX2_clear 18 = .ok (.return_, 1) := by decide +kernel
theorem dX2_become_0 : decode cX2_become 0 = .ok (.aload_n 0, 1) := by decide +kernel
theorem dX2_become_1 : decode cX2_become 1 = .ok (.aload_n 1, 1) := by decide +kernel
theorem dX2_become_2 : decode cX2_become 2 = .ok (.getfield 15, 3) := by decide +kernel
theorem dX2_become_5 : decode cX2_become 5 = .ok (.putfield 15, 3) := by decide +kernel
theorem dX2_become_8 : decode cX2_become 8 = .ok (.aload_n 0, 1) := by decide +kernel
theorem dX2_become_9 : decode cX2_become 9 = .ok (.aload_n 1, 1) := by decide +kernel
theorem dX2_become_10 : decode cX2_become 10 = .ok (.getfield 19, 3) := by decide +kernel
theorem dX2_become_13 : decode cX2_become 13 = .ok (.putfield 19, 3) := by decide +kernel
theorem dX2_become_16 : decode cX2_become 16 = .ok (.aload_n 1, 1) := by decide +kernel
theorem dX2_become_17 : decode cX2_become 17 = .ok (.getfield 9, 3) := by decide +kernel
theorem dX2_become_20 : decode cX2_become 20 = .ok (.iconst 0, 1) := by decide +kernel
theorem dX2_become_21 : decode cX2_become 21 = .ok (.aload_n 0, 1) := by decide +kernel
theorem dX2_become_22 : decode cX2_become 22 = .ok (.getfield 9, 3) := by decide +kernel
theorem dX2_become_25 : decode cX2_become 25 = .ok (.iconst 0, 1) := by decide +kernel
theorem dX2_become_26 : decode cX2_become 26 = .ok (.bipush 24, 2) := by decide +kernel
theorem dX2_become_28 : decode cX2_become 28 = .ok (.invokestatic 28, 3) := by decide +kernel
theorem dX2_become_31 : decode cX2_become 31 = .ok (.return_, 1) := by decide +kernel
theorem dX2_has_0 : decode cX2_has 0 = .ok (.iload_n 1, 1) := by decide +kernel
theorem dX2_has_1 : decode cX2_has 1 = .ok (.ifCond .lt 15, 3) := by decide +kernel
theorem dX2_has_4 : decode cX2_has 4 = .ok (.iload_n 1, 1) := by decide +kernel
theorem dX2_has_5 : decode cX2_has 5 = .ok (.aload_n 0, 1) := by decide +kernel
theorem dX2_has_6 : decode cX2_has 6 = .ok (.getfield 19, 3) := by decide +kernel
theorem dX2_has_9 : decode cX2_has 9 = .ok (.if_icmp .ge 7, 3) := by decide +kernel
theorem dX2_has_12 : decode cX2_has 12 = .ok (.iconst 1, 1) := by decide +kernel
theorem dX2_has_13 : decode cX2_has 13 = .ok (.goto 4, 3) := by decide +kernel
theorem dX2_has_16 : decode cX2_has 16 = .ok (.iconst 0, 1) := by decide +kernel
theorem dX2_has_17 : decode cX2_has 17 = .ok (.ireturn, 1) := by decide +kernel
theorem dX2_hasMany_0 : decode cX2_hasMany 0 = .ok (.iload_n 1, 1) := by decide +kernel
theorem dX2_hasMany_1 : decode cX2_hasMany 1 = .ok (.ifCond .lt 21, 3) := by decide +kernel
theorem dX2_hasMany_4 : decode cX2_hasMany 4 = .ok (.iload_n 2, 1) := by decide +kernel
theorem dX2_hasMany_5 : decode cX2_hasMany 5 = .ok (.ifCond .lt 17, 3) := by decide +kernel
theorem dX2_hasMany_8 : decode cX2_hasMany 8 = .ok (.iload_n 1, 1) := by decide +kernel
theorem dX2_hasMany_9 : decode cX2_hasMany 9 = .ok (.aload_n 0, 1) := by decide +kernel
theorem dX2_hasMany_10 : decode cX2_hasMany 10 = .ok (.getfield 19, 3) := by decide +kernel
theorem dX2_hasMany_13 : decode cX2_hasMany 13 = .ok (.iload_n 2, 1) := by decide +kernel
theorem dX2_hasMany_14 : decode cX2_hasMany 14 = .ok (.isub, 1) := by decide +kernel
theorem dX2_hasMany_15 : decode cX2_hasMany 15 = .ok (.if_icmp .gt 7, 3) := by decide +kernel
theorem dX2_hasMany_18 : decode cX2_hasMany 18 = .ok (.iconst 1, 1) := by decide +kernel
theorem dX2_hasMany_19 : decode cX2_hasMany 19 = .ok (.goto 4, 3) := by decide +kernel
theorem dX2_hasMany_22 : decode cX2_hasMany 22 = .ok (.iconst 0, 1) := by decide +kernel
theorem dX2_hasMany_23 : decode cX2_hasMany 23 = .ok (.ireturn, 1) := by decide +kernel
theorem dX2_isNumber_0 : decode cX2_isNumber 0 = .ok (.aload_n 0, 1) := by decide +kernel
theorem dX2_isNumber_1 : decode cX2_isNumber 1 = .ok (.iload_n 1, 1) := by decide +kernel
theorem dX2_isNumber_2 : decode cX2_isNumber 2 = .ok (.invokevirtual 34, 3) := by decide +kernel
theorem dX2_isNumber_5 : decode cX2_isNumber 5 = .ok (.ifCond .eq 18, 3) := by decide +kernel
theorem dX2_isNumber_8 : decode cX2_isNumber 8 = .ok (.aload_n 0, 1) := by decide +kernel
theorem dX2_isNumber_9 : decode cX2_isNumber 9 = .ok (.getfield 9, 3) := by decide +kernel
theorem dX2_isNumber_12 : decode cX2_isNumber 12 = .ok (.iload_n 1, 1) := by decide +kernel
theorem dX2_isNumber_13 : decode cX2_isNumber 13 = .ok (.iaload, 1) := by decide +kernel
theorem dX2_isNumber_14 : decode cX2_isNumber 14 = .ok (.ldc 38, 2) := by decide +kernel
theorem dX2_isNumber_16 : decode cX2_isNumber 16 = .ok (.if_icmp .eq 7, 3) := by decide +kernel
theorem dX2_isNumber_19 : decode cX2_isNumber 19 = .ok (.iconst 1, 1) := by decide +kernel
theorem dX2_isNumber_20 : decode cX2_isNumber 20 = .ok (.goto 4, 3) := by decide +kernel
theorem dX2_isNumber_23 : decode cX2_isNumber 23 = .ok (.iconst 0, 1) := by decide +kernel
theorem dX2_isNumber_24 : decode cX2_isNumber 24 = .ok (.ireturn, 1) := by decide +kernel
theorem dX3_init_0 : decode cX3_init 0 = .ok (.aload_n 0, 1) := by decide +kernel
theorem dX3_init_1 : decode cX3_init 1 = .ok (.invokespecial 3, 3) := by decide +kernel
theorem dX3_init_4 : decode cX3_init 4 = .ok (.aload_n 0, 1) := by decide +kernel
theorem dX3_init_5 : decode cX3_init 5 = .ok (.iconst 0, 1) := by decide +kernel
theorem dX3_init_6 : decode cX3_init 6 = .ok (.putfield 9, 3) := by decide +kernel
theorem dX3_init_9 : decode cX3_init 9 = .ok (.aload_n 0, 1) := by decide +kernel
theorem dX3_init_10 : decode cX3_init 10 = .ok (.new 15, 3) := by decide +kernel
theorem dX3_init_13 : decode cX3_init 13 = .ok (.dup, 1) := by decide +kernel
theorem dX3_init_14 : decode cX3_init 14 = .ok (.invokespecial 17, 3) := by decide +kernel
theorem dX3_init_17 : decode cX3_init 17 = .ok (.putfield 18, 3) := by decide +kernel
theorem dX3_init_20 : decode cX3_init 20 = .ok (.return_, 1) := by decide +kernel
theorem dX3_takeHouse_0 : decode cX3_takeHouse 0 = .ok (.aload_n 1, 1) := by decide +kernel
theorem dX3_takeHouse_1 : decode cX3_takeHouse 1 = .ok (.iload_n 2, 1) := by decide +kernel
theorem dX3_takeHouse_2 : decode cX3_takeHouse 2 = .ok (.invokevirtual 22, 3) := by decide +kernel
theorem dX3_takeHouse_5 : decode cX3_takeHouse 5 = .ok (.ifCond .eq 43, 3) := by decide +kernel
theorem dX3_takeHouse_8 : decode cX3_takeHouse 8 = .ok (.aload_n 0, 1) := by decide +kernel
theorem dX3_takeHouse_9 : decode cX3_takeHouse 9 = .ok (.aload_n 1, 1) := by decide +kernel
theorem dX3_takeHouse_10 : decode cX3_takeHouse 10 = .ok (.getfield 28, 3) := by decide +kernel
theorem dX3_takeHouse_13 : decode cX3_takeHouse 13 = .ok (.iload_n 2, 1) := by decide +kernel
theorem dX3_takeHouse_14 : decode cX3_takeHouse 14 = .ok (.iaload, 1) := by decide +kernel
theorem dX3_takeHouse_15 : decode cX3_takeHouse 15 = .ok (.putfield 32, 3) := by decide +kernel
theorem dX3_takeHouse_18 : decode cX3_takeHouse 18 = .ok (.aload_n 0, 1) := by decide +kernel
theorem dX3_takeHouse_19 : decode cX3_takeHouse 19 = .ok (.aload_n 1, 1) := by decide +kernel
theorem dX3_takeHouse_20 : decode cX3_takeHouse 20 = .ok (.getfield 35, 3) := by decide +kernel
theorem dX3_takeHouse_23 : decode cX3_takeHouse 23 = .ok (.iload_n 2, 1) := by decide +kernel
theorem dX3_takeHouse_24 : decode cX3_takeHouse 24 = .ok (.iaload, 1) := by decide +kernel
theorem dX3_takeHouse_25 : decode cX3_takeHouse 25 = .ok (.putfield 38, 3) := by decide +kernel
theorem dX3_takeHouse_28 : decode cX3_takeHouse 28 = .ok (.aload_n 0, 1) := by decide +kernel
theorem dX3_takeHouse_29 : decode cX3_takeHouse 29 = .ok (.aload_n 1, 1) := by decide +kernel
theorem dX3_takeHouse_30 : decode cX3_takeHouse 30 = .ok (.getfield 41, 3) := by decide +kernel
theorem dX3_takeHouse_33 : decode cX3_takeHouse 33 = .ok (.iload_n 2, 1) := by decide +kernel
theorem dX3_takeHouse_34 : decode cX3_takeHouse 34 = .ok (.iaload, 1) := by decide +kernel
theorem dX3_takeHouse_35 : decode cX3_takeHouse 35 = .ok (.putfield 44, 3) := by decide +kernel
theorem dX3_takeHouse_38 : decode cX3_takeHouse 38 = .ok (.aload_n 0, 1) := by decide +kernel
theorem dX3_takeHouse_39 : decode cX3_takeHouse 39 = .ok (.aload_n 1, 1) := by decide +kernel
theorem dX3_takeHouse_40 : decode cX3_takeHouse 40 = .ok (.getfield 47, 3) := by decide +kernel
theorem dX3_takeHouse_43 : decode cX3_takeHouse 43 = .ok (.iload_n 2, 1) := by decide +kernel
theorem dX3_takeHouse_44 : decode cX3_takeHouse 44 = .ok (.iaload, 1) := by decide +kernel
theorem dX3_takeHouse_45 : decode cX3_takeHouse 45 = .ok (.putfield 50, 3) := by decide +kernel
theorem dX3_takeHouse_48 : decode cX3_takeHouse 48 = .ok (.return_, 1) := by decide +kernel
theorem dX4_init_0 : decode cX4_init 0 = .ok (.aload_n 0, 1) := by decide +kernel
theorem dX4_init_1 : decode cX4_init 1 = .ok (.invokespecial 3, 3) := by decide +kernel
theorem dX4_init_4 : decode cX4_init 4 = .ok (.aload_n 0, 1) := by decide +kernel
theorem dX4_init_5 : decode cX4_init 5 = .ok (.bipush 10, 2) := by decide +kernel
theorem dX4_init_7 : decode cX4_init 7 = .ok (.newarray .int, 2) := by decide +kernel
theorem dX4_init_9 : decode cX4_init 9 = .ok (.putfield 9, 3) := by decide +kernel
theorem dX4_init_12 : decode cX4_init 12 = .ok (.aload_n 0, 1) := by decide +kernel
theorem dX4_init_13 : decode cX4_init 13 = .ok (.bipush 10, 2) := by decide +kernel
theorem dX4_init_15 : decode cX4_init 15 = .ok (.newarray .int, 2) := by decide +kernel
theorem dX4_init_17 : decode cX4_init 17 = .ok (.putfield 15, 3) := by decide +kernel
theorem dX4_init_20 : decode cX4_init 20 = .ok (.aload_n 0, 1) := by decide +kernel
theorem dX4_init_21 : decode cX4_init 21 = .ok (.bipush 10, 2) := by decide +kernel
theorem dX4_init_23 : decode cX4_init 23 = .ok (.newarray .int, 2) := by decide +kernel
theorem dX4_init_25 : decode cX4_init 25 = .ok (.putfield 18, 3) := by decide +kernel
theorem dX4_init_28 : decode cX4_init 28 = .ok (.aload_n 0, 1) := by decide +kernel
theorem dX4_init_29 : decode cX4_init 29 = .ok (.bipush 10, 2) := by decide +kernel
theorem dX4_init_31 : decode cX4_init 31 = .ok (.newarray .int, 2) := by decide +kernel
theorem dX4_init_33 : decode cX4_init 33 = .ok (.putfield 21, 3) := by decide +kernel
theorem dX4_init_36 : decode cX4_init 36 = .ok (.aload_n 0, 1) := by decide +kernel
theorem dX4_init_37 : decode cX4_init 37 = .ok (.bipush 10, 2) := by decide +kernel
theorem dX4_init_39 : decode cX4_init 39 = .ok (.newarray .int, 2) := by decide +kernel
theorem dX4_init_41 : decode cX4_init 41 = .ok (.putfield 24, 3) := by decide +kernel
theorem dX4_init_44 : decode cX4_init 44 = .ok (.aload_n 0, 1) := by decide +kernel
theorem dX4_init_45 : decode cX4_init 45 = .ok (.getstatic 27, 3) := by decide +kernel
theorem dX4_init_48 : decode cX4_init 48 = .ok (.invokevirtual 30, 3) := by decide +kernel
theorem dX4_init_51 : decode cX4_init 51 = .ok (.checkcast 31, 3) := by decide +kernel
theorem dX4_init_54 : decode cX4_init 54 = .ok (.putfield 35, 3) := by decide +kernel
theorem dX4_init_57 : decode cX4_init 57 = .ok (.aload_n 0, 1) := by decide +kernel
theorem dX4_init_58 : decode cX4_init 58 = .ok (.iconst 3, 1) := by decide +kernel
theorem dX4_init_59 : decode cX4_init 59 = .ok (.newarray .int, 2) := by decide +kernel
theorem dX4_init_61 : decode cX4_init 61 = .ok (.dup, 1) := by decide +kernel
theorem dX4_init_62 : decode cX4_init 62 = .ok (.iconst 0, 1) := by decide +kernel
theorem dX4_init_63 : decode cX4_init 63 = .ok (.ldc 38, 2) := by decide +kernel
theorem dX4_init_65 : decode cX4_init 65 = .ok (.iastore, 1) := by decide +kernel
theorem dX4_init_66 : decode cX4_init 66 = .ok (.dup, 1) := by decide +kernel
theorem dX4_init_67 : decode cX4_init 67 = .ok (.iconst 1, 1) := by decide +kernel
theorem dX4_init_68 : decode cX4_init 68 = .ok (.ldc 38, 2) := by decide +kernel
theorem dX4_init_70 : decode cX4_init 70 = .ok (.iastore, 1) := by decide +kernel
theorem dX4_init_71 : decode cX4_init 71 = .ok (.dup, 1) := by decide +kernel
theorem dX4_init_72 : decode cX4_init 72 = .ok (.iconst 2, 1) := by decide +kernel
theorem dX4_init_73 : decode cX4_init 73 = .ok (.ldc 38, 2) := by decide +kernel
theorem dX4_init_75 : decode cX4_init 75 = .ok (.iastore, 1) := by decide +kernel
theorem dX4_init_76 : decode cX4_init 76 = .ok (.putfield 39, 3) := by decide +kernel
theorem dX4_init_79 : decode cX4_init 79 = .ok (.aload_n 0, 1) := by decide +kernel
theorem dX4_init_80 : decode cX4_init 80 = .ok (.iconst 1, 1) := by decide +kernel
theorem dX4_init_81 : decode cX4_init 81 = .ok (.putfield 42, 3) := by decide +kernel
theorem dX4_init_84 : decode cX4_init 84 = .ok (.aload_n 0, 1) := by decide +kernel
theorem dX4_init_85 : decode cX4_init 85 = .ok (.aload_n 1, 1) := by decide +kernel
theorem dX4_init_86 : decode cX4_init 86 = .ok (.putfield 46, 3) := by decide +kernel
theorem dX4_init_89 : decode cX4_init 89 = .ok (.return_, 1) := by decide +kernel
theorem dX4_become_0 : decode cX4_become 0 = .ok (.aload_n 0, 1) := by decide +kernel
theorem dX4_become_1 : decode cX4_become 1 = .ok (.aload_n 1, 1) := by decide +kernel
theorem dX4_become_2 : decode cX4_become 2 = .ok (.getfield 50, 3) := by decide +kernel
theorem dX4_become_5 : decode cX4_become 5 = .ok (.putfield 50, 3) := by decide +kernel
theorem dX4_become_8 : decode cX4_become 8 = .ok (.aload_n 1, 1) := by decide +kernel
theorem dX4_become_9 : decode cX4_become 9 = .ok (.getfield 9, 3) := by decide +kernel
theorem dX4_become_12 : decode cX4_become 12 = .ok (.iconst 0, 1) := by decide +kernel
theorem dX4_become_13 : decode cX4_become 13 = .ok (.aload_n 0, 1) := by decide +kernel
theorem dX4_become_14 : decode cX4_become 14 = .ok (.getfield 9, 3) := by decide +kernel
theorem dX4_become_17 : decode cX4_become 17 = .ok (.iconst 0, 1) := by decide +kernel
theorem dX4_become_18 : decode cX4_become 18 = .ok (.bipush 10, 2) := by decide +kernel
theorem dX4_become_20 : decode cX4_become 20 = .ok (.invokestatic 53, 3) := by decide +kernel
theorem dX4_become_23 : decode cX4_become 23 = .ok (.aload_n 1, 1) := by decide +kernel
theorem dX4_become_24 : decode cX4_become 24 = .ok (.getfield 15, 3) := by decide +kernel
theorem dX4_become_27 : decode cX4_become 27 = .ok (.iconst 0, 1) := by decide +kernel
theorem dX4_become_28 : decode cX4_become 28 = .ok (.aload_n 0, 1) := by decide +kernel
theorem dX4_become_29 : decode cX4_become 29 = .ok (.getfield 15, 3) := by decide +kernel
theorem dX4_become_32 : decode cX4_become 32 = .ok (.iconst 0, 1) := by decide +kernel
theorem dX4_become_33 : decode cX4_become 33 = .ok (.bipush 10, 2) := by decide +kernel
theorem dX4_become_35 : decode cX4_become 35 = .ok (.invokestatic 53, 3) := by decide +kernel
theorem dX4_become_38 : decode cX4_become 38 = .ok (.aload_n 1, 1) := by decide +kernel
theorem dX4_become_39 : decode cX4_become 39 = .ok (.getfield 18, 3) := by decide +kernel
theorem dX4_become_42 : decode cX4_become 42 = .ok (.iconst 0, 1) := by decide +kernel
theorem dX4_become_43 : decode cX4_become 43 = .ok (.aload_n 0, 1) := by decide +kernel
theorem dX4_become_44 : decode cX4_become 44 = .ok (.getfield 18, 3) := by decide +kernel
theorem dX4_become_47 : decode cX4_become 47 = .ok (.iconst 0, 1) := by decide +kernel
theorem dX4_become_48 : decode cX4_become 48 = .ok (.bipush 10, 2) := by decide +kernel
theorem dX4_become_50 : decode cX4_become 50 = .ok (.invokestatic 53, 3) := by decide +kernel
theorem dX4_become_53 : decode cX4_become 53 = .ok (.aload_n 1, 1) := by decide +kernel
theorem dX4_become_54 : decode cX4_become 54 = .ok (.getfield 21, 3) := by decide +kernel
theorem dX4_become_57 : decode cX4_become 57 = .ok (.iconst 0, 1) := by decide +kernel
theorem dX4_become_58 : decode cX4_become 58 = .ok (.aload_n 0, 1) := by decide +kernel
theorem dX4_become_59 : decode cX4_become 59 = .ok (.getfield 21, 3) := by decide +kernel
theorem dX4_become_62 : decode cX4_become 62 = .ok (.iconst 0, 1) := by decide +kernel
theorem dX4_become_63 : decode cX4_become 63 = .ok (.bipush 10, 2) := by decide +kernel
theorem dX4_become_65 : decode cX4_become 65 = .ok (.invokestatic 53, 3) := by decide +kernel
theorem dX4_become_68 : decode cX4_become 68 = .ok (.aload_n 1, 1) := by decide +kernel
theorem dX4_become_69 : decode cX4_become 69 = .ok (.getfield 24, 3) := by decide +kernel
theorem dX4_become_72 : decode cX4_become 72 = .ok (.iconst 0, 1) := by decide +kernel
theorem dX4_become_73 : decode cX4_become 73 = .ok (.aload_n 0, 1) := by decide +kernel
theorem dX4_become_74 : decode cX4_become 74 = .ok (.getfield 24, 3) := by decide +kernel
theorem dX4_become_77 : decode cX4_become 77 = .ok (.iconst 0, 1) := by decide +kernel
theorem dX4_become_78 : decode cX4_become 78 = .ok (.bipush 10, 2) := by decide +kernel
theorem dX4_become_80 : decode cX4_become 80 = .ok (.invokestatic 53, 3) := by decide +kernel
theorem dX4_become_83 : decode cX4_become 83 = .ok (.aload_n 1, 1) := by decide +kernel
theorem dX4_become_84 : decode cX4_become 84 = .ok (.getfield 35, 3) := by decide +kernel
theorem dX4_become_87 : decode cX4_become 87 = .ok (.iconst 0, 1) := by decide +kernel
theorem dX4_become_88 : decode cX4_become 88 = .ok (.aload_n 0, 1) := by decide +kernel
theorem dX4_become_89 : decode cX4_become 89 = .ok (.getfield 35, 3) := by decide +kernel
theorem dX4_become_92 : decode cX4_become 92 = .ok (.iconst 0, 1) := by decide +kernel
theorem dX4_become_93 : decode cX4_become 93 = .ok (.aload_n 0, 1) := by decide +kernel
theorem dX4_become_94 : decode cX4_become 94 = .ok (.getfield 35, 3) := by decide +kernel
theorem dX4_become_97 : decode cX4_become 97 = .ok (.arraylength, 1) := by decide +kernel
theorem dX4_become_98 : decode cX4_become 98 = .ok (.invokestatic 53, 3) := by decide +kernel
theorem dX4_become_101 : decode cX4_become 101 = .ok (.aload_n 1, 1) := by decide +kernel
theorem dX4_become_102 : decode cX4_become 102 = .ok (.getfield 39, 3) := by decide +kernel
theorem dX4_become_105 : decode cX4_become 105 = .ok (.iconst 0, 1) := by decide +kernel
theorem dX4_become_106 : decode cX4_become 106 = .ok (.aload_n 0, 1) := by decide +kernel
theorem dX4_become_107 : decode cX4_become 107 = .ok (.getfield 39, 3) := by decide +kernel
theorem dX4_become_110 : decode cX4_become 110 = .ok (.iconst 0, 1) := by decide +kernel
theorem dX4_become_111 : decode cX4_become 111 = .ok (.iconst 3, 1) := by decide +kernel
theorem dX4_become_112 : decode cX4_become 112 = .ok (.invokestatic 53, 3) := by decide +kernel
theorem dX4_become_115 : decode cX4_become 115 = .ok (.aload_n 0, 1) := by decide +kernel
theorem dX4_become_116 : decode cX4_become 116 = .ok (.aload_n 1, 1) := by decide +kernel
theorem dX4_become_117 : decode cX4_become 117 = .ok (.getfield 59, 3) := by decide +kernel
theorem dX4_become_120 : decode cX4_become 120 = .ok (.putfield 59, 3) := by decide +kernel
theorem dX4_become_123 : decode cX4_become 123 = .ok (.aload_n 0, 1) := by decide +kernel
theorem dX4_become_124 : decode cX4_become 124 = .ok (.aload_n 1, 1) := by decide +kernel
theorem dX4_become_125 : decode cX4_become 125 = .ok (.getfield 62, 3) := by decide +kernel
theorem dX4_become_128 : decode cX4_become 128 = .ok (.putfield 62, 3) := by decide +kernel
theorem dX4_become_131 : decode cX4_become 131 = .ok (.aload_n 0, 1) := by decide +kernel
theorem dX4_become_132 : decode cX4_become 132 = .ok (.aload_n 1, 1) := by decide +kernel
theorem dX4_become_133 : decode cX4_become 133 = .ok (.getfield 65, 3) := by decide +kernel
theorem dX4_become_136 : decode cX4_become 136 = .ok (.putfield 65, 3) := by decide +kernel
theorem dX4_become_139 : decode cX4_become 139 = .ok (.aload_n 0, 1) := by decide +kernel
theorem dX4_become_140 : decode cX4_become 140 = .ok (.aload_n 1, 1) := by decide +kernel
theorem dX4_become_141 : decode cX4_become 141 = .ok (.getfield 68, 3) := by decide +kernel
theorem dX4_become_144 : decode cX4_become 144 = .ok (.putfield 68, 3) := by decide +kernel
theorem dX4_become_147 : decode cX4_become 147 = .ok (.aload_n 0, 1) := by decide +kernel
theorem dX4_become_148 : decode cX4_become 148 = .ok (.aload_n 1, 1) := by decide +kernel
theorem dX4_become_149 : decode cX4_become 149 = .ok (.getfield 71, 3) := by decide +kernel
theorem dX4_become_152 : decode cX4_become 152 = .ok (.putfield 71, 3) := by decide +kernel
theorem dX4_become_155 : decode cX4_become 155 = .ok (.aload_n 0, 1) := by decide +kernel
theorem dX4_become_156 : decode cX4_become 156 = .ok (.aload_n 1, 1) := by decide +kernel
theorem dX4_become_157 : decode cX4_become 157 = .ok (.getfield 42, 3) := by decide +kernel
theorem dX4_become_160 : decode cX4_become 160 = .ok (.putfield 42, 3) := by decide +kernel
theorem dX4_become_163 : decode cX4_become 163 = .ok (.return_, 1) := by decide +kernel
theorem dX4_has_0 : decode cX4_has 0 = .ok (.iload_n 1, 1) := by decide +kernel
theorem dX4_has_1 : decode cX4_has 1 = .ok (.ifCond .lt 15, 3) := by decide +kernel
theorem dX4_has_4 : decode cX4_has 4 = .ok (.iload_n 1, 1) := by decide +kernel
theorem dX4_has_5 : decode cX4_has 5 = .ok (.aload_n 0, 1) := by decide +kernel
theorem dX4_has_6 : decode cX4_has 6 = .ok (.getfield 50, 3) := by decide +kernel
theorem dX4_has_9 : decode cX4_has 9 = .ok (.if_icmp .ge 7, 3) := by decide +kernel
theorem dX4_has_12 : decode cX4_has 12 = .ok (.iconst 1, 1) := by decide +kernel
theorem dX4_has_13 : decode cX4_has 13 = .ok (.goto 4, 3) := by decide +kernel
theorem dX4_has_16 : decode cX4_has 16 = .ok (.iconst 0, 1) := by decide +kernel
theorem dX4_has_17 : decode cX4_has 17 = .ok (.ireturn, 1) := by decide +kernel
theorem dX4_build_0 : decode cX4_build 0 = .ok (.aload_n 0, 1) := by decide +kernel
theorem dX4_build_1 : decode cX4_build 1 = .ok (.getfield 50, 3) := by decide +kernel
theorem dX4_build_4 : decode cX4_build 4 = .ok (.istore 5, 2) := by decide +kernel
theorem dX4_build_6 : decode cX4_build 6 = .ok (.iload 5, 2) := by decide +kernel
theorem dX4_build_8 : decode cX4_build 8 = .ok (.bipush 10, 2) := by decide +kernel
theorem dX4_build_10 : decode cX4_build 10 = .ok (.if_icmp .lt 6, 3) := by decide +kernel
theorem dX4_build_13 : decode cX4_build 13 = .ok (.ldc 74, 2) := by decide +kernel
theorem dX4_build_15 : decode cX4_build 15 = .ok (.ireturn, 1) := by decide +kernel
theorem dX4_build_16 : decode cX4_build 16 = .ok (.aload_n 0, 1) := by decide +kernel
theorem dX4_build_17 : decode cX4_build 17 = .ok (.getfield 9, 3) := by decide +kernel
theorem dX4_build_20 : decode cX4_build 20 = .ok (.iload 5, 2) := by decide +kernel
theorem dX4_build_22 : decode cX4_build 22 = .ok (.iload_n 1, 1) := by decide +kernel
theorem dX4_build_23 : decode cX4_build 23 = .ok (.iastore, 1) := by decide +kernel
theorem dX4_build_24 : decode cX4_build 24 = .ok (.aload_n 0, 1) := by decide +kernel
theorem dX4_build_25 : decode cX4_build 25 = .ok (.getfield 15, 3) := by decide +kernel
theorem dX4_build_28 : decode cX4_build 28 = .ok (.iload 5, 2) := by decide +kernel
theorem dX4_build_30 : decode cX4_build 30 = .ok (.iload_n 2, 1) := by decide +kernel
theorem dX4_build_31 : decode cX4_build 31 = .ok (.iastore, 1) := by decide +kernel
theorem dX4_build_32 : decode cX4_build 32 = .ok (.aload_n 0, 1) := by decide +kernel
theorem dX4_build_33 : decode cX4_build 33 = .ok (.getfield 18, 3) := by decide +kernel
theorem dX4_build_36 : decode cX4_build 36 = .ok (.iload 5, 2) := by decide +kernel
theorem dX4_build_38 : decode cX4_build 38 = .ok (.iload_n 3, 1) := by decide +kernel
theorem dX4_build_39 : decode cX4_build 39 = .ok (.iastore, 1) := by decide +kernel
theorem dX4_build_40 : decode cX4_build 40 = .ok (.aload_n 0, 1) := by decide +kernel
theorem dX4_build_41 : decode cX4_build 41 = .ok (.getfield 21, 3) := by decide +kernel
theorem dX4_build_44 : decode cX4_build 44 = .ok (.iload 5, 2) := by decide +kernel
theorem dX4_build_46 : decode cX4_build 46 = .ok (.iload 4, 2) := by decide +kernel
theorem dX4_build_48 : decode cX4_build 48 = .ok (.iastore, 1) := by decide +kernel
theorem dX4_build_49 : decode cX4_build 49 = .ok (.aload_n 0, 1) := by decide +kernel
theorem dX4_build_50 : decode cX4_build 50 = .ok (.getfield 24, 3) := by decide +kernel
theorem dX4_build_53 : decode cX4_build 53 = .ok (.iload 5, 2) := by decide +kernel
theorem dX4_build_55 : decode cX4_build 55 = .ok (.iconst 0, 1) := by decide +kernel
theorem dX4_build_56 : decode cX4_build 56 = .ok (.iastore, 1) := by decide +kernel
theorem dX4_build_57 : decode cX4_build 57 = .ok (.aload_n 0, 1) := by decide +kernel
theorem dX4_build_58 : decode cX4_build 58 = .ok (.iload 5, 2) := by decide +kernel
theorem dX4_build_60 : decode cX4_build 60 = .ok (.iconst 1, 1) := by decide +kernel
theorem dX4_build_61 : decode cX4_build 61 = .ok (.iadd, 1) := by decide +kernel
theorem dX4_build_62 : decode cX4_build 62 = .ok (.putfield 50, 3) := by decide +kernel
theorem dX4_build_65 : decode cX4_build 65 = .ok (.iload 5, 2) := by decide +kernel
theorem dX4_build_67 : decode cX4_build 67 = .ok (.ireturn, 1) := by decide +kernel
theorem dX4_buildByLot_0 : decode cX4_buildByLot 0 = .ok (.aload_n 0, 1) := by decide +kernel
theorem dX4_buildByLot_1 : decode cX4_buildByLot 1 = .ok (.invokevirtual 75, 3) := by decide +kernel
theorem dX4_buildByLot_4 : decode cX4_buildByLot 4 = .ok (.bipush 6, 2) := by decide +kernel
theorem dX4_buildByLot_6 : decode cX4_buildByLot 6 = .ok (.irem, 1) := by decide +kernel
theorem dX4_buildByLot_7 : decode cX4_buildByLot 7 = .ok (.istore_n 1, 1) := by decide +kernel
theorem dX4_buildByLot_8 : decode cX4_buildByLot 8 = .ok (.aload_n 0, 1) := by decide +kernel
theorem dX4_buildByLot_9 : decode cX4_buildByLot 9 = .ok (.invokevirtual 75, 3) := by decide +kernel
theorem dX4_buildByLot_12 : decode cX4_buildByLot 12 = .ok (.bipush 100, 2) := by decide +kernel
theorem dX4_buildByLot_14 : decode cX4_buildByLot 14 = .ok (.irem, 1) := by decide +kernel
theorem dX4_buildByLot_15 : decode cX4_buildByLot 15 = .ok (.istore_n 2, 1) := by decide +kernel
theorem dX4_buildByLot_16 : decode cX4_buildByLot 16 = .ok (.aload_n 0, 1) := by decide +kernel
theorem dX4_buildByLot_17 : decode cX4_buildByLot 17 = .ok (.invokevirtual 75, 3) := by decide +kernel
theorem dX4_buildByLot_20 : decode cX4_buildByLot 20 = .ok (.bipush 100, 2) := by decide +kernel
theorem dX4_buildByLot_22 : decode cX4_buildByLot 22 = .ok (.irem, 1) := by decide +kernel
theorem dX4_buildByLot_23 : decode cX4_buildByLot 23 = .ok (.istore_n 3, 1) := by decide +kernel
theorem dX4_buildByLot_24 : decode cX4_buildByLot 24 = .ok (.aload_n 0, 1) := by decide +kernel
theorem dX4_buildByLot_25 : decode cX4_buildByLot 25 = .ok (.invokevirtual 75, 3) := by decide +kernel
theorem dX4_buildByLot_28 : decode cX4_buildByLot 28 = .ok (.bipush 100, 2) := by decide +kernel
theorem dX4_buildByLot_30 : decode cX4_buildByLot 30 = .ok (.irem, 1) := by decide +kernel
theorem dX4_buildByLot_31 : decode cX4_buildByLot 31 = .ok (.istore 4, 2) := by decide +kernel
theorem dX4_buildByLot_33 : decode cX4_buildByLot 33 = .ok (.aload_n 0, 1) := by decide +kernel
theorem dX4_buildByLot_34 : decode cX4_buildByLot 34 = .ok (.iload_n 1, 1) := by decide +kernel
theorem dX4_buildByLot_35 : decode cX4_buildByLot 35 = .ok (.iload_n 2, 1) := by decide +kernel
theorem dX4_buildByLot_36 : decode cX4_buildByLot 36 = .ok (.iload_n 3, 1) := by decide +kernel
theorem dX4_buildByLot_37 : decode cX4_buildByLot 37 = .ok (.iload 4, 2) := by decide +kernel
theorem dX4_buildByLot_39 : decode cX4_buildByLot 39 = .ok (.invokevirtual 79, 3) := by decide +kernel
theorem dX4_buildByLot_42 : decode cX4_buildByLot 42 = .ok (.pop, 1) := by decide +kernel
theorem dX4_buildByLot_43 : decode cX4_buildByLot 43 = .ok (.return_, 1) := by decide +kernel
theorem dX4_draw_0 : decode cX4_draw 0 = .ok (.aload_n 0, 1) := by decide +kernel
theorem dX4_draw_1 : decode cX4_draw 1 = .ok (.aload_n 0, 1) := by decide +kernel
theorem dX4_draw_2 : decode cX4_draw 2 = .ok (.getfield 42, 3) := by decide +kernel
theorem dX4_draw_5 : decode cX4_draw 5 = .ok (.ldc 83, 2) := by decide +kernel
theorem dX4_draw_7 : decode cX4_draw 7 = .ok (.imul, 1) := by decide +kernel
theorem dX4_draw_8 : decode cX4_draw 8 = .ok (.sipush 12345, 3) := by decide +kernel
theorem dX4_draw_11 : decode cX4_draw 11 = .ok (.iadd, 1) := by decide +kernel
theorem dX4_draw_12 : decode cX4_draw 12 = .ok (.putfield 42, 3) := by decide +kernel
theorem dX4_draw_15 : decode cX4_draw 15 = .ok (.aload_n 0, 1) := by decide +kernel
theorem dX4_draw_16 : decode cX4_draw 16 = .ok (.getfield 42, 3) := by decide +kernel
theorem dX4_draw_19 : decode cX4_draw 19 = .ok (.bipush 8, 2) := by decide +kernel
theorem dX4_draw_21 : decode cX4_draw 21 = .ok (.iushr, 1) := by decide +kernel
theorem dX4_draw_22 : decode cX4_draw 22 = .ok (.ireturn, 1) := by decide +kernel
theorem dX4_pass_0 : decode cX4_pass 0 = .ok (.iconst 0, 1) := by decide +kernel
theorem dX4_pass_1 : decode cX4_pass 1 = .ok (.istore_n 2, 1) := by decide +kernel
theorem dX4_pass_2 : decode cX4_pass 2 = .ok (.iload_n 2, 1) := by decide +kernel
theorem dX4_pass_3 : decode cX4_pass 3 = .ok (.iload_n 1, 1) := by decide +kernel
theorem dX4_pass_4 : decode cX4_pass 4 = .ok (.if_icmp .ge 52, 3) := by decide +kernel
theorem dX4_pass_7 : decode cX4_pass 7 = .ok (.aload_n 0, 1) := by decide +kernel
theorem dX4_pass_8 : decode cX4_pass 8 = .ok (.invokevirtual 84, 3) := by decide +kernel
theorem dX4_pass_11 : decode cX4_pass 11 = .ok (.aload_n 0, 1) := by decide +kernel
theorem dX4_pass_12 : decode cX4_pass 12 = .ok (.getfield 50, 3) := by decide +kernel
theorem dX4_pass_15 : decode cX4_pass 15 = .ok (.ifCond .le 17, 3) := by decide +kernel
theorem dX4_pass_18 : decode cX4_pass 18 = .ok (.aload_n 0, 1) := by decide +kernel
theorem dX4_pass_19 : decode cX4_pass 19 = .ok (.aload_n 0, 1) := by decide +kernel
theorem dX4_pass_20 : decode cX4_pass 20 = .ok (.getfield 71, 3) := by decide +kernel
theorem dX4_pass_23 : decode cX4_pass 23 = .ok (.aload_n 0, 1) := by decide +kernel
theorem dX4_pass_24 : decode cX4_pass 24 = .ok (.getfield 50, 3) := by decide +kernel
theorem dX4_pass_27 : decode cX4_pass 27 = .ok (.irem, 1) := by decide +kernel
theorem dX4_pass_28 : decode cX4_pass 28 = .ok (.invokevirtual 87, 3) := by decide +kernel
theorem dX4_pass_31 : decode cX4_pass 31 = .ok (.pop, 1) := by decide +kernel
theorem dX4_pass_32 : decode cX4_pass 32 = .ok (.aload_n 0, 1) := by decide +kernel
theorem dX4_pass_33 : decode cX4_pass 33 = .ok (.invokevirtual 91, 3) := by decide +kernel
theorem dX4_pass_36 : decode cX4_pass 36 = .ok (.aload_n 0, 1) := by decide +kernel
theorem dX4_pass_37 : decode cX4_pass 37 = .ok (.invokevirtual 94, 3) := by decide +kernel
theorem dX4_pass_40 : decode cX4_pass 40 = .ok (.aload_n 0, 1) := by decide +kernel
theorem dX4_pass_41 : decode cX4_pass 41 = .ok (.dup, 1) := by decide +kernel
theorem dX4_pass_42 : decode cX4_pass 42 = .ok (.getfield 71, 3) := by decide +kernel
theorem dX4_pass_45 : decode cX4_pass 45 = .ok (.iconst 1, 1) := by decide +kernel
theorem dX4_pass_46 : decode cX4_pass 46 = .ok (.iadd, 1) := by decide +kernel
theorem dX4_pass_47 : decode cX4_pass 47 = .ok (.putfield 71, 3) := by decide +kernel
theorem dX4_pass_50 : decode cX4_pass 50 = .ok (.iinc 2 1, 3) := by decide +kernel
theorem dX4_pass_53 : decode cX4_pass 53 = .ok (.goto (-51), 3) := by decide +kernel
theorem dX4_pass_56 : decode cX4_pass 56 = .ok (.return_, 1) := by decide +kernel
theorem dX4_clank_0 : decode cX4_clank 0 = .ok (.iconst 0, 1) := by decide +kernel
theorem dX4_clank_1 : decode cX4_clank 1 = .ok (.istore_n 1, 1) := by decide +kernel
theorem dX4_clank_2 : decode cX4_clank 2 = .ok (.iconst 0, 1) := by decide +kernel
theorem dX4_clank_3 : decode cX4_clank 3 = .ok (.istore_n 2, 1) := by decide +kernel
theorem dX4_clank_4 : decode cX4_clank 4 = .ok (.iload_n 2, 1) := by decide +kernel
theorem dX4_clank_5 : decode cX4_clank 5 = .ok (.aload_n 0, 1) := by decide +kernel
theorem dX4_clank_6 : decode cX4_clank 6 = .ok (.getfield 50, 3) := by decide +kernel
theorem dX4_clank_9 : decode cX4_clank 9 = .ok (.if_icmp .ge 49, 3) := by decide +kernel
theorem dX4_clank_12 : decode cX4_clank 12 = .ok (.aload_n 0, 1) := by decide +kernel
theorem dX4_clank_13 : decode cX4_clank 13 = .ok (.iload_n 2, 1) := by decide +kernel
theorem dX4_clank_14 : decode cX4_clank 14 = .ok (.invokevirtual 97, 3) := by decide +kernel
theorem dX4_clank_17 : decode cX4_clank 17 = .ok (.aload_n 0, 1) := by decide +kernel
theorem dX4_clank_18 : decode cX4_clank 18 = .ok (.getfield 35, 3) := by decide +kernel
theorem dX4_clank_21 : decode cX4_clank 21 = .ok (.iconst 0, 1) := by decide +kernel
theorem dX4_clank_22 : decode cX4_clank 22 = .ok (.iaload, 1) := by decide +kernel
theorem dX4_clank_23 : decode cX4_clank 23 = .ok (.if_icmp .lt 29, 3) := by decide +kernel
theorem dX4_clank_26 : decode cX4_clank 26 = .ok (.iload_n 1, 1) := by decide +kernel
theorem dX4_clank_27 : decode cX4_clank 27 = .ok (.iconst 1, 1) := by decide +kernel
theorem dX4_clank_28 : decode cX4_clank 28 = .ok (.iload_n 2, 1) := by decide +kernel
theorem dX4_clank_29 : decode cX4_clank 29 = .ok (.ishl, 1) := by decide +kernel
theorem dX4_clank_30 : decode cX4_clank 30 = .ok (.ior, 1) := by decide +kernel
theorem dX4_clank_31 : decode cX4_clank 31 = .ok (.istore_n 1, 1) := by decide +kernel
theorem dX4_clank_32 : decode cX4_clank 32 = .ok (.aload_n 0, 1) := by decide +kernel
theorem dX4_clank_33 : decode cX4_clank 33 = .ok (.getfield 24, 3) := by decide +kernel
theorem dX4_clank_36 : decode cX4_clank 36 = .ok (.iload_n 2, 1) := by decide +kernel
theorem dX4_clank_37 : decode cX4_clank 37 = .ok (.sipush 9999, 3) := by decide +kernel
theorem dX4_clank_40 : decode cX4_clank 40 = .ok (.aload_n 0, 1) := by decide +kernel
theorem dX4_clank_41 : decode cX4_clank 41 = .ok (.getfield 24, 3) := by decide +kernel
theorem dX4_clank_44 : decode cX4_clank 44 = .ok (.iload_n 2, 1) := by decide +kernel
theorem dX4_clank_45 : decode cX4_clank 45 = .ok (.iaload, 1) := by decide +kernel
theorem dX4_clank_46 : decode cX4_clank 46 = .ok (.iconst 1, 1) := by decide +kernel
theorem dX4_clank_47 : decode cX4_clank 47 = .ok (.iadd, 1) := by decide +kernel
theorem dX4_clank_48 : decode cX4_clank 48 = .ok (.invokestatic 100, 3) := by decide +kernel
theorem dX4_clank_51 : decode cX4_clank 51 = .ok (.iastore, 1) := by decide +kernel
theorem dX4_clank_52 : decode cX4_clank 52 = .ok (.iinc 2 1, 3) := by decide +kernel
theorem dX4_clank_55 : decode cX4_clank 55 = .ok (.goto (-51), 3) := by decide +kernel
theorem dX4_clank_58 : decode cX4_clank 58 = .ok (.aload_n 0, 1) := by decide +kernel
theorem dX4_clank_59 : decode cX4_clank 59 = .ok (.ldc 106, 2) := by decide +kernel
theorem dX4_clank_61 : decode cX4_clank 61 = .ok (.aload_n 0, 1) := by decide +kernel
theorem dX4_clank_62 : decode cX4_clank 62 = .ok (.getfield 65, 3) := by decide +kernel
theorem dX4_clank_65 : decode cX4_clank 65 = .ok (.iload_n 1, 1) := by decide +kernel
theorem dX4_clank_66 : decode cX4_clank 66 = .ok (.invokestatic 107, 3) := by decide +kernel
theorem dX4_clank_69 : decode cX4_clank 69 = .ok (.iadd, 1) := by decide +kernel
theorem dX4_clank_70 : decode cX4_clank 70 = .ok (.invokestatic 100, 3) := by decide +kernel
theorem dX4_clank_73 : decode cX4_clank 73 = .ok (.putfield 65, 3) := by decide +kernel
theorem dX4_clank_76 : decode cX4_clank 76 = .ok (.aload_n 0, 1) := by decide +kernel
theorem dX4_clank_77 : decode cX4_clank 77 = .ok (.iload_n 1, 1) := by decide +kernel
theorem dX4_clank_78 : decode cX4_clank 78 = .ok (.putfield 62, 3) := by decide +kernel
theorem dX4_clank_81 : decode cX4_clank 81 = .ok (.return_, 1) := by decide +kernel
theorem dX4_deliver_0 : decode cX4_deliver 0 = .ok (.aload_n 0, 1) := by decide +kernel
theorem dX4_deliver_1 : decode cX4_deliver 1 = .ok (.iload_n 1, 1) := by decide +kernel
theorem dX4_deliver_2 : decode cX4_deliver 2 = .ok (.invokevirtual 97, 3) := by decide +kernel
theorem dX4_deliver_5 : decode cX4_deliver 5 = .ok (.ifCond .ne 20, 3) := by decide +kernel
theorem dX4_deliver_8 : decode cX4_deliver 8 = .ok (.aload_n 0, 1) := by decide +kernel
theorem dX4_deliver_9 : decode cX4_deliver 9 = .ok (.ldc 106, 2) := by decide +kernel
theorem dX4_deliver_11 : decode cX4_deliver 11 = .ok (.aload_n 0, 1) := by decide +kernel
theorem dX4_deliver_12 : decode cX4_deliver 12 = .ok (.getfield 68, 3) := by decide +kernel
theorem dX4_deliver_15 : decode cX4_deliver 15 = .ok (.iconst 1, 1) := by decide +kernel
theorem dX4_deliver_16 : decode cX4_deliver 16 = .ok (.iadd, 1) := by decide +kernel
theorem dX4_deliver_17 : decode cX4_deliver 17 = .ok (.invokestatic 100, 3) := by decide +kernel
theorem dX4_deliver_20 : decode cX4_deliver 20 = .ok (.putfield 68, 3) := by decide +kernel
theorem dX4_deliver_23 : decode cX4_deliver 23 = .ok (.iconst 0, 1) := by decide +kernel
theorem dX4_deliver_24 : decode cX4_deliver 24 = .ok (.ireturn, 1) := by decide +kernel
theorem dX4_deliver_25 : decode cX4_deliver 25 = .ok (.aload_n 0, 1) := by decide +kernel
theorem dX4_deliver_26 : decode cX4_deliver 26 = .ok (.getfield 21, 3) := by decide +kernel
theorem dX4_deliver_29 : decode cX4_deliver 29 = .ok (.iload_n 1, 1) := by decide +kernel
theorem dX4_deliver_30 : decode cX4_deliver 30 = .ok (.iaload, 1) := by decide +kernel
theorem dX4_deliver_31 : decode cX4_deliver 31 = .ok (.istore_n 2, 1) := by decide +kernel
theorem dX4_deliver_32 : decode cX4_deliver 32 = .ok (.aload_n 0, 1) := by decide +kernel
theorem dX4_deliver_33 : decode cX4_deliver 33 = .ok (.getfield 21, 3) := by decide +kernel
theorem dX4_deliver_36 : decode cX4_deliver 36 = .ok (.iload_n 1, 1) := by decide +kernel
theorem dX4_deliver_37 : decode cX4_deliver 37 = .ok (.bipush 99, 2) := by decide +kernel
theorem dX4_deliver_39 : decode cX4_deliver 39 = .ok (.iload_n 2, 1) := by decide +kernel
theorem dX4_deliver_40 : decode cX4_deliver 40 = .ok (.aload_n 0, 1) := by decide +kernel
theorem dX4_deliver_41 : decode cX4_deliver 41 = .ok (.getfield 35, 3) := by decide +kernel
theorem dX4_deliver_44 : decode cX4_deliver 44 = .ok (.iconst 1, 1) := by decide +kernel
theorem dX4_deliver_45 : decode cX4_deliver 45 = .ok (.iaload, 1) := by decide +kernel
theorem dX4_deliver_46 : decode cX4_deliver 46 = .ok (.iadd, 1) := by decide +kernel
theorem dX4_deliver_47 : decode cX4_deliver 47 = .ok (.invokestatic 100, 3) := by decide +kernel
theorem dX4_deliver_50 : decode cX4_deliver 50 = .ok (.iastore, 1) := by decide +kernel
theorem dX4_deliver_51 : decode cX4_deliver 51 = .ok (.aload_n 0, 1) := by decide +kernel
theorem dX4_deliver_52 : decode cX4_deliver 52 = .ok (.getfield 21, 3) := by decide +kernel
theorem dX4_deliver_55 : decode cX4_deliver 55 = .ok (.iload_n 1, 1) := by decide +kernel
theorem dX4_deliver_56 : decode cX4_deliver 56 = .ok (.iaload, 1) := by decide +kernel
theorem dX4_deliver_57 : decode cX4_deliver 57 = .ok (.iload_n 2, 1) := by decide +kernel
theorem dX4_deliver_58 : decode cX4_deliver 58 = .ok (.isub, 1) := by decide +kernel
theorem dX4_deliver_59 : decode cX4_deliver 59 = .ok (.ireturn, 1) := by decide +kernel
theorem dX4_burnAndBend_0 : decode cX4_burnAndBend 0 = .ok (.iconst 0, 1) := by decide +kernel
theorem dX4_burnAndBend_1 : decode cX4_burnAndBend 1 = .ok (.istore_n 1, 1) := by decide +kernel
theorem dX4_burnAndBend_2 : decode cX4_burnAndBend 2 = .ok (.iload_n 1, 1) := by decide +kernel
theorem dX4_burnAndBend_3 : decode cX4_burnAndBend 3 = .ok (.aload_n 0, 1) := by decide +kernel
theorem dX4_burnAndBend_4 : decode cX4_burnAndBend 4 = .ok (.getfield 50, 3) := by decide +kernel
theorem dX4_burnAndBend_7 : decode cX4_burnAndBend 7 = .ok (.if_icmp .ge 54, 3) := by decide +kernel
theorem dX4_burnAndBend_10 : decode cX4_burnAndBend 10 = .ok (.aload_n 0, 1) := by decide +kernel
theorem dX4_burnAndBend_11 : decode cX4_burnAndBend 11 = .ok (.getfield 15, 3) := by decide +kernel
theorem dX4_burnAndBend_14 : decode cX4_burnAndBend 14 = .ok (.iload_n 1, 1) := by decide +kernel
theorem dX4_burnAndBend_15 : decode cX4_burnAndBend 15 = .ok (.iaload, 1) := by decide +kernel
theorem dX4_burnAndBend_16 : decode cX4_burnAndBend 16 = .ok (.aload_n 0, 1) := by decide +kernel
theorem dX4_burnAndBend_17 : decode cX4_burnAndBend 17 = .ok (.iload_n 1, 1) := by decide +kernel
theorem dX4_burnAndBend_18 : decode cX4_burnAndBend 18 = .ok (.invokevirtual 112, 3) := by decide +kernel
theorem dX4_burnAndBend_21 : decode cX4_burnAndBend 21 = .ok (.iadd, 1) := by decide +kernel
theorem dX4_burnAndBend_22 : decode cX4_burnAndBend 22 = .ok (.istore_n 2, 1) := by decide +kernel
theorem dX4_burnAndBend_23 : decode cX4_burnAndBend 23 = .ok (.aload_n 0, 1) := by decide +kernel
theorem dX4_burnAndBend_24 : decode cX4_burnAndBend 24 = .ok (.getfield 21, 3) := by decide +kernel
theorem dX4_burnAndBend_27 : decode cX4_burnAndBend 27 = .ok (.iload_n 1, 1) := by decide +kernel
theorem dX4_burnAndBend_28 : decode cX4_burnAndBend 28 = .ok (.iconst 0, 1) := by decide +kernel
theorem dX4_burnAndBend_29 : decode cX4_burnAndBend 29 = .ok (.aload_n 0, 1) := by decide +kernel
theorem dX4_burnAndBend_30 : decode cX4_burnAndBend 30 = .ok (.getfield 21, 3) := by decide +kernel
theorem dX4_burnAndBend_33 : decode cX4_burnAndBend 33 = .ok (.iload_n 1, 1) := by decide +kernel
theorem dX4_burnAndBend_34 : decode cX4_burnAndBend 34 = .ok (.iaload, 1) := by decide +kernel
theorem dX4_burnAndBend_35 : decode cX4_burnAndBend 35 = .ok (.aload_n 0, 1) := by decide +kernel
theorem dX4_burnAndBend_36 : decode cX4_burnAndBend 36 = .ok (.iload_n 1, 1) := by decide +kernel
theorem dX4_burnAndBend_37 : decode cX4_burnAndBend 37 = .ok (.invokevirtual 115, 3) := by decide +kernel
theorem dX4_burnAndBend_40 : decode cX4_burnAndBend 40 = .ok (.isub, 1) := by decide +kernel
theorem dX4_burnAndBend_41 : decode cX4_burnAndBend 41 = .ok (.invokestatic 118, 3) := by decide +kernel
theorem dX4_burnAndBend_44 : decode cX4_burnAndBend 44 = .ok (.iastore, 1) := by decide +kernel
theorem dX4_burnAndBend_45 : decode cX4_burnAndBend 45 = .ok (.aload_n 0, 1) := by decide +kernel
theorem dX4_burnAndBend_46 : decode cX4_burnAndBend 46 = .ok (.getfield 15, 3) := by decide +kernel
theorem dX4_burnAndBend_49 : decode cX4_burnAndBend 49 = .ok (.iload_n 1, 1) := by decide +kernel
theorem dX4_burnAndBend_50 : decode cX4_burnAndBend 50 = .ok (.iload_n 2, 1) := by decide +kernel
theorem dX4_burnAndBend_51 : decode cX4_burnAndBend 51 = .ok (.invokestatic 121, 3) := by decide +kernel
theorem dX4_burnAndBend_54 : decode cX4_burnAndBend 54 = .ok (.iastore, 1) := by decide +kernel
theorem dX4_burnAndBend_55 : decode cX4_burnAndBend 55 = .ok (.iinc 1 1, 3) := by decide +kernel
theorem dX4_burnAndBend_58 : decode cX4_burnAndBend 58 = .ok (.goto (-56), 3) := by decide +kernel
theorem dX4_burnAndBend_61 : decode cX4_burnAndBend 61 = .ok (.return_, 1) := by decide +kernel
theorem dX4_tread_0 : decode cX4_tread 0 = .ok (.aload_n 0, 1) := by decide +kernel
theorem dX4_tread_1 : decode cX4_tread 1 = .ok (.invokevirtual 75, 3) := by decide +kernel
theorem dX4_tread_4 : decode cX4_tread 4 = .ok (.bipush 100, 2) := by decide +kernel
theorem dX4_tread_6 : decode cX4_tread 6 = .ok (.irem, 1) := by decide +kernel
theorem dX4_tread_7 : decode cX4_tread 7 = .ok (.aload_n 0, 1) := by decide +kernel
theorem dX4_tread_8 : decode cX4_tread 8 = .ok (.getfield 35, 3) := by decide +kernel
theorem dX4_tread_11 : decode cX4_tread 11 = .ok (.iconst 2, 1) := by decide +kernel
theorem dX4_tread_12 : decode cX4_tread 12 = .ok (.iaload, 1) := by decide +kernel
theorem dX4_tread_13 : decode cX4_tread 13 = .ok (.if_icmp .ge 33, 3) := by decide +kernel
theorem dX4_tread_16 : decode cX4_tread 16 = .ok (.aload_n 0, 1) := by decide +kernel
theorem dX4_tread_17 : decode cX4_tread 17 = .ok (.getfield 50, 3) := by decide +kernel
theorem dX4_tread_20 : decode cX4_tread 20 = .ok (.ifCond .le 26, 3) := by decide +kernel
theorem dX4_tread_23 : decode cX4_tread 23 = .ok (.aload_n 0, 1) := by decide +kernel
theorem dX4_tread_24 : decode cX4_tread 24 = .ok (.invokevirtual 75, 3) := by decide +kernel
theorem dX4_tread_27 : decode cX4_tread 27 = .ok (.aload_n 0, 1) := by decide +kernel
theorem dX4_tread_28 : decode cX4_tread 28 = .ok (.getfield 50, 3) := by decide +kernel
theorem dX4_tread_31 : decode cX4_tread 31 = .ok (.irem, 1) := by decide +kernel
theorem dX4_tread_32 : decode cX4_tread 32 = .ok (.istore_n 1, 1) := by decide +kernel
theorem dX4_tread_33 : decode cX4_tread 33 = .ok (.aload_n 0, 1) := by decide +kernel
theorem dX4_tread_34 : decode cX4_tread 34 = .ok (.getfield 18, 3) := by decide +kernel
theorem dX4_tread_37 : decode cX4_tread 37 = .ok (.iload_n 1, 1) := by decide +kernel
theorem dX4_tread_38 : decode cX4_tread 38 = .ok (.aload_n 0, 1) := by decide +kernel
theorem dX4_tread_39 : decode cX4_tread 39 = .ok (.invokevirtual 75, 3) := by decide +kernel
theorem dX4_tread_42 : decode cX4_tread 42 = .ok (.bipush 100, 2) := by decide +kernel
theorem dX4_tread_44 : decode cX4_tread 44 = .ok (.irem, 1) := by decide +kernel
theorem dX4_tread_45 : decode cX4_tread 45 = .ok (.iastore, 1) := by decide +kernel
theorem dX4_tread_46 : decode cX4_tread 46 = .ok (.return_, 1) := by decide +kernel
theorem dX4_slack_0 : decode cX4_slack 0 = .ok (.aload_n 0, 1) := by decide +kernel
theorem dX4_slack_1 : decode cX4_slack 1 = .ok (.getfield 9, 3) := by decide +kernel
theorem dX4_slack_4 : decode cX4_slack 4 = .ok (.iload_n 1, 1) := by decide +kernel
theorem dX4_slack_5 : decode cX4_slack 5 = .ok (.iaload, 1) := by decide +kernel
theorem dX4_slack_6 : decode cX4_slack 6 = .ok (.tableswitch 101 1 5 #[34, 56, 42, 73, 98], 34) := by decide +kernel
theorem dX4_slack_40 : decode cX4_slack 40 = .ok (.aload_n 0, 1) := by decide +kernel
theorem dX4_slack_41 : decode cX4_slack 41 = .ok (.iload_n 1, 1) := by decide +kernel
theorem dX4_slack_42 : decode cX4_slack 42 = .ok (.invokevirtual 124, 3) := by decide +kernel
theorem dX4_slack_45 : decode cX4_slack 45 = .ok (.iconst 2, 1) := by decide +kernel
theorem dX4_slack_46 : decode cX4_slack 46 = .ok (.idiv, 1) := by decide +kernel
theorem dX4_slack_47 : decode cX4_slack 47 = .ok (.ireturn, 1) := by decide +kernel
theorem dX4_slack_48 : decode cX4_slack 48 = .ok (.iconst 0, 1) := by decide +kernel
theorem dX4_slack_49 : decode cX4_slack 49 = .ok (.aload_n 0, 1) := by decide +kernel
theorem dX4_slack_50 : decode cX4_slack 50 = .ok (.iload_n 1, 1) := by decide +kernel
theorem dX4_slack_51 : decode cX4_slack 51 = .ok (.invokevirtual 124, 3) := by decide +kernel
theorem dX4_slack_54 : decode cX4_slack 54 = .ok (.iconst 2, 1) := by decide +kernel
theorem dX4_slack_55 : decode cX4_slack 55 = .ok (.idiv, 1) := by decide +kernel
theorem dX4_slack_56 : decode cX4_slack 56 = .ok (.iconst 5, 1) := by decide +kernel
theorem dX4_slack_57 : decode cX4_slack 57 = .ok (.isub, 1) := by decide +kernel
theorem dX4_slack_58 : decode cX4_slack 58 = .ok (.invokestatic 118, 3) := by decide +kernel
theorem dX4_slack_61 : decode cX4_slack 61 = .ok (.ireturn, 1) := by decide +kernel
theorem dX4_slack_62 : decode cX4_slack 62 = .ok (.bipush 99, 2) := by decide +kernel
theorem dX4_slack_64 : decode cX4_slack 64 = .ok (.aload_n 0, 1) := by decide +kernel
theorem dX4_slack_65 : decode cX4_slack 65 = .ok (.iload_n 1, 1) := by decide +kernel
theorem dX4_slack_66 : decode cX4_slack 66 = .ok (.invokevirtual 124, 3) := by decide +kernel
theorem dX4_slack_69 : decode cX4_slack 69 = .ok (.aload_n 0, 1) := by decide +kernel
theorem dX4_slack_70 : decode cX4_slack 70 = .ok (.iload_n 1, 1) := by decide +kernel
theorem dX4_slack_71 : decode cX4_slack 71 = .ok (.invokevirtual 127, 3) := by decide +kernel
theorem dX4_slack_74 : decode cX4_slack 74 = .ok (.iadd, 1) := by decide +kernel
theorem dX4_slack_75 : decode cX4_slack 75 = .ok (.invokestatic 100, 3) := by decide +kernel
theorem dX4_slack_78 : decode cX4_slack 78 = .ok (.ireturn, 1) := by decide +kernel
theorem dX4_slack_79 : decode cX4_slack 79 = .ok (.bipush 99, 2) := by decide +kernel
theorem dX4_slack_81 : decode cX4_slack 81 = .ok (.bipush 99, 2) := by decide +kernel
theorem dX4_slack_83 : decode cX4_slack 83 = .ok (.aload_n 0, 1) := by decide +kernel
theorem dX4_slack_84 : decode cX4_slack 84 = .ok (.iload_n 1, 1) := by decide +kernel
theorem dX4_slack_85 : decode cX4_slack 85 = .ok (.invokevirtual 124, 3) := by decide +kernel
theorem dX4_slack_88 : decode cX4_slack 88 = .ok (.aload_n 0, 1) := by decide +kernel
theorem dX4_slack_89 : decode cX4_slack 89 = .ok (.iload_n 1, 1) := by decide +kernel
theorem dX4_slack_90 : decode cX4_slack 90 = .ok (.invokevirtual 127, 3) := by decide +kernel
theorem dX4_slack_93 : decode cX4_slack 93 = .ok (.iadd, 1) := by decide +kernel
theorem dX4_slack_94 : decode cX4_slack 94 = .ok (.invokestatic 100, 3) := by decide +kernel
theorem dX4_slack_97 : decode cX4_slack 97 = .ok (.bipush 10, 2) := by decide +kernel
theorem dX4_slack_99 : decode cX4_slack 99 = .ok (.iadd, 1) := by decide +kernel
theorem dX4_slack_100 : decode cX4_slack 100 = .ok (.invokestatic 100, 3) := by decide +kernel
theorem dX4_slack_103 : decode cX4_slack 103 = .ok (.ireturn, 1) := by decide +kernel
theorem dX4_slack_104 : decode cX4_slack 104 = .ok (.bipush 50, 2) := by decide +kernel
theorem dX4_slack_106 : decode cX4_slack 106 = .ok (.ireturn, 1) := by decide +kernel
theorem dX4_slack_107 : decode cX4_slack 107 = .ok (.aload_n 0, 1) := by decide +kernel
theorem dX4_slack_108 : decode cX4_slack 108 = .ok (.iload_n 1, 1) := by decide +kernel
theorem dX4_slack_109 : decode cX4_slack 109 = .ok (.invokevirtual 124, 3) := by decide +kernel
theorem dX4_slack_112 : decode cX4_slack 112 = .ok (.ireturn, 1) := by decide +kernel
theorem dX4_tuneBeside_0 : decode cX4_tuneBeside 0 = .ok (.iconst 2, 1) := by decide +kernel
theorem dX4_tuneBeside_1 : decode cX4_tuneBeside 1 = .ok (.aload_n 0, 1) := by decide +kernel
theorem dX4_tuneBeside_2 : decode cX4_tuneBeside 2 = .ok (.getfield 62, 3) := by decide +kernel
theorem dX4_tuneBeside_5 : decode cX4_tuneBeside 5 = .ok (.iconst 1, 1) := by decide +kernel
theorem dX4_tuneBeside_6 : decode cX4_tuneBeside 6 = .ok (.iload_n 1, 1) := by decide +kernel
theorem dX4_tuneBeside_7 : decode cX4_tuneBeside 7 = .ok (.ishl, 1) := by decide +kernel
theorem dX4_tuneBeside_8 : decode cX4_tuneBeside 8 = .ok (.iconst (-1), 1) := by decide +kernel
theorem dX4_tuneBeside_9 : decode cX4_tuneBeside 9 = .ok (.ixor, 1) := by decide +kernel
theorem dX4_tuneBeside_10 : decode cX4_tuneBeside 10 = .ok (.iand, 1) := by decide +kernel
theorem dX4_tuneBeside_11 : decode cX4_tuneBeside 11 = .ok (.invokestatic 107, 3) := by decide +kernel
theorem dX4_tuneBeside_14 : decode cX4_tuneBeside 14 = .ok (.imul, 1) := by decide +kernel
theorem dX4_tuneBeside_15 : decode cX4_tuneBeside 15 = .ok (.ireturn, 1) := by decide +kernel
theorem dX4_plain_0 : decode cX4_plain 0 = .ok (.aload_n 0, 1) := by decide +kernel
theorem dX4_plain_1 : decode cX4_plain 1 = .ok (.getfield 46, 3) := by decide +kernel
theorem dX4_plain_4 : decode cX4_plain 4 = .ok (.aload_n 0, 1) := by decide +kernel
theorem dX4_plain_5 : decode cX4_plain 5 = .ok (.getfield 39, 3) := by decide +kernel
theorem dX4_plain_8 : decode cX4_plain 8 = .ok (.iconst 0, 1) := by decide +kernel
theorem dX4_plain_9 : decode cX4_plain 9 = .ok (.iaload, 1) := by decide +kernel
theorem dX4_plain_10 : decode cX4_plain 10 = .ok (.invokevirtual 130, 3) := by decide +kernel
theorem dX4_plain_13 : decode cX4_plain 13 = .ok (.astore_n 2, 1) := by decide +kernel
theorem dX4_plain_14 : decode cX4_plain 14 = .ok (.aload_n 2, 1) := by decide +kernel
theorem dX4_plain_15 : decode cX4_plain 15 = .ok (.ifnonnull 20, 3) := by decide +kernel
theorem dX4_plain_18 : decode cX4_plain 18 = .ok (.aload_n 0, 1) := by decide +kernel
theorem dX4_plain_19 : decode cX4_plain 19 = .ok (.getfield 15, 3) := by decide +kernel
theorem dX4_plain_22 : decode cX4_plain 22 = .ok (.iload_n 1, 1) := by decide +kernel
theorem dX4_plain_23 : decode cX4_plain 23 = .ok (.iaload, 1) := by decide +kernel
theorem dX4_plain_24 : decode cX4_plain 24 = .ok (.aload_n 0, 1) := by decide +kernel
theorem dX4_plain_25 : decode cX4_plain 25 = .ok (.getfield 18, 3) := by decide +kernel
theorem dX4_plain_28 : decode cX4_plain 28 = .ok (.iload_n 1, 1) := by decide +kernel
theorem dX4_plain_29 : decode cX4_plain 29 = .ok (.iaload, 1) := by decide +kernel
theorem dX4_plain_30 : decode cX4_plain 30 = .ok (.isub, 1) := by decide +kernel
theorem dX4_plain_31 : decode cX4_plain 31 = .ok (.invokestatic 136, 3) := by decide +kernel
theorem dX4_plain_34 : decode cX4_plain 34 = .ok (.ireturn, 1) := by decide +kernel
theorem dX4_plain_35 : decode cX4_plain 35 = .ok (.aload_n 0, 1) := by decide +kernel
theorem dX4_plain_36 : decode cX4_plain 36 = .ok (.getfield 46, 3) := by decide +kernel
theorem dX4_plain_39 : decode cX4_plain 39 = .ok (.getfield 139, 3) := by decide +kernel
theorem dX4_plain_42 : decode cX4_plain 42 = .ok (.astore_n 3, 1) := by decide +kernel
theorem dX4_plain_43 : decode cX4_plain 43 = .ok (.aload_n 3, 1) := by decide +kernel
theorem dX4_plain_44 : decode cX4_plain 44 = .ok (.iconst 0, 1) := by decide +kernel
theorem dX4_plain_45 : decode cX4_plain 45 = .ok (.aload_n 0, 1) := by decide +kernel
theorem dX4_plain_46 : decode cX4_plain 46 = .ok (.getfield 15, 3) := by decide +kernel
theorem dX4_plain_49 : decode cX4_plain 49 = .ok (.iload_n 1, 1) := by decide +kernel
theorem dX4_plain_50 : decode cX4_plain 50 = .ok (.iaload, 1) := by decide +kernel
theorem dX4_plain_51 : decode cX4_plain 51 = .ok (.iastore, 1) := by decide +kernel
theorem dX4_plain_52 : decode cX4_plain 52 = .ok (.aload_n 3, 1) := by decide +kernel
theorem dX4_plain_53 : decode cX4_plain 53 = .ok (.iconst 1, 1) := by decide +kernel
theorem dX4_plain_54 : decode cX4_plain 54 = .ok (.aload_n 0, 1) := by decide +kernel
theorem dX4_plain_55 : decode cX4_plain 55 = .ok (.getfield 18, 3) := by decide +kernel
theorem dX4_plain_58 : decode cX4_plain 58 = .ok (.iload_n 1, 1) := by decide +kernel
theorem dX4_plain_59 : decode cX4_plain 59 = .ok (.iaload, 1) := by decide +kernel
theorem dX4_plain_60 : decode cX4_plain 60 = .ok (.iastore, 1) := by decide +kernel
theorem dX4_plain_61 : decode cX4_plain 61 = .ok (.aload_n 3, 1) := by decide +kernel
theorem dX4_plain_62 : decode cX4_plain 62 = .ok (.iconst 2, 1) := by decide +kernel
theorem dX4_plain_63 : decode cX4_plain 63 = .ok (.aload_n 0, 1) := by decide +kernel
theorem dX4_plain_64 : decode cX4_plain 64 = .ok (.getfield 21, 3) := by decide +kernel
theorem dX4_plain_67 : decode cX4_plain 67 = .ok (.iload_n 1, 1) := by decide +kernel
theorem dX4_plain_68 : decode cX4_plain 68 = .ok (.iaload, 1) := by decide +kernel
theorem dX4_plain_69 : decode cX4_plain 69 = .ok (.iastore, 1) := by decide +kernel
theorem dX4_plain_70 : decode cX4_plain 70 = .ok (.aload_n 3, 1) := by decide +kernel
theorem dX4_plain_71 : decode cX4_plain 71 = .ok (.iconst 3, 1) := by decide +kernel
theorem dX4_plain_72 : decode cX4_plain 72 = .ok (.aload_n 0, 1) := by decide +kernel
theorem dX4_plain_73 : decode cX4_plain 73 = .ok (.getfield 50, 3) := by decide +kernel
theorem dX4_plain_76 : decode cX4_plain 76 = .ok (.iastore, 1) := by decide +kernel
theorem dX4_plain_77 : decode cX4_plain 77 = .ok (.aload_n 2, 1) := by decide +kernel
theorem dX4_plain_78 : decode cX4_plain 78 = .ok (.aload_n 3, 1) := by decide +kernel
theorem dX4_plain_79 : decode cX4_plain 79 = .ok (.aload_n 0, 1) := by decide +kernel
theorem dX4_plain_80 : decode cX4_plain 80 = .ok (.getfield 46, 3) := by decide +kernel
theorem dX4_plain_83 : decode cX4_plain 83 = .ok (.getfield 142, 3) := by decide +kernel
theorem dX4_plain_86 : decode cX4_plain 86 = .ok (.invokevirtual 145, 3) := by decide +kernel
theorem dX4_plain_89 : decode cX4_plain 89 = .ok (.invokestatic 121, 3) := by decide +kernel
theorem dX4_plain_92 : decode cX4_plain 92 = .ok (.ireturn, 1) := by decide +kernel
theorem dX4_bends_0 : decode cX4_bends 0 = .ok (.aload_n 0, 1) := by decide +kernel
theorem dX4_bends_1 : decode cX4_bends 1 = .ok (.getfield 9, 3) := by decide +kernel
theorem dX4_bends_4 : decode cX4_bends 4 = .ok (.iload_n 1, 1) := by decide +kernel
theorem dX4_bends_5 : decode cX4_bends 5 = .ok (.iaload, 1) := by decide +kernel
theorem dX4_bends_6 : decode cX4_bends 6 = .ok (.tableswitch 64 1 5 #[34, 38, 36, 50, 62], 34) := by decide +kernel
theorem dX4_bends_40 : decode cX4_bends 40 = .ok (.iconst 1, 1) := by decide +kernel
theorem dX4_bends_41 : decode cX4_bends 41 = .ok (.ireturn, 1) := by decide +kernel
theorem dX4_bends_42 : decode cX4_bends 42 = .ok (.iconst 2, 1) := by decide +kernel
theorem dX4_bends_43 : decode cX4_bends 43 = .ok (.ireturn, 1) := by decide +kernel
theorem dX4_bends_44 : decode cX4_bends 44 = .ok (.iconst (-1), 1) := by decide +kernel
theorem dX4_bends_45 : decode cX4_bends 45 = .ok (.aload_n 0, 1) := by decide +kernel
theorem dX4_bends_46 : decode cX4_bends 46 = .ok (.getfield 21, 3) := by decide +kernel
theorem dX4_bends_49 : decode cX4_bends 49 = .ok (.iload_n 1, 1) := by decide +kernel
theorem dX4_bends_50 : decode cX4_bends 50 = .ok (.iaload, 1) := by decide +kernel
theorem dX4_bends_51 : decode cX4_bends 51 = .ok (.bipush 10, 2) := by decide +kernel
theorem dX4_bends_53 : decode cX4_bends 53 = .ok (.idiv, 1) := by decide +kernel
theorem dX4_bends_54 : decode cX4_bends 54 = .ok (.isub, 1) := by decide +kernel
theorem dX4_bends_55 : decode cX4_bends 55 = .ok (.ireturn, 1) := by decide +kernel
theorem dX4_bends_56 : decode cX4_bends 56 = .ok (.iconst 2, 1) := by decide +kernel
theorem dX4_bends_57 : decode cX4_bends 57 = .ok (.aload_n 0, 1) := by decide +kernel
theorem dX4_bends_58 : decode cX4_bends 58 = .ok (.getfield 21, 3) := by decide +kernel
theorem dX4_bends_61 : decode cX4_bends 61 = .ok (.iload_n 1, 1) := by decide +kernel
theorem dX4_bends_62 : decode cX4_bends 62 = .ok (.iaload, 1) := by decide +kernel
theorem dX4_bends_63 : decode cX4_bends 63 = .ok (.bipush 10, 2) := by decide +kernel
theorem dX4_bends_65 : decode cX4_bends 65 = .ok (.idiv, 1) := by decide +kernel
theorem dX4_bends_66 : decode cX4_bends 66 = .ok (.isub, 1) := by decide +kernel
theorem dX4_bends_67 : decode cX4_bends 67 = .ok (.ireturn, 1) := by decide +kernel
theorem dX4_bends_68 : decode cX4_bends 68 = .ok (.iconst 0, 1) := by decide +kernel
theorem dX4_bends_69 : decode cX4_bends 69 = .ok (.ireturn, 1) := by decide +kernel
theorem dX4_bends_70 : decode cX4_bends 70 = .ok (.iconst (-1), 1) := by decide +kernel
theorem dX4_bends_71 : decode cX4_bends 71 = .ok (.ireturn, 1) := by decide +kernel
theorem dX4_burns_0 : decode cX4_burns 0 = .ok (.aload_n 0, 1) := by decide +kernel
theorem dX4_burns_1 : decode cX4_burns 1 = .ok (.getfield 9, 3) := by decide +kernel
theorem dX4_burns_4 : decode cX4_burns 4 = .ok (.iload_n 1, 1) := by decide +kernel
theorem dX4_burns_5 : decode cX4_burns 5 = .ok (.iaload, 1) := by decide +kernel
theorem dX4_burns_6 : decode cX4_burns 6 = .ok (.invokestatic 151, 3) := by decide +kernel
theorem dX4_burns_9 : decode cX4_burns 9 = .ok (.ifCond .eq 16, 3) := by decide +kernel
theorem dX4_burns_12 : decode cX4_burns 12 = .ok (.getstatic 155, 3) := by decide +kernel
theorem dX4_burns_15 : decode cX4_burns 15 = .ok (.aload_n 0, 1) := by decide +kernel
theorem dX4_burns_16 : decode cX4_burns 16 = .ok (.getfield 9, 3) := by decide +kernel
theorem dX4_burns_19 : decode cX4_burns 19 = .ok (.iload_n 1, 1) := by decide +kernel
theorem dX4_burns_20 : decode cX4_burns 20 = .ok (.iaload, 1) := by decide +kernel
theorem dX4_burns_21 : decode cX4_burns 21 = .ok (.iaload, 1) := by decide +kernel
theorem dX4_burns_22 : decode cX4_burns 22 = .ok (.goto 4, 3) := by decide +kernel
theorem dX4_burns_25 : decode cX4_burns 25 = .ok (.iconst 0, 1) := by decide +kernel
theorem dX4_burns_26 : decode cX4_burns 26 = .ok (.ireturn, 1) := by decide +kernel
theorem dX4_feeNow_0 : decode cX4_feeNow 0 = .ok (.aload_n 0, 1) := by decide +kernel
theorem dX4_feeNow_1 : decode cX4_feeNow 1 = .ok (.getfield 46, 3) := by decide +kernel
theorem dX4_feeNow_4 : decode cX4_feeNow 4 = .ok (.aload_n 0, 1) := by decide +kernel
theorem dX4_feeNow_5 : decode cX4_feeNow 5 = .ok (.getfield 39, 3) := by decide +kernel
theorem dX4_feeNow_8 : decode cX4_feeNow 8 = .ok (.iconst 1, 1) := by decide +kernel
theorem dX4_feeNow_9 : decode cX4_feeNow 9 = .ok (.iaload, 1) := by decide +kernel
theorem dX4_feeNow_10 : decode cX4_feeNow 10 = .ok (.invokevirtual 130, 3) := by decide +kernel
theorem dX4_feeNow_13 : decode cX4_feeNow 13 = .ok (.astore_n 1, 1) := by decide +kernel
theorem dX4_feeNow_14 : decode cX4_feeNow 14 = .ok (.aload_n 1, 1) := by decide +kernel
theorem dX4_feeNow_15 : decode cX4_feeNow 15 = .ok (.ifnonnull 8, 3) := by decide +kernel
theorem dX4_feeNow_18 : decode cX4_feeNow 18 = .ok (.aload_n 0, 1) := by decide +kernel
theorem dX4_feeNow_19 : decode cX4_feeNow 19 = .ok (.getfield 65, 3) := by decide +kernel
theorem dX4_feeNow_22 : decode cX4_feeNow 22 = .ok (.ireturn, 1) := by decide +kernel
theorem dX4_feeNow_23 : decode cX4_feeNow 23 = .ok (.aload_n 0, 1) := by decide +kernel
theorem dX4_feeNow_24 : decode cX4_feeNow 24 = .ok (.getfield 46, 3) := by decide +kernel
theorem dX4_feeNow_27 : decode cX4_feeNow 27 = .ok (.getfield 139, 3) := by decide +kernel
theorem dX4_feeNow_30 : decode cX4_feeNow 30 = .ok (.iconst 4, 1) := by decide +kernel
theorem dX4_feeNow_31 : decode cX4_feeNow 31 = .ok (.aload_n 0, 1) := by decide +kernel
theorem dX4_feeNow_32 : decode cX4_feeNow 32 = .ok (.getfield 65, 3) := by decide +kernel
theorem dX4_feeNow_35 : decode cX4_feeNow 35 = .ok (.iastore, 1) := by decide +kernel
theorem dX4_feeNow_36 : decode cX4_feeNow 36 = .ok (.aload_n 0, 1) := by decide +kernel
theorem dX4_feeNow_37 : decode cX4_feeNow 37 = .ok (.getfield 46, 3) := by decide +kernel
theorem dX4_feeNow_40 : decode cX4_feeNow 40 = .ok (.getfield 139, 3) := by decide +kernel
theorem dX4_feeNow_43 : decode cX4_feeNow 43 = .ok (.iconst 5, 1) := by decide +kernel
theorem dX4_feeNow_44 : decode cX4_feeNow 44 = .ok (.aload_n 0, 1) := by decide +kernel
theorem dX4_feeNow_45 : decode cX4_feeNow 45 = .ok (.getfield 68, 3) := by decide +kernel
theorem dX4_feeNow_48 : decode cX4_feeNow 48 = .ok (.iastore, 1) := by decide +kernel
theorem dX4_feeNow_49 : decode cX4_feeNow 49 = .ok (.aload_n 1, 1) := by decide +kernel
theorem dX4_feeNow_50 : decode cX4_feeNow 50 = .ok (.aload_n 0, 1) := by decide +kernel
theorem dX4_feeNow_51 : decode cX4_feeNow 51 = .ok (.getfield 46, 3) := by decide +kernel
theorem dX4_feeNow_54 : decode cX4_feeNow 54 = .ok (.getfield 139, 3) := by decide +kernel
theorem dX4_feeNow_57 : decode cX4_feeNow 57 = .ok (.aload_n 0, 1) := by decide +kernel
theorem dX4_feeNow_58 : decode cX4_feeNow 58 = .ok (.getfield 46, 3) := by decide +kernel
theorem dX4_feeNow_61 : decode cX4_feeNow 61 = .ok (.getfield 142, 3) := by decide +kernel
theorem dX4_feeNow_64 : decode cX4_feeNow 64 = .ok (.invokevirtual 145, 3) := by decide +kernel
theorem dX4_feeNow_67 : decode cX4_feeNow 67 = .ok (.ireturn, 1) := by decide +kernel
theorem dX4_fineOf_0 : decode cX4_fineOf 0 = .ok (.aload_n 0, 1) := by decide +kernel
theorem dX4_fineOf_1 : decode cX4_fineOf 1 = .ok (.getfield 46, 3) := by decide +kernel
theorem dX4_fineOf_4 : decode cX4_fineOf 4 = .ok (.aload_n 0, 1) := by decide +kernel
theorem dX4_fineOf_5 : decode cX4_fineOf 5 = .ok (.getfield 39, 3) := by decide +kernel
theorem dX4_fineOf_8 : decode cX4_fineOf 8 = .ok (.iconst 2, 1) := by decide +kernel
theorem dX4_fineOf_9 : decode cX4_fineOf 9 = .ok (.iaload, 1) := by decide +kernel
theorem dX4_fineOf_10 : decode cX4_fineOf 10 = .ok (.invokevirtual 130, 3) := by decide +kernel
theorem dX4_fineOf_13 : decode cX4_fineOf 13 = .ok (.astore_n 2, 1) := by decide +kernel
theorem dX4_fineOf_14 : decode cX4_fineOf 14 = .ok (.aload_n 2, 1) := by decide +kernel
theorem dX4_fineOf_15 : decode cX4_fineOf 15 = .ok (.ifnonnull 10, 3) := by decide +kernel
theorem dX4_fineOf_18 : decode cX4_fineOf 18 = .ok (.aload_n 0, 1) := by decide +kernel
theorem dX4_fineOf_19 : decode cX4_fineOf 19 = .ok (.getfield 21, 3) := by decide +kernel
theorem dX4_fineOf_22 : decode cX4_fineOf 22 = .ok (.iload_n 1, 1) := by decide +kernel
theorem dX4_fineOf_23 : decode cX4_fineOf 23 = .ok (.iaload, 1) := by decide +kernel
theorem dX4_fineOf_24 : decode cX4_fineOf 24 = .ok (.ireturn, 1) := by decide +kernel
theorem dX4_fineOf_25 : decode cX4_fineOf 25 = .ok (.aload_n 0, 1) := by decide +kernel
theorem dX4_fineOf_26 : decode cX4_fineOf 26 = .ok (.getfield 46, 3) := by decide +kernel
theorem dX4_fineOf_29 : decode cX4_fineOf 29 = .ok (.getfield 139, 3) := by decide +kernel
theorem dX4_fineOf_32 : decode cX4_fineOf 32 = .ok (.iconst 0, 1) := by decide +kernel
theorem dX4_fineOf_33 : decode cX4_fineOf 33 = .ok (.aload_n 0, 1) := by decide +kernel
theorem dX4_fineOf_34 : decode cX4_fineOf 34 = .ok (.getfield 15, 3) := by decide +kernel
theorem dX4_fineOf_37 : decode cX4_fineOf 37 = .ok (.iload_n 1, 1) := by decide +kernel
theorem dX4_fineOf_38 : decode cX4_fineOf 38 = .ok (.iaload, 1) := by decide +kernel
theorem dX4_fineOf_39 : decode cX4_fineOf 39 = .ok (.iastore, 1) := by decide +kernel
theorem dX4_fineOf_40 : decode cX4_fineOf 40 = .ok (.aload_n 0, 1) := by decide +kernel
theorem dX4_fineOf_41 : decode cX4_fineOf 41 = .ok (.getfield 46, 3) := by decide +kernel
theorem dX4_fineOf_44 : decode cX4_fineOf 44 = .ok (.getfield 139, 3) := by decide +kernel
theorem dX4_fineOf_47 : decode cX4_fineOf 47 = .ok (.iconst 2, 1) := by decide +kernel
theorem dX4_fineOf_48 : decode cX4_fineOf 48 = .ok (.aload_n 0, 1) := by decide +kernel
theorem dX4_fineOf_49 : decode cX4_fineOf 49 = .ok (.getfield 21, 3) := by decide +kernel
theorem dX4_fineOf_52 : decode cX4_fineOf 52 = .ok (.iload_n 1, 1) := by decide +kernel
theorem dX4_fineOf_53 : decode cX4_fineOf 53 = .ok (.iaload, 1) := by decide +kernel
theorem dX4_fineOf_54 : decode cX4_fineOf 54 = .ok (.iastore, 1) := by decide +kernel
theorem dX4_fineOf_55 : decode cX4_fineOf 55 = .ok (.aload_n 2, 1) := by decide +kernel
theorem dX4_fineOf_56 : decode cX4_fineOf 56 = .ok (.aload_n 0, 1) := by decide +kernel
theorem dX4_fineOf_57 : decode cX4_fineOf 57 = .ok (.getfield 46, 3) := by decide +kernel
theorem dX4_fineOf_60 : decode cX4_fineOf 60 = .ok (.getfield 139, 3) := by decide +kernel
theorem dX4_fineOf_63 : decode cX4_fineOf 63 = .ok (.aload_n 0, 1) := by decide +kernel
theorem dX4_fineOf_64 : decode cX4_fineOf 64 = .ok (.getfield 46, 3) := by decide +kernel
theorem dX4_fineOf_67 : decode cX4_fineOf 67 = .ok (.getfield 142, 3) := by decide +kernel
theorem dX4_fineOf_70 : decode cX4_fineOf 70 = .ok (.invokevirtual 145, 3) := by decide +kernel
theorem dX4_fineOf_73 : decode cX4_fineOf 73 = .ok (.ireturn, 1) := by decide +kernel
theorem dX4_reading_0 : decode cX4_reading 0 = .ok (.iload_n 1, 1) := by decide +kernel
theorem dX4_reading_1 : decode cX4_reading 1 = .ok (.tableswitch 64 0 4 #[35, 40, 45, 50, 55], 35) := by decide +kernel
theorem dX4_reading_36 : decode cX4_reading 36 = .ok (.aload_n 0, 1) := by decide +kernel
theorem dX4_reading_37 : decode cX4_reading 37 = .ok (.getfield 65, 3) := by decide +kernel
theorem dX4_reading_40 : decode cX4_reading 40 = .ok (.ireturn, 1) := by decide +kernel
theorem dX4_reading_41 : decode cX4_reading 41 = .ok (.aload_n 0, 1) := by decide +kernel
theorem dX4_reading_42 : decode cX4_reading 42 = .ok (.getfield 68, 3) := by decide +kernel
theorem dX4_reading_45 : decode cX4_reading 45 = .ok (.ireturn, 1) := by decide +kernel
theorem dX4_reading_46 : decode cX4_reading 46 = .ok (.aload_n 0, 1) := by decide +kernel
theorem dX4_reading_47 : decode cX4_reading 47 = .ok (.invokevirtual 158, 3) := by decide +kernel
theorem dX4_reading_50 : decode cX4_reading 50 = .ok (.ireturn, 1) := by decide +kernel
theorem dX4_reading_51 : decode cX4_reading 51 = .ok (.aload_n 0, 1) := by decide +kernel
theorem dX4_reading_52 : decode cX4_reading 52 = .ok (.getfield 62, 3) := by decide +kernel
theorem dX4_reading_55 : decode cX4_reading 55 = .ok (.ireturn, 1) := by decide +kernel
theorem dX4_reading_56 : decode cX4_reading 56 = .ok (.aload_n 0, 1) := by decide +kernel
theorem dX4_reading_57 : decode cX4_reading 57 = .ok (.aload_n 0, 1) := by decide +kernel
theorem dX4_reading_58 : decode cX4_reading 58 = .ok (.getfield 21, 3) := by decide +kernel
theorem dX4_reading_61 : decode cX4_reading 61 = .ok (.invokevirtual 161, 3) := by decide +kernel
theorem dX4_reading_64 : decode cX4_reading 64 = .ok (.ireturn, 1) := by decide +kernel
theorem dX4_reading_65 : decode cX4_reading 65 = .ok (.ldc 165, 2) := by decide +kernel
theorem dX4_reading_67 : decode cX4_reading 67 = .ok (.ireturn, 1) := by decide +kernel
theorem dX4_coldOnes_0 : decode cX4_coldOnes 0 = .ok (.iconst 0, 1) := by decide +kernel
theorem dX4_coldOnes_1 : decode cX4_coldOnes 1 = .ok (.istore_n 1, 1) := by decide +kernel
theorem dX4_coldOnes_2 : decode cX4_coldOnes 2 = .ok (.iconst 0, 1) := by decide +kernel
theorem dX4_coldOnes_3 : decode cX4_coldOnes 3 = .ok (.istore_n 2, 1) := by decide +kernel
theorem dX4_coldOnes_4 : decode cX4_coldOnes 4 = .ok (.iload_n 2, 1) := by decide +kernel
theorem dX4_coldOnes_5 : decode cX4_coldOnes 5 = .ok (.aload_n 0, 1) := by decide +kernel
theorem dX4_coldOnes_6 : decode cX4_coldOnes 6 = .ok (.getfield 50, 3) := by decide +kernel
theorem dX4_coldOnes_9 : decode cX4_coldOnes 9 = .ok (.if_icmp .ge 24, 3) := by decide +kernel
theorem dX4_coldOnes_12 : decode cX4_coldOnes 12 = .ok (.aload_n 0, 1) := by decide +kernel
theorem dX4_coldOnes_13 : decode cX4_coldOnes 13 = .ok (.getfield 21, 3) := by decide +kernel
theorem dX4_coldOnes_16 : decode cX4_coldOnes 16 = .ok (.iload_n 2, 1) := by decide +kernel
theorem dX4_coldOnes_17 : decode cX4_coldOnes 17 = .ok (.iaload, 1) := by decide +kernel
theorem dX4_coldOnes_18 : decode cX4_coldOnes 18 = .ok (.ifCond .ne 9, 3) := by decide +kernel
theorem dX4_coldOnes_21 : decode cX4_coldOnes 21 = .ok (.iload_n 1, 1) := by decide +kernel
theorem dX4_coldOnes_22 : decode cX4_coldOnes 22 = .ok (.iconst 1, 1) := by decide +kernel
theorem dX4_coldOnes_23 : decode cX4_coldOnes 23 = .ok (.iload_n 2, 1) := by decide +kernel
theorem dX4_coldOnes_24 : decode cX4_coldOnes 24 = .ok (.ishl, 1) := by decide +kernel
theorem dX4_coldOnes_25 : decode cX4_coldOnes 25 = .ok (.ior, 1) := by decide +kernel
theorem dX4_coldOnes_26 : decode cX4_coldOnes 26 = .ok (.istore_n 1, 1) := by decide +kernel
theorem dX4_coldOnes_27 : decode cX4_coldOnes 27 = .ok (.iinc 2 1, 3) := by decide +kernel
theorem dX4_coldOnes_30 : decode cX4_coldOnes 30 = .ok (.goto (-26), 3) := by decide +kernel
theorem dX4_coldOnes_33 : decode cX4_coldOnes 33 = .ok (.iload_n 1, 1) := by decide +kernel
theorem dX4_coldOnes_34 : decode cX4_coldOnes 34 = .ok (.ireturn, 1) := by decide +kernel
theorem dX4_total_0 : decode cX4_total 0 = .ok (.iconst 0, 1) := by decide +kernel
theorem dX4_total_1 : decode cX4_total 1 = .ok (.istore_n 2, 1) := by decide +kernel
theorem dX4_total_2 : decode cX4_total 2 = .ok (.iconst 0, 1) := by decide +kernel
theorem dX4_total_3 : decode cX4_total 3 = .ok (.istore_n 3, 1) := by decide +kernel
theorem dX4_total_4 : decode cX4_total 4 = .ok (.iload_n 3, 1) := by decide +kernel
theorem dX4_total_5 : decode cX4_total 5 = .ok (.aload_n 0, 1) := by decide +kernel
theorem dX4_total_6 : decode cX4_total 6 = .ok (.getfield 50, 3) := by decide +kernel
theorem dX4_total_9 : decode cX4_total 9 = .ok (.if_icmp .ge 21, 3) := by decide +kernel
theorem dX4_total_12 : decode cX4_total 12 = .ok (.iload_n 3, 1) := by decide +kernel
theorem dX4_total_13 : decode cX4_total 13 = .ok (.aload_n 1, 1) := by decide +kernel
theorem dX4_total_14 : decode cX4_total 14 = .ok (.arraylength, 1) := by decide +kernel
theorem dX4_total_15 : decode cX4_total 15 = .ok (.if_icmp .ge 15, 3) := by decide +kernel
theorem dX4_total_18 : decode cX4_total 18 = .ok (.iload_n 2, 1) := by decide +kernel
theorem dX4_total_19 : decode cX4_total 19 = .ok (.aload_n 1, 1) := by decide +kernel
theorem dX4_total_20 : decode cX4_total 20 = .ok (.iload_n 3, 1) := by decide +kernel
theorem dX4_total_21 : decode cX4_total 21 = .ok (.iaload, 1) := by decide +kernel
theorem dX4_total_22 : decode cX4_total 22 = .ok (.iadd, 1) := by decide +kernel
theorem dX4_total_23 : decode cX4_total 23 = .ok (.istore_n 2, 1) := by decide +kernel
theorem dX4_total_24 : decode cX4_total 24 = .ok (.iinc 3 1, 3) := by decide +kernel
theorem dX4_total_27 : decode cX4_total 27 = .ok (.goto (-23), 3) := by decide +kernel
theorem dX4_total_30 : decode cX4_total 30 = .ok (.iload_n 2, 1) := by decide +kernel
theorem dX4_total_31 : decode cX4_total 31 = .ok (.ireturn, 1) := by decide +kernel
theorem dX4_loudest_0 : decode cX4_loudest 0 = .ok (.ldc 38, 2) := by decide +kernel
theorem dX4_loudest_2 : decode cX4_loudest 2 = .ok (.istore_n 1, 1) := by decide +kernel
theorem dX4_loudest_3 : decode cX4_loudest 3 = .ok (.iconst (-1), 1) := by decide +kernel
theorem dX4_loudest_4 : decode cX4_loudest 4 = .ok (.istore_n 2, 1) := by decide +kernel
theorem dX4_loudest_5 : decode cX4_loudest 5 = .ok (.iconst 0, 1) := by decide +kernel
theorem dX4_loudest_6 : decode cX4_loudest 6 = .ok (.istore_n 3, 1) := by decide +kernel
theorem dX4_loudest_7 : decode cX4_loudest 7 = .ok (.iload_n 3, 1) := by decide +kernel
theorem dX4_loudest_8 : decode cX4_loudest 8 = .ok (.aload_n 0, 1) := by decide +kernel
theorem dX4_loudest_9 : decode cX4_loudest 9 = .ok (.getfield 50, 3) := by decide +kernel
theorem dX4_loudest_12 : decode cX4_loudest 12 = .ok (.if_icmp .ge 28, 3) := by decide +kernel
theorem dX4_loudest_15 : decode cX4_loudest 15 = .ok (.aload_n 0, 1) := by decide +kernel
theorem dX4_loudest_16 : decode cX4_loudest 16 = .ok (.getfield 24, 3) := by decide +kernel
theorem dX4_loudest_19 : decode cX4_loudest 19 = .ok (.iload_n 3, 1) := by decide +kernel
theorem dX4_loudest_20 : decode cX4_loudest 20 = .ok (.iaload, 1) := by decide +kernel
theorem dX4_loudest_21 : decode cX4_loudest 21 = .ok (.iload_n 2, 1) := by decide +kernel
theorem dX4_loudest_22 : decode cX4_loudest 22 = .ok (.if_icmp .le 12, 3) := by decide +kernel
theorem dX4_loudest_25 : decode cX4_loudest 25 = .ok (.iload_n 3, 1) := by decide +kernel
theorem dX4_loudest_26 : decode cX4_loudest 26 = .ok (.istore_n 1, 1) := by decide +kernel
theorem dX4_loudest_27 : decode cX4_loudest 27 = .ok (.aload_n 0, 1) := by decide +kernel
theorem dX4_loudest_28 : decode cX4_loudest 28 = .ok (.getfield 24, 3) := by decide +kernel
theorem dX4_loudest_31 : decode cX4_loudest 31 = .ok (.iload_n 3, 1) := by decide +kernel
theorem dX4_loudest_32 : decode cX4_loudest 32 = .ok (.iaload, 1) := by decide +kernel
theorem dX4_loudest_33 : decode cX4_loudest 33 = .ok (.istore_n 2, 1) := by decide +kernel
theorem dX4_loudest_34 : decode cX4_loudest 34 = .ok (.iinc 3 1, 3) := by decide +kernel
theorem dX4_loudest_37 : decode cX4_loudest 37 = .ok (.goto (-30), 3) := by decide +kernel
theorem dX4_loudest_40 : decode cX4_loudest 40 = .ok (.iload_n 1, 1) := by decide +kernel
theorem dX4_loudest_41 : decode cX4_loudest 41 = .ok (.ireturn, 1) := by decide +kernel
theorem dX4_those_0 : decode cX4_those 0 = .ok (.iconst 0, 1) := by decide +kernel
theorem dX4_those_1 : decode cX4_those 1 = .ok (.istore_n 2, 1) := by decide +kernel
theorem dX4_those_2 : decode cX4_those 2 = .ok (.iconst 0, 1) := by decide +kernel
theorem dX4_those_3 : decode cX4_those 3 = .ok (.istore_n 3, 1) := by decide +kernel
theorem dX4_those_4 : decode cX4_those 4 = .ok (.iload_n 3, 1) := by decide +kernel
theorem dX4_those_5 : decode cX4_those 5 = .ok (.aload_n 0, 1) := by decide +kernel
theorem dX4_those_6 : decode cX4_those 6 = .ok (.getfield 50, 3) := by decide +kernel
theorem dX4_those_9 : decode cX4_those 9 = .ok (.if_icmp .ge 25, 3) := by decide +kernel
theorem dX4_those_12 : decode cX4_those 12 = .ok (.aload_n 0, 1) := by decide +kernel
theorem dX4_those_13 : decode cX4_those 13 = .ok (.getfield 9, 3) := by decide +kernel
theorem dX4_those_16 : decode cX4_those 16 = .ok (.iload_n 3, 1) := by decide +kernel
theorem dX4_those_17 : decode cX4_those 17 = .ok (.iaload, 1) := by decide +kernel
theorem dX4_those_18 : decode cX4_those 18 = .ok (.iload_n 1, 1) := by decide +kernel
theorem dX4_those_19 : decode cX4_those 19 = .ok (.if_icmp .ne 9, 3) := by decide +kernel
theorem dX4_those_22 : decode cX4_those 22 = .ok (.iload_n 2, 1) := by decide +kernel
theorem dX4_those_23 : decode cX4_those 23 = .ok (.iconst 1, 1) := by decide +kernel
theorem dX4_those_24 : decode cX4_those 24 = .ok (.iload_n 3, 1) := by decide +kernel
theorem dX4_those_25 : decode cX4_those 25 = .ok (.ishl, 1) := by decide +kernel
theorem dX4_those_26 : decode cX4_those 26 = .ok (.ior, 1) := by decide +kernel
theorem dX4_those_27 : decode cX4_those 27 = .ok (.istore_n 2, 1) := by decide +kernel
theorem dX4_those_28 : decode cX4_those 28 = .ok (.iinc 3 1, 3) := by decide +kernel
theorem dX4_those_31 : decode cX4_those 31 = .ok (.goto (-27), 3) := by decide +kernel
theorem dX4_those_34 : decode cX4_those 34 = .ok (.iload_n 2, 1) := by decide +kernel
theorem dX4_those_35 : decode cX4_those 35 = .ok (.ireturn, 1) := by decide +kernel
theorem dX4_mostCoal_0 : decode cX4_mostCoal 0 = .ok (.aload_n 0, 1) := by decide +kernel
theorem dX4_mostCoal_1 : decode cX4_mostCoal 1 = .ok (.getfield 21, 3) := by decide +kernel
theorem dX4_mostCoal_4 : decode cX4_mostCoal 4 = .ok (.iload_n 1, 1) := by decide +kernel
theorem dX4_mostCoal_5 : decode cX4_mostCoal 5 = .ok (.iaload, 1) := by decide +kernel
theorem dX4_mostCoal_6 : decode cX4_mostCoal 6 = .ok (.istore_n 3, 1) := by decide +kernel
theorem dX4_mostCoal_7 : decode cX4_mostCoal 7 = .ok (.iconst 0, 1) := by decide +kernel
theorem dX4_mostCoal_8 : decode cX4_mostCoal 8 = .ok (.istore 4, 2) := by decide +kernel
theorem dX4_mostCoal_10 : decode cX4_mostCoal 10 = .ok (.iload 4, 2) := by decide +kernel
theorem dX4_mostCoal_12 : decode cX4_mostCoal 12 = .ok (.iload_n 2, 1) := by decide +kernel
theorem dX4_mostCoal_13 : decode cX4_mostCoal 13 = .ok (.if_icmp .ge 58, 3) := by decide +kernel
theorem dX4_mostCoal_16 : decode cX4_mostCoal 16 = .ok (.aload_n 0, 1) := by decide +kernel
theorem dX4_mostCoal_17 : decode cX4_mostCoal 17 = .ok (.getfield 50, 3) := by decide +kernel
theorem dX4_mostCoal_20 : decode cX4_mostCoal 20 = .ok (.ifCond .le 51, 3) := by decide +kernel
theorem dX4_mostCoal_23 : decode cX4_mostCoal 23 = .ok (.aload_n 0, 1) := by decide +kernel
theorem dX4_mostCoal_24 : decode cX4_mostCoal 24 = .ok (.getfield 71, 3) := by decide +kernel
theorem dX4_mostCoal_27 : decode cX4_mostCoal 27 = .ok (.iload 4, 2) := by decide +kernel
theorem dX4_mostCoal_29 : decode cX4_mostCoal 29 = .ok (.iadd, 1) := by decide +kernel
theorem dX4_mostCoal_30 : decode cX4_mostCoal 30 = .ok (.aload_n 0, 1) := by decide +kernel
theorem dX4_mostCoal_31 : decode cX4_mostCoal 31 = .ok (.getfield 50, 3) := by decide +kernel
theorem dX4_mostCoal_34 : decode cX4_mostCoal 34 = .ok (.irem, 1) := by decide +kernel
theorem dX4_mostCoal_35 : decode cX4_mostCoal 35 = .ok (.iload_n 1, 1) := by decide +kernel
theorem dX4_mostCoal_36 : decode cX4_mostCoal 36 = .ok (.if_icmp .ne 17, 3) := by decide +kernel
theorem dX4_mostCoal_39 : decode cX4_mostCoal 39 = .ok (.bipush 99, 2) := by decide +kernel
theorem dX4_mostCoal_41 : decode cX4_mostCoal 41 = .ok (.iload_n 3, 1) := by decide +kernel
theorem dX4_mostCoal_42 : decode cX4_mostCoal 42 = .ok (.aload_n 0, 1) := by decide +kernel
theorem dX4_mostCoal_43 : decode cX4_mostCoal 43 = .ok (.getfield 35, 3) := by decide +kernel
theorem dX4_mostCoal_46 : decode cX4_mostCoal 46 = .ok (.iconst 1, 1) := by decide +kernel
theorem dX4_mostCoal_47 : decode cX4_mostCoal 47 = .ok (.iaload, 1) := by decide +kernel
theorem dX4_mostCoal_48 : decode cX4_mostCoal 48 = .ok (.iadd, 1) := by decide +kernel
theorem dX4_mostCoal_49 : decode cX4_mostCoal 49 = .ok (.invokestatic 100, 3) := by decide +kernel
theorem dX4_mostCoal_52 : decode cX4_mostCoal 52 = .ok (.istore_n 3, 1) := by decide +kernel
theorem dX4_mostCoal_53 : decode cX4_mostCoal 53 = .ok (.iconst 0, 1) := by decide +kernel
theorem dX4_mostCoal_54 : decode cX4_mostCoal 54 = .ok (.iload_n 3, 1) := by decide +kernel
theorem dX4_mostCoal_55 : decode cX4_mostCoal 55 = .ok (.aload_n 0, 1) := by decide +kernel
theorem dX4_mostCoal_56 : decode cX4_mostCoal 56 = .ok (.iload_n 1, 1) := by decide +kernel
theorem dX4_mostCoal_57 : decode cX4_mostCoal 57 = .ok (.invokevirtual 115, 3) := by decide +kernel
theorem dX4_mostCoal_60 : decode cX4_mostCoal 60 = .ok (.isub, 1) := by decide +kernel
theorem dX4_mostCoal_61 : decode cX4_mostCoal 61 = .ok (.invokestatic 118, 3) := by decide +kernel
theorem dX4_mostCoal_64 : decode cX4_mostCoal 64 = .ok (.istore_n 3, 1) := by decide +kernel
theorem dX4_mostCoal_65 : decode cX4_mostCoal 65 = .ok (.iinc 4 1, 3) := by decide +kernel
theorem dX4_mostCoal_68 : decode cX4_mostCoal 68 = .ok (.goto (-58), 3) := by decide +kernel
theorem dX4_mostCoal_71 : decode cX4_mostCoal 71 = .ok (.iload_n 3, 1) := by decide +kernel
theorem dX4_mostCoal_72 : decode cX4_mostCoal 72 = .ok (.ireturn, 1) := by decide +kernel
theorem dX4_misfits_0 : decode cX4_misfits 0 = .ok (.iconst 0, 1) := by decide +kernel
theorem dX4_misfits_1 : decode cX4_misfits 1 = .ok (.istore_n 1, 1) := by decide +kernel
theorem dX4_misfits_2 : decode cX4_misfits 2 = .ok (.iconst 0, 1) := by decide +kernel
theorem dX4_misfits_3 : decode cX4_misfits 3 = .ok (.istore_n 2, 1) := by decide +kernel
theorem dX4_misfits_4 : decode cX4_misfits 4 = .ok (.iload_n 2, 1) := by decide +kernel
theorem dX4_misfits_5 : decode cX4_misfits 5 = .ok (.aload_n 0, 1) := by decide +kernel
theorem dX4_misfits_6 : decode cX4_misfits 6 = .ok (.getfield 50, 3) := by decide +kernel
theorem dX4_misfits_9 : decode cX4_misfits 9 = .ok (.if_icmp .ge 40, 3) := by decide +kernel
theorem dX4_misfits_12 : decode cX4_misfits 12 = .ok (.aload_n 0, 1) := by decide +kernel
theorem dX4_misfits_13 : decode cX4_misfits 13 = .ok (.getfield 18, 3) := by decide +kernel
theorem dX4_misfits_16 : decode cX4_misfits 16 = .ok (.iload_n 2, 1) := by decide +kernel
theorem dX4_misfits_17 : decode cX4_misfits 17 = .ok (.iaload, 1) := by decide +kernel
theorem dX4_misfits_18 : decode cX4_misfits 18 = .ok (.aload_n 0, 1) := by decide +kernel
theorem dX4_misfits_19 : decode cX4_misfits 19 = .ok (.getfield 15, 3) := by decide +kernel
theorem dX4_misfits_22 : decode cX4_misfits 22 = .ok (.iload_n 2, 1) := by decide +kernel
theorem dX4_misfits_23 : decode cX4_misfits 23 = .ok (.iaload, 1) := by decide +kernel
theorem dX4_misfits_24 : decode cX4_misfits 24 = .ok (.if_icmp .eq 19, 3) := by decide +kernel
theorem dX4_misfits_27 : decode cX4_misfits 27 = .ok (.aload_n 0, 1) := by decide +kernel
theorem dX4_misfits_28 : decode cX4_misfits 28 = .ok (.getfield 9, 3) := by decide +kernel
theorem dX4_misfits_31 : decode cX4_misfits 31 = .ok (.iload_n 2, 1) := by decide +kernel
theorem dX4_misfits_32 : decode cX4_misfits 32 = .ok (.iaload, 1) := by decide +kernel
theorem dX4_misfits_33 : decode cX4_misfits 33 = .ok (.iconst 5, 1) := by decide +kernel
theorem dX4_misfits_34 : decode cX4_misfits 34 = .ok (.if_icmp .eq 9, 3) := by decide +kernel
theorem dX4_misfits_37 : decode cX4_misfits 37 = .ok (.iload_n 1, 1) := by decide +kernel
theorem dX4_misfits_38 : decode cX4_misfits 38 = .ok (.iconst 1, 1) := by decide +kernel
theorem dX4_misfits_39 : decode cX4_misfits 39 = .ok (.iload_n 2, 1) := by decide +kernel
theorem dX4_misfits_40 : decode cX4_misfits 40 = .ok (.ishl, 1) := by decide +kernel
theorem dX4_misfits_41 : decode cX4_misfits 41 = .ok (.ior, 1) := by decide +kernel
theorem dX4_misfits_42 : decode cX4_misfits 42 = .ok (.istore_n 1, 1) := by decide +kernel
theorem dX4_misfits_43 : decode cX4_misfits 43 = .ok (.iinc 2 1, 3) := by decide +kernel
theorem dX4_misfits_46 : decode cX4_misfits 46 = .ok (.goto (-42), 3) := by decide +kernel
theorem dX4_misfits_49 : decode cX4_misfits 49 = .ok (.iload_n 1, 1) := by decide +kernel
theorem dX4_misfits_50 : decode cX4_misfits 50 = .ok (.ireturn, 1) := by decide +kernel
theorem dX5_init_0 : decode cX5_init 0 = .ok (.aload_n 0, 1) := by decide +kernel
theorem dX5_init_1 : decode cX5_init 1 = .ok (.invokespecial 1, 3) := by decide +kernel
theorem dX5_init_4 : decode cX5_init 4 = .ok (.aload_n 0, 1) := by decide +kernel
theorem dX5_init_5 : decode cX5_init 5 = .ok (.iload_n 1, 1) := by decide +kernel
theorem dX5_init_6 : decode cX5_init 6 = .ok (.putfield 7, 3) := by decide +kernel
theorem dX5_init_9 : decode cX5_init 9 = .ok (.aload_n 0, 1) := by decide +kernel
theorem dX5_init_10 : decode cX5_init 10 = .ok (.iload_n 2, 1) := by decide +kernel
theorem dX5_init_11 : decode cX5_init 11 = .ok (.putfield 13, 3) := by decide +kernel
theorem dX5_init_14 : decode cX5_init 14 = .ok (.aload_n 0, 1) := by decide +kernel
theorem dX5_init_15 : decode cX5_init 15 = .ok (.aload_n 3, 1) := by decide +kernel
theorem dX5_init_16 : decode cX5_init 16 = .ok (.putfield 16, 3) := by decide +kernel
theorem dX5_init_19 : decode cX5_init 19 = .ok (.return_, 1) := by decide +kernel
theorem dX5_value_0 : decode cX5_value 0 = .ok (.iconst 0, 1) := by decide +kernel
theorem dX5_value_1 : decode cX5_value 1 = .ok (.istore_n 3, 1) := by decide +kernel
theorem dX5_value_2 : decode cX5_value 2 = .ok (.iconst 0, 1) := by decide +kernel
theorem dX5_value_3 : decode cX5_value 3 = .ok (.istore 4, 2) := by decide +kernel
theorem dX5_value_5 : decode cX5_value 5 = .ok (.iload 4, 2) := by decide +kernel
theorem dX5_value_7 : decode cX5_value 7 = .ok (.aload_n 0, 1) := by decide +kernel
theorem dX5_value_8 : decode cX5_value 8 = .ok (.getfield 16, 3) := by decide +kernel
theorem dX5_value_11 : decode cX5_value 11 = .ok (.arraylength, 1) := by decide +kernel
theorem dX5_value_12 : decode cX5_value 12 = .ok (.if_icmp .ge 127, 3) := by decide +kernel
theorem dX5_value_15 : decode cX5_value 15 = .ok (.aload_n 0, 1) := by decide +kernel
theorem dX5_value_16 : decode cX5_value 16 = .ok (.getfield 16, 3) := by decide +kernel
theorem dX5_value_19 : decode cX5_value 19 = .ok (.iload 4, 2) := by decide +kernel
theorem dX5_value_21 : decode cX5_value 21 = .ok (.iaload, 1) := by decide +kernel
theorem dX5_value_22 : decode cX5_value 22 = .ok (.istore 5, 2) := by decide +kernel
theorem dX5_value_24 : decode cX5_value 24 = .ok (.iload 5, 2) := by decide +kernel
theorem dX5_value_26 : decode cX5_value 26 = .ok (.sipush 20000, 3) := by decide +kernel
theorem dX5_value_29 : decode cX5_value 29 = .ok (.if_icmp .ge 41, 3) := by decide +kernel
theorem dX5_value_32 : decode cX5_value 32 = .ok (.iload_n 3, 1) := by decide +kernel
theorem dX5_value_33 : decode cX5_value 33 = .ok (.aload_n 2, 1) := by decide +kernel
theorem dX5_value_34 : decode cX5_value 34 = .ok (.arraylength, 1) := by decide +kernel
theorem dX5_value_35 : decode cX5_value 35 = .ok (.if_icmp .ge 98, 3) := by decide +kernel
theorem dX5_value_38 : decode cX5_value 38 = .ok (.aload_n 2, 1) := by decide +kernel
theorem dX5_value_39 : decode cX5_value 39 = .ok (.iload_n 3, 1) := by decide +kernel
theorem dX5_value_40 : decode cX5_value 40 = .ok (.iload 5, 2) := by decide +kernel
theorem dX5_value_42 : decode cX5_value 42 = .ok (.sipush 10000, 3) := by decide +kernel
theorem dX5_value_45 : decode cX5_value 45 = .ok (.if_icmp .ge 8, 3) := by decide +kernel
theorem dX5_value_48 : decode cX5_value 48 = .ok (.iload 5, 2) := by decide +kernel
theorem dX5_value_50 : decode cX5_value 50 = .ok (.goto 13, 3) := by decide +kernel
theorem dX5_value_53 : decode cX5_value 53 = .ok (.aload_n 1, 1) := by decide +kernel
theorem dX5_value_54 : decode cX5_value 54 = .ok (.iload 5, 2) := by decide +kernel
theorem dX5_value_56 : decode cX5_value 56 = .ok (.sipush 10000, 3) := by decide +kernel
theorem dX5_value_59 : decode cX5_value 59 = .ok (.isub, 1) := by decide +kernel
theorem dX5_value_60 : decode cX5_value 60 = .ok (.invokestatic 20, 3) := by decide +kernel
theorem dX5_value_63 : decode cX5_value 63 = .ok (.iastore, 1) := by decide +kernel
theorem dX5_value_64 : decode cX5_value 64 = .ok (.iinc 3 1, 3) := by decide +kernel
theorem dX5_value_67 : decode cX5_value 67 = .ok (.goto 66, 3) := by decide +kernel
theorem dX5_value_70 : decode cX5_value 70 = .ok (.iload 5, 2) := by decide +kernel
theorem dX5_value_72 : decode cX5_value 72 = .ok (.sipush 20033, 3) := by decide +kernel
theorem dX5_value_75 : decode cX5_value 75 = .ok (.if_icmp .ne 28, 3) := by decide +kernel
theorem dX5_value_78 : decode cX5_value 78 = .ok (.iload_n 3, 1) := by decide +kernel
theorem dX5_value_79 : decode cX5_value 79 = .ok (.ifCond .le 54, 3) := by decide +kernel
theorem dX5_value_82 : decode cX5_value 82 = .ok (.aload_n 2, 1) := by decide +kernel
theorem dX5_value_83 : decode cX5_value 83 = .ok (.iload_n 3, 1) := by decide +kernel
theorem dX5_value_84 : decode cX5_value 84 = .ok (.iconst 1, 1) := by decide +kernel
theorem dX5_value_85 : decode cX5_value 85 = .ok (.isub, 1) := by decide +kernel
theorem dX5_value_86 : decode cX5_value 86 = .ok (.aload_n 2, 1) := by decide +kernel
theorem dX5_value_87 : decode cX5_value 87 = .ok (.iload_n 3, 1) := by decide +kernel
theorem dX5_value_88 : decode cX5_value 88 = .ok (.iconst 1, 1) := by decide +kernel
theorem dX5_value_89 : decode cX5_value 89 = .ok (.isub, 1) := by decide +kernel
theorem dX5_value_90 : decode cX5_value 90 = .ok (.iaload, 1) := by decide +kernel
theorem dX5_value_91 : decode cX5_value 91 = .ok (.ifCond .ne 7, 3) := by decide +kernel
theorem dX5_value_94 : decode cX5_value 94 = .ok (.iconst 1, 1) := by decide +kernel
theorem dX5_value_95 : decode cX5_value 95 = .ok (.goto 4, 3) := by decide +kernel
theorem dX5_value_98 : decode cX5_value 98 = .ok (.iconst 0, 1) := by decide +kernel
theorem dX5_value_99 : decode cX5_value 99 = .ok (.iastore, 1) := by decide +kernel
theorem dX5_value_100 : decode cX5_value 100 = .ok (.goto 33, 3) := by decide +kernel
theorem dX5_value_103 : decode cX5_value 103 = .ok (.iload_n 3, 1) := by decide +kernel
theorem dX5_value_104 : decode cX5_value 104 = .ok (.iconst 1, 1) := by decide +kernel
theorem dX5_value_105 : decode cX5_value 105 = .ok (.if_icmp .le 28, 3) := by decide +kernel
theorem dX5_value_108 : decode cX5_value 108 = .ok (.iinc 3 (-1), 3) := by decide +kernel
theorem dX5_value_111 : decode cX5_value 111 = .ok (.aload_n 2, 1) := by decide +kernel
theorem dX5_value_112 : decode cX5_value 112 = .ok (.iload_n 3, 1) := by decide +kernel
theorem dX5_value_113 : decode cX5_value 113 = .ok (.iconst 1, 1) := by decide +kernel
theorem dX5_value_114 : decode cX5_value 114 = .ok (.isub, 1) := by decide +kernel
theorem dX5_value_115 : decode cX5_value 115 = .ok (.iload 5, 2) := by decide +kernel
theorem dX5_value_117 : decode cX5_value 117 = .ok (.sipush 20000, 3) := by decide +kernel
theorem dX5_value_120 : decode cX5_value 120 = .ok (.isub, 1) := by decide +kernel
theorem dX5_value_121 : decode cX5_value 121 = .ok (.aload_n 2, 1) := by decide +kernel
theorem dX5_value_122 : decode cX5_value 122 = .ok (.iload_n 3, 1) := by decide +kernel
theorem dX5_value_123 : decode cX5_value 123 = .ok (.iconst 1, 1) := by decide +kernel
theorem dX5_value_124 : decode cX5_value 124 = .ok (.isub, 1) := by decide +kernel
theorem dX5_value_125 : decode cX5_value 125 = .ok (.iaload, 1) := by decide +kernel
theorem dX5_value_126 : decode cX5_value 126 = .ok (.aload_n 2, 1) := by decide +kernel
theorem dX5_value_127 : decode cX5_value 127 = .ok (.iload_n 3, 1) := by decide +kernel
theorem dX5_value_128 : decode cX5_value 128 = .ok (.iaload, 1) := by decide +kernel
theorem dX5_value_129 : decode cX5_value 129 = .ok (.invokestatic 24, 3) := by decide +kernel
theorem dX5_value_132 : decode cX5_value 132 = .ok (.iastore, 1) := by decide +kernel
theorem dX5_value_133 : decode cX5_value 133 = .ok (.iinc 4 1, 3) := by decide +kernel
theorem dX5_value_136 : decode cX5_value 136 = .ok (.goto (-131), 3) := by decide +kernel
theorem dX5_value_139 : decode cX5_value 139 = .ok (.iload_n 3, 1) := by decide +kernel
theorem dX5_value_140 : decode cX5_value 140 = .ok (.ifCond .le 11, 3) := by decide +kernel
theorem dX5_value_143 : decode cX5_value 143 = .ok (.aload_n 2, 1) := by decide +kernel
theorem dX5_value_144 : decode cX5_value 144 = .ok (.iload_n 3, 1) := by decide +kernel
theorem dX5_value_145 : decode cX5_value 145 = .ok (.iconst 1, 1) := by decide +kernel
theorem dX5_value_146 : decode cX5_value 146 = .ok (.isub, 1) := by decide +kernel
theorem dX5_value_147 : decode cX5_value 147 = .ok (.iaload, 1) := by decide +kernel
theorem dX5_value_148 : decode cX5_value 148 = .ok (.goto 4, 3) := by decide +kernel
theorem dX5_value_151 : decode cX5_value 151 = .ok (.iconst 0, 1) := by decide +kernel
theorem dX5_value_152 : decode cX5_value 152 = .ok (.ireturn, 1) := by decide +kernel
theorem dX5_named_0 : decode cX5_named 0 = .ok (.iload_n 1, 1) := by decide +kernel
theorem dX5_named_1 : decode cX5_named 1 = .ok (.ifCond .lt 15, 3) := by decide +kernel
theorem dX5_named_4 : decode cX5_named 4 = .ok (.iload_n 1, 1) := by decide +kernel
theorem dX5_named_5 : decode cX5_named 5 = .ok (.aload_n 0, 1) := by decide +kernel
theorem dX5_named_6 : decode cX5_named 6 = .ok (.arraylength, 1) := by decide +kernel
theorem dX5_named_7 : decode cX5_named 7 = .ok (.if_icmp .ge 9, 3) := by decide +kernel
theorem dX5_named_10 : decode cX5_named 10 = .ok (.aload_n 0, 1) := by decide +kernel
theorem dX5_named_11 : decode cX5_named 11 = .ok (.iload_n 1, 1) := by decide +kernel
theorem dX5_named_12 : decode cX5_named 12 = .ok (.iaload, 1) := by decide +kernel
theorem dX5_named_13 : decode cX5_named 13 = .ok (.goto 4, 3) := by decide +kernel
theorem dX5_named_16 : decode cX5_named 16 = .ok (.iconst 0, 1) := by decide +kernel
theorem dX5_named_17 : decode cX5_named 17 = .ok (.ireturn, 1) := by decide +kernel
theorem dX5_joined_0 : decode cX5_joined 0 = .ok (.iload_n 0, 1) := by decide +kernel
theorem dX5_joined_1 : decode cX5_joined 1 = .ok (.lookupswitch 168 #[(38, 97), (42, 152), (43, 144), (45, 148), (47, 156), (60, 111), (61, 122), (62, 133), (124, 83)], 83) := by decide +kernel
theorem dX5_joined_84 : decode cX5_joined 84 = .ok (.iload_n 1, 1) := by decide +kernel
theorem dX5_joined_85 : decode cX5_joined 85 = .ok (.ifCond .ne 7, 3) := by decide +kernel
theorem dX5_joined_88 : decode cX5_joined 88 = .ok (.iload_n 2, 1) := by decide +kernel
theorem dX5_joined_89 : decode cX5_joined 89 = .ok (.ifCond .eq 7, 3) := by decide +kernel
theorem dX5_joined_92 : decode cX5_joined 92 = .ok (.iconst 1, 1) := by decide +kernel
theorem dX5_joined_93 : decode cX5_joined 93 = .ok (.goto 4, 3) := by decide +kernel
theorem dX5_joined_96 : decode cX5_joined 96 = .ok (.iconst 0, 1) := by decide +kernel
theorem dX5_joined_97 : decode cX5_joined 97 = .ok (.ireturn, 1) := by decide +kernel
theorem dX5_joined_98 : decode cX5_joined 98 = .ok (.iload_n 1, 1) := by decide +kernel
theorem dX5_joined_99 : decode cX5_joined 99 = .ok (.ifCond .eq 11, 3) := by decide +kernel
theorem dX5_joined_102 : decode cX5_joined 102 = .ok (.iload_n 2, 1) := by decide +kernel
theorem dX5_joined_103 : decode cX5_joined 103 = .ok (.ifCond .eq 7, 3) := by decide +kernel
theorem dX5_joined_106 : decode cX5_joined 106 = .ok (.iconst 1, 1) := by decide +kernel
theorem dX5_joined_107 : decode cX5_joined 107 = .ok (.goto 4, 3) := by decide +kernel
theorem dX5_joined_110 : decode cX5_joined 110 = .ok (.iconst 0, 1) := by decide +kernel
theorem dX5_joined_111 : decode cX5_joined 111 = .ok (.ireturn, 1) := by decide +kernel
theorem dX5_joined_112 : decode cX5_joined 112 = .ok (.iload_n 1, 1) := by decide +kernel
theorem dX5_joined_113 : decode cX5_joined 113 = .ok (.iload_n 2, 1) := by decide +kernel
theorem dX5_joined_114 : decode cX5_joined 114 = .ok (.if_icmp .ge 7, 3) := by decide +kernel
theorem dX5_joined_117 : decode cX5_joined 117 = .ok (.iconst 1, 1) := by decide +kernel
theorem dX5_joined_118 : decode cX5_joined 118 = .ok (.goto 4, 3) := by decide +kernel
theorem dX5_joined_121 : decode cX5_joined 121 = .ok (.iconst 0, 1) := by decide +kernel
theorem dX5_joined_122 : decode cX5_joined 122 = .ok (.ireturn, 1) := by decide +kernel
theorem dX5_joined_123 : decode cX5_joined 123 = .ok (.iload_n 1, 1) := by decide +kernel
theorem dX5_joined_124 : decode cX5_joined 124 = .ok (.iload_n 2, 1) := by decide +kernel
theorem dX5_joined_125 : decode cX5_joined 125 = .ok (.if_icmp .ne 7, 3) := by decide +kernel
theorem dX5_joined_128 : decode cX5_joined 128 = .ok (.iconst 1, 1) := by decide +kernel
theorem dX5_joined_129 : decode cX5_joined 129 = .ok (.goto 4, 3) := by decide +kernel
theorem dX5_joined_132 : decode cX5_joined 132 = .ok (.iconst 0, 1) := by decide +kernel
theorem dX5_joined_133 : decode cX5_joined 133 = .ok (.ireturn, 1) := by decide +kernel
theorem dX5_joined_134 : decode cX5_joined 134 = .ok (.iload_n 1, 1) := by decide +kernel
theorem dX5_joined_135 : decode cX5_joined 135 = .ok (.iload_n 2, 1) := by decide +kernel
theorem dX5_joined_136 : decode cX5_joined 136 = .ok (.if_icmp .le 7, 3) := by decide +kernel
theorem dX5_joined_139 : decode cX5_joined 139 = .ok (.iconst 1, 1) := by decide +kernel
theorem dX5_joined_140 : decode cX5_joined 140 = .ok (.goto 4, 3) := by decide +kernel
theorem dX5_joined_143 : decode cX5_joined 143 = .ok (.iconst 0, 1) := by decide +kernel
theorem dX5_joined_144 : decode cX5_joined 144 = .ok (.ireturn, 1) := by decide +kernel
theorem dX5_joined_145 : decode cX5_joined 145 = .ok (.iload_n 1, 1) := by decide +kernel
theorem dX5_joined_146 : decode cX5_joined 146 = .ok (.iload_n 2, 1) := by decide +kernel
theorem dX5_joined_147 : decode cX5_joined 147 = .ok (.iadd, 1) := by decide +kernel
theorem dX5_joined_148 : decode cX5_joined 148 = .ok (.ireturn, 1) := by decide +kernel
theorem dX5_joined_149 : decode cX5_joined 149 = .ok (.iload_n 1, 1) := by decide +kernel
theorem dX5_joined_150 : decode cX5_joined 150 = .ok (.iload_n 2, 1) := by decide +kernel
theorem dX5_joined_151 : decode cX5_joined 151 = .ok (.isub, 1) := by decide +kernel
theorem dX5_joined_152 : decode cX5_joined 152 = .ok (.ireturn, 1) := by decide +kernel
theorem dX5_joined_153 : decode cX5_joined 153 = .ok (.iload_n 1, 1) := by decide +kernel
theorem dX5_joined_154 : decode cX5_joined 154 = .ok (.iload_n 2, 1) := by decide +kernel
theorem dX5_joined_155 : decode cX5_joined 155 = .ok (.imul, 1) := by decide +kernel
theorem dX5_joined_156 : decode cX5_joined 156 = .ok (.ireturn, 1) := by decide +kernel
theorem dX5_joined_157 : decode cX5_joined 157 = .ok (.iload_n 2, 1) := by decide +kernel
theorem dX5_joined_158 : decode cX5_joined 158 = .ok (.ifCond .ne 7, 3) := by decide +kernel
theorem dX5_joined_161 : decode cX5_joined 161 = .ok (.iconst 0, 1) := by decide +kernel
theorem dX5_joined_162 : decode cX5_joined 162 = .ok (.goto 6, 3) := by decide +kernel
theorem dX5_joined_165 : decode cX5_joined 165 = .ok (.iload_n 1, 1) := by decide +kernel
theorem dX5_joined_166 : decode cX5_joined 166 = .ok (.iload_n 2, 1) := by decide +kernel
theorem dX5_joined_167 : decode cX5_joined 167 = .ok (.idiv, 1) := by decide +kernel
theorem dX5_joined_168 : decode cX5_joined 168 = .ok (.ireturn, 1) := by decide +kernel
theorem dX5_joined_169 : decode cX5_joined 169 = .ok (.iconst 0, 1) := by decide +kernel
theorem dX5_joined_170 : decode cX5_joined 170 = .ok (.ireturn, 1) := by decide +kernel
theorem dX6_init_0 : decode cX6_init 0 = .ok (.aload_n 0, 1) := by decide +kernel
theorem dX6_init_1 : decode cX6_init 1 = .ok (.invokespecial 1, 3) := by decide +kernel
theorem dX6_init_4 : decode cX6_init 4 = .ok (.aload_n 0, 1) := by decide +kernel
theorem dX6_init_5 : decode cX6_init 5 = .ok (.new 7, 3) := by decide +kernel
theorem dX6_init_8 : decode cX6_init 8 = .ok (.dup, 1) := by decide +kernel
theorem dX6_init_9 : decode cX6_init 9 = .ok (.invokespecial 9, 3) := by decide +kernel
theorem dX6_init_12 : decode cX6_init 12 = .ok (.putfield 10, 3) := by decide +kernel
theorem dX6_init_15 : decode cX6_init 15 = .ok (.aload_n 0, 1) := by decide +kernel
theorem dX6_init_16 : decode cX6_init 16 = .ok (.new 16, 3) := by decide +kernel
theorem dX6_init_19 : decode cX6_init 19 = .ok (.dup, 1) := by decide +kernel
theorem dX6_init_20 : decode cX6_init 20 = .ok (.aload_n 0, 1) := by decide +kernel
theorem dX6_init_21 : decode cX6_init 21 = .ok (.getfield 10, 3) := by decide +kernel
theorem dX6_init_24 : decode cX6_init 24 = .ok (.invokespecial 18, 3) := by decide +kernel
theorem dX6_init_27 : decode cX6_init 27 = .ok (.putfield 21, 3) := by decide +kernel
theorem dX6_init_30 : decode cX6_init 30 = .ok (.aload_n 0, 1) := by decide +kernel
theorem dX6_init_31 : decode cX6_init 31 = .ok (.new 16, 3) := by decide +kernel
theorem dX6_init_34 : decode cX6_init 34 = .ok (.dup, 1) := by decide +kernel
theorem dX6_init_35 : decode cX6_init 35 = .ok (.aload_n 0, 1) := by decide +kernel
theorem dX6_init_36 : decode cX6_init 36 = .ok (.getfield 10, 3) := by decide +kernel
theorem dX6_init_39 : decode cX6_init 39 = .ok (.invokespecial 18, 3) := by decide +kernel
theorem dX6_init_42 : decode cX6_init 42 = .ok (.putfield 25, 3) := by decide +kernel
theorem dX6_init_45 : decode cX6_init 45 = .ok (.aload_n 0, 1) := by decide +kernel
theorem dX6_init_46 : decode cX6_init 46 = .ok (.new 16, 3) := by decide +kernel
theorem dX6_init_49 : decode cX6_init 49 = .ok (.dup, 1) := by decide +kernel
theorem dX6_init_50 : decode cX6_init 50 = .ok (.aload_n 0, 1) := by decide +kernel
theorem dX6_init_51 : decode cX6_init 51 = .ok (.getfield 10, 3) := by decide +kernel
theorem dX6_init_54 : decode cX6_init 54 = .ok (.invokespecial 18, 3) := by decide +kernel
theorem dX6_init_57 : decode cX6_init 57 = .ok (.putfield 28, 3) := by decide +kernel
theorem dX6_init_60 : decode cX6_init 60 = .ok (.aload_n 0, 1) := by decide +kernel
theorem dX6_init_61 : decode cX6_init 61 = .ok (.new 31, 3) := by decide +kernel
theorem dX6_init_64 : decode cX6_init 64 = .ok (.dup, 1) := by decide +kernel
theorem dX6_init_65 : decode cX6_init 65 = .ok (.invokespecial 33, 3) := by decide +kernel
theorem dX6_init_68 : decode cX6_init 68 = .ok (.putfield 34, 3) := by decide +kernel
theorem dX6_init_71 : decode cX6_init 71 = .ok (.aload_n 0, 1) := by decide +kernel
theorem dX6_init_72 : decode cX6_init 72 = .ok (.bipush 96, 2) := by decide +kernel
theorem dX6_init_74 : decode cX6_init 74 = .ok (.newarray .int, 2) := by decide +kernel
theorem dX6_init_76 : decode cX6_init 76 = .ok (.putfield 38, 3) := by decide +kernel
theorem dX6_init_79 : decode cX6_init 79 = .ok (.aload_n 0, 1) := by decide +kernel
theorem dX6_init_80 : decode cX6_init 80 = .ok (.iconst 4, 1) := by decide +kernel
theorem dX6_init_81 : decode cX6_init 81 = .ok (.anewarray 42, 3) := by decide +kernel
theorem dX6_init_84 : decode cX6_init 84 = .ok (.putfield 44, 3) := by decide +kernel
theorem dX6_init_87 : decode cX6_init 87 = .ok (.aload_n 0, 1) := by decide +kernel
theorem dX6_init_88 : decode cX6_init 88 = .ok (.iconst 5, 1) := by decide +kernel
theorem dX6_init_89 : decode cX6_init 89 = .ok (.anewarray 48, 3) := by decide +kernel
theorem dX6_init_92 : decode cX6_init 92 = .ok (.putfield 50, 3) := by decide +kernel
theorem dX6_init_95 : decode cX6_init 95 = .ok (.aload_n 0, 1) := by decide +kernel
theorem dX6_init_96 : decode cX6_init 96 = .ok (.bipush 60, 2) := by decide +kernel
theorem dX6_init_98 : decode cX6_init 98 = .ok (.newarray .int, 2) := by decide +kernel
theorem dX6_init_100 : decode cX6_init 100 = .ok (.putfield 54, 3) := by decide +kernel
theorem dX6_init_103 : decode cX6_init 103 = .ok (.aload_n 0, 1) := by decide +kernel
theorem dX6_init_104 : decode cX6_init 104 = .ok (.bipush 10, 2) := by decide +kernel
theorem dX6_init_106 : decode cX6_init 106 = .ok (.newarray .int, 2) := by decide +kernel
theorem dX6_init_108 : decode cX6_init 108 = .ok (.putfield 57, 3) := by decide +kernel
theorem dX6_init_111 : decode cX6_init 111 = .ok (.iconst 0, 1) := by decide +kernel
theorem dX6_init_112 : decode cX6_init 112 = .ok (.istore_n 1, 1) := by decide +kernel
theorem dX6_init_113 : decode cX6_init 113 = .ok (.iload_n 1, 1) := by decide +kernel
theorem dX6_init_114 : decode cX6_init 114 = .ok (.iconst 4, 1) := by decide +kernel
theorem dX6_init_115 : decode cX6_init 115 = .ok (.if_icmp .ge 22, 3) := by decide +kernel
theorem dX6_init_118 : decode cX6_init 118 = .ok (.aload_n 0, 1) := by decide +kernel
theorem dX6_init_119 : decode cX6_init 119 = .ok (.getfield 44, 3) := by decide +kernel
theorem dX6_init_122 : decode cX6_init 122 = .ok (.iload_n 1, 1) := by decide +kernel
theorem dX6_init_123 : decode cX6_init 123 = .ok (.new 42, 3) := by decide +kernel
theorem dX6_init_126 : decode cX6_init 126 = .ok (.dup, 1) := by decide +kernel
theorem dX6_init_127 : decode cX6_init 127 = .ok (.invokespecial 60, 3) := by decide +kernel
theorem dX6_init_130 : decode cX6_init 130 = .ok (.aastore, 1) := by decide +kernel
theorem dX6_init_131 : decode cX6_init 131 = .ok (.iinc 1 1, 3) := by decide +kernel
theorem dX6_init_134 : decode cX6_init 134 = .ok (.goto (-21), 3) := by decide +kernel
theorem dX6_init_137 : decode cX6_init 137 = .ok (.iconst 0, 1) := by decide +kernel
theorem dX6_init_138 : decode cX6_init 138 = .ok (.istore_n 1, 1) := by decide +kernel
theorem dX6_init_139 : decode cX6_init 139 = .ok (.iload_n 1, 1) := by decide +kernel
theorem dX6_init_140 : decode cX6_init 140 = .ok (.iconst 5, 1) := by decide +kernel
theorem dX6_init_141 : decode cX6_init 141 = .ok (.if_icmp .ge 22, 3) := by decide +kernel
theorem dX6_init_144 : decode cX6_init 144 = .ok (.aload_n 0, 1) := by decide +kernel
theorem dX6_init_145 : decode cX6_init 145 = .ok (.getfield 50, 3) := by decide +kernel
theorem dX6_init_148 : decode cX6_init 148 = .ok (.iload_n 1, 1) := by decide +kernel
theorem dX6_init_149 : decode cX6_init 149 = .ok (.new 48, 3) := by decide +kernel
theorem dX6_init_152 : decode cX6_init 152 = .ok (.dup, 1) := by decide +kernel
theorem dX6_init_153 : decode cX6_init 153 = .ok (.invokespecial 61, 3) := by decide +kernel
theorem dX6_init_156 : decode cX6_init 156 = .ok (.aastore, 1) := by decide +kernel
theorem dX6_init_157 : decode cX6_init 157 = .ok (.iinc 1 1, 3) := by decide +kernel
theorem dX6_init_160 : decode cX6_init 160 = .ok (.goto (-21), 3) := by decide +kernel
theorem dX6_init_163 : decode cX6_init 163 = .ok (.return_, 1) := by decide +kernel
theorem dX6_house_0 : decode cX6_house 0 = .ok (.iload_n 1, 1) := by decide +kernel
theorem dX6_house_1 : decode cX6_house 1 = .ok (.invokestatic 62, 3) := by decide +kernel
theorem dX6_house_4 : decode cX6_house 4 = .ok (.ifCond .eq 31, 3) := by decide +kernel
theorem dX6_house_7 : decode cX6_house 7 = .ok (.iload_n 2, 1) := by decide +kernel
theorem dX6_house_8 : decode cX6_house 8 = .ok (.bipush 99, 2) := by decide +kernel
theorem dX6_house_10 : decode cX6_house 10 = .ok (.invokestatic 66, 3) := by decide +kernel
theorem dX6_house_13 : decode cX6_house 13 = .ok (.ifCond .eq 22, 3) := by decide +kernel
theorem dX6_house_16 : decode cX6_house 16 = .ok (.iload_n 3, 1) := by decide +kernel
theorem dX6_house_17 : decode cX6_house 17 = .ok (.bipush 99, 2) := by decide +kernel
theorem dX6_house_19 : decode cX6_house 19 = .ok (.invokestatic 66, 3) := by decide +kernel
theorem dX6_house_22 : decode cX6_house 22 = .ok (.ifCond .eq 13, 3) := by decide +kernel
theorem dX6_house_25 : decode cX6_house 25 = .ok (.iload 4, 2) := by decide +kernel
theorem dX6_house_27 : decode cX6_house 27 = .ok (.bipush 99, 2) := by decide +kernel
theorem dX6_house_29 : decode cX6_house 29 = .ok (.invokestatic 66, 3) := by decide +kernel
theorem dX6_house_32 : decode cX6_house 32 = .ok (.ifCond .ne 6, 3) := by decide +kernel
theorem dX6_house_35 : decode cX6_house 35 = .ok (.ldc 70, 2) := by decide +kernel
theorem dX6_house_37 : decode cX6_house 37 = .ok (.ireturn, 1) := by decide +kernel
theorem dX6_house_38 : decode cX6_house 38 = .ok (.aload_n 0, 1) := by decide +kernel
theorem dX6_house_39 : decode cX6_house 39 = .ok (.getfield 21, 3) := by decide +kernel
theorem dX6_house_42 : decode cX6_house 42 = .ok (.getfield 71, 3) := by decide +kernel
theorem dX6_house_45 : decode cX6_house 45 = .ok (.bipush 10, 2) := by decide +kernel
theorem dX6_house_47 : decode cX6_house 47 = .ok (.if_icmp .ge 18, 3) := by decide +kernel
theorem dX6_house_50 : decode cX6_house 50 = .ok (.aload_n 0, 1) := by decide +kernel
theorem dX6_house_51 : decode cX6_house 51 = .ok (.getfield 21, 3) := by decide +kernel
theorem dX6_house_54 : decode cX6_house 54 = .ok (.iload_n 1, 1) := by decide +kernel
theorem dX6_house_55 : decode cX6_house 55 = .ok (.iload_n 2, 1) := by decide +kernel
theorem dX6_house_56 : decode cX6_house 56 = .ok (.iload_n 3, 1) := by decide +kernel
theorem dX6_house_57 : decode cX6_house 57 = .ok (.iload 4, 2) := by decide +kernel
theorem dX6_house_59 : decode cX6_house 59 = .ok (.invokevirtual 75, 3) := by decide +kernel
theorem dX6_house_62 : decode cX6_house 62 = .ok (.goto 5, 3) := by decide +kernel
theorem dX6_house_65 : decode cX6_house 65 = .ok (.ldc 79, 2) := by decide +kernel
theorem dX6_house_67 : decode cX6_house 67 = .ok (.ireturn, 1) := by decide +kernel
theorem dX6_told_0 : decode cX6_told 0 = .ok (.aload_n 0, 1) := by decide +kernel
theorem dX6_told_1 : decode cX6_told 1 = .ok (.getfield 21, 3) := by decide +kernel
theorem dX6_told_4 : decode cX6_told 4 = .ok (.iload_n 1, 1) := by decide +kernel
theorem dX6_told_5 : decode cX6_told 5 = .ok (.invokevirtual 80, 3) := by decide +kernel
theorem dX6_told_8 : decode cX6_told 8 = .ok (.ifCond .ne 6, 3) := by decide +kernel
theorem dX6_told_11 : decode cX6_told 11 = .ok (.ldc 70, 2) := by decide +kernel
theorem dX6_told_13 : decode cX6_told 13 = .ok (.ireturn, 1) := by decide +kernel
theorem dX6_told_14 : decode cX6_told 14 = .ok (.iload_n 2, 1) := by decide +kernel
theorem dX6_told_15 : decode cX6_told 15 = .ok (.tableswitch 166 0 8 #[49, 59, 69, 79, 89, 99, 108, 117, 126], 49) := by decide +kernel
theorem dX6_told_64 : decode cX6_told 64 = .ok (.aload_n 0, 1) := by decide +kernel
theorem dX6_told_65 : decode cX6_told 65 = .ok (.getfield 21, 3) := by decide +kernel
theorem dX6_told_68 : decode cX6_told 68 = .ok (.getfield 83, 3) := by decide +kernel
theorem dX6_told_71 : decode cX6_told 71 = .ok (.iload_n 1, 1) := by decide +kernel
theorem dX6_told_72 : decode cX6_told 72 = .ok (.iaload, 1) := by decide +kernel
theorem dX6_told_73 : decode cX6_told 73 = .ok (.ireturn, 1) := by decide +kernel
theorem dX6_told_74 : decode cX6_told 74 = .ok (.aload_n 0, 1) := by decide +kernel
theorem dX6_told_75 : decode cX6_told 75 = .ok (.getfield 21, 3) := by decide +kernel
theorem dX6_told_78 : decode cX6_told 78 = .ok (.getfield 86, 3) := by decide +kernel
theorem dX6_told_81 : decode cX6_told 81 = .ok (.iload_n 1, 1) := by decide +kernel
theorem dX6_told_82 : decode cX6_told 82 = .ok (.iaload, 1) := by decide +kernel
theorem dX6_told_83 : decode cX6_told 83 = .ok (.ireturn, 1) := by decide +kernel
theorem dX6_told_84 : decode cX6_told 84 = .ok (.aload_n 0, 1) := by decide +kernel
theorem dX6_told_85 : decode cX6_told 85 = .ok (.getfield 21, 3) := by decide +kernel
theorem dX6_told_88 : decode cX6_told 88 = .ok (.getfield 89, 3) := by decide +kernel
theorem dX6_told_91 : decode cX6_told 91 = .ok (.iload_n 1, 1) := by decide +kernel
theorem dX6_told_92 : decode cX6_told 92 = .ok (.iaload, 1) := by decide +kernel
theorem dX6_told_93 : decode cX6_told 93 = .ok (.ireturn, 1) := by decide +kernel
theorem dX6_told_94 : decode cX6_told 94 = .ok (.aload_n 0, 1) := by decide +kernel
theorem dX6_told_95 : decode cX6_told 95 = .ok (.getfield 21, 3) := by decide +kernel
theorem dX6_told_98 : decode cX6_told 98 = .ok (.getfield 92, 3) := by decide +kernel
theorem dX6_told_101 : decode cX6_told 101 = .ok (.iload_n 1, 1) := by decide +kernel
theorem dX6_told_102 : decode cX6_told 102 = .ok (.iaload, 1) := by decide +kernel
theorem dX6_told_103 : decode cX6_told 103 = .ok (.ireturn, 1) := by decide +kernel
theorem dX6_told_104 : decode cX6_told 104 = .ok (.aload_n 0, 1) := by decide +kernel
theorem dX6_told_105 : decode cX6_told 105 = .ok (.getfield 21, 3) := by decide +kernel
theorem dX6_told_108 : decode cX6_told 108 = .ok (.getfield 95, 3) := by decide +kernel
theorem dX6_told_111 : decode cX6_told 111 = .ok (.iload_n 1, 1) := by decide +kernel
theorem dX6_told_112 : decode cX6_told 112 = .ok (.iaload, 1) := by decide +kernel
theorem dX6_told_113 : decode cX6_told 113 = .ok (.ireturn, 1) := by decide +kernel
theorem dX6_told_114 : decode cX6_told 114 = .ok (.aload_n 0, 1) := by decide +kernel
theorem dX6_told_115 : decode cX6_told 115 = .ok (.getfield 21, 3) := by decide +kernel
theorem dX6_told_118 : decode cX6_told 118 = .ok (.iload_n 1, 1) := by decide +kernel
theorem dX6_told_119 : decode cX6_told 119 = .ok (.invokevirtual 98, 3) := by decide +kernel
theorem dX6_told_122 : decode cX6_told 122 = .ok (.ireturn, 1) := by decide +kernel
theorem dX6_told_123 : decode cX6_told 123 = .ok (.aload_n 0, 1) := by decide +kernel
theorem dX6_told_124 : decode cX6_told 124 = .ok (.getfield 21, 3) := by decide +kernel
theorem dX6_told_127 : decode cX6_told 127 = .ok (.iload_n 1, 1) := by decide +kernel
theorem dX6_told_128 : decode cX6_told 128 = .ok (.invokevirtual 102, 3) := by decide +kernel
theorem dX6_told_131 : decode cX6_told 131 = .ok (.ireturn, 1) := by decide +kernel
theorem dX6_told_132 : decode cX6_told 132 = .ok (.aload_n 0, 1) := by decide +kernel
theorem dX6_told_133 : decode cX6_told 133 = .ok (.getfield 21, 3) := by decide +kernel
theorem dX6_told_136 : decode cX6_told 136 = .ok (.iload_n 1, 1) := by decide +kernel
theorem dX6_told_137 : decode cX6_told 137 = .ok (.invokevirtual 105, 3) := by decide +kernel
theorem dX6_told_140 : decode cX6_told 140 = .ok (.ireturn, 1) := by decide +kernel
theorem dX6_told_141 : decode cX6_told 141 = .ok (.aload_n 0, 1) := by decide +kernel
theorem dX6_told_142 : decode cX6_told 142 = .ok (.getfield 21, 3) := by decide +kernel
theorem dX6_told_145 : decode cX6_told 145 = .ok (.getfield 83, 3) := by decide +kernel
theorem dX6_told_148 : decode cX6_told 148 = .ok (.iload_n 1, 1) := by decide +kernel
theorem dX6_told_149 : decode cX6_told 149 = .ok (.iaload, 1) := by decide +kernel
theorem dX6_told_150 : decode cX6_told 150 = .ok (.aload_n 0, 1) := by decide +kernel
theorem dX6_told_151 : decode cX6_told 151 = .ok (.getfield 21, 3) := by decide +kernel
theorem dX6_told_154 : decode cX6_told 154 = .ok (.getfield 86, 3) := by decide +kernel
theorem dX6_told_157 : decode cX6_told 157 = .ok (.iload_n 1, 1) := by decide +kernel
theorem dX6_told_158 : decode cX6_told 158 = .ok (.iaload, 1) := by decide +kernel
theorem dX6_told_159 : decode cX6_told 159 = .ok (.aload_n 0, 1) := by decide +kernel
theorem dX6_told_160 : decode cX6_told 160 = .ok (.getfield 21, 3) := by decide +kernel
theorem dX6_told_163 : decode cX6_told 163 = .ok (.getfield 92, 3) := by decide +kernel
theorem dX6_told_166 : decode cX6_told 166 = .ok (.iload_n 1, 1) := by decide +kernel
theorem dX6_told_167 : decode cX6_told 167 = .ok (.iaload, 1) := by decide +kernel
theorem dX6_told_168 : decode cX6_told 168 = .ok (.aload_n 0, 1) := by decide +kernel
theorem dX6_told_169 : decode cX6_told 169 = .ok (.getfield 21, 3) := by decide +kernel
theorem dX6_told_172 : decode cX6_told 172 = .ok (.getfield 95, 3) := by decide +kernel
theorem dX6_told_175 : decode cX6_told 175 = .ok (.iload_n 1, 1) := by decide +kernel
theorem dX6_told_176 : decode cX6_told 176 = .ok (.iaload, 1) := by decide +kernel
theorem dX6_told_177 : decode cX6_told 177 = .ok (.invokestatic 108, 3) := by decide +kernel
theorem dX6_told_180 : decode cX6_told 180 = .ok (.ireturn, 1) := by decide +kernel
theorem dX6_told_181 : decode cX6_told 181 = .ok (.ldc 70, 2) := by decide +kernel
theorem dX6_told_183 : decode cX6_told 183 = .ok (.ireturn, 1) := by decide +kernel
theorem dX6_as_0 : decode cX6_as 0 = .ok (.aload_n 0, 1) := by decide +kernel
theorem dX6_as_1 : decode cX6_as 1 = .ok (.getfield 21, 3) := by decide +kernel
theorem dX6_as_4 : decode cX6_as 4 = .ok (.iload_n 1, 1) := by decide +kernel
theorem dX6_as_5 : decode cX6_as 5 = .ok (.invokevirtual 80, 3) := by decide +kernel
theorem dX6_as_8 : decode cX6_as 8 = .ok (.ifCond .eq 10, 3) := by decide +kernel
theorem dX6_as_11 : decode cX6_as 11 = .ok (.iload_n 2, 1) := by decide +kernel
theorem dX6_as_12 : decode cX6_as 12 = .ok (.invokestatic 62, 3) := by decide +kernel
theorem dX6_as_15 : decode cX6_as 15 = .ok (.ifCond .ne 6, 3) := by decide +kernel
theorem dX6_as_18 : decode cX6_as 18 = .ok (.ldc 70, 2) := by decide +kernel
theorem dX6_as_20 : decode cX6_as 20 = .ok (.ireturn, 1) := by decide +kernel
theorem dX6_as_21 : decode cX6_as 21 = .ok (.aload_n 0, 1) := by decide +kernel
theorem dX6_as_22 : decode cX6_as 22 = .ok (.getfield 21, 3) := by decide +kernel
theorem dX6_as_25 : decode cX6_as 25 = .ok (.getfield 83, 3) := by decide +kernel
theorem dX6_as_28 : decode cX6_as 28 = .ok (.iload_n 1, 1) := by decide +kernel
theorem dX6_as_29 : decode cX6_as 29 = .ok (.iaload, 1) := by decide +kernel
theorem dX6_as_30 : decode cX6_as 30 = .ok (.iload_n 2, 1) := by decide +kernel
theorem dX6_as_31 : decode cX6_as 31 = .ok (.invokestatic 111, 3) := by decide +kernel
theorem dX6_as_34 : decode cX6_as 34 = .ok (.ifCond .eq 15, 3) := by decide +kernel
theorem dX6_as_37 : decode cX6_as 37 = .ok (.aload_n 0, 1) := by decide +kernel
theorem dX6_as_38 : decode cX6_as 38 = .ok (.getfield 21, 3) := by decide +kernel
theorem dX6_as_41 : decode cX6_as 41 = .ok (.getfield 86, 3) := by decide +kernel
theorem dX6_as_44 : decode cX6_as 44 = .ok (.iload_n 1, 1) := by decide +kernel
theorem dX6_as_45 : decode cX6_as 45 = .ok (.iaload, 1) := by decide +kernel
theorem dX6_as_46 : decode cX6_as 46 = .ok (.goto 5, 3) := by decide +kernel
theorem dX6_as_49 : decode cX6_as 49 = .ok (.ldc 114, 2) := by decide +kernel
theorem dX6_as_51 : decode cX6_as 51 = .ok (.ireturn, 1) := by decide +kernel
theorem dX6_turns_0 : decode cX6_turns 0 = .ok (.aload_n 0, 1) := by decide +kernel
theorem dX6_turns_1 : decode cX6_turns 1 = .ok (.getfield 21, 3) := by decide +kernel
theorem dX6_turns_4 : decode cX6_turns 4 = .ok (.iload_n 1, 1) := by decide +kernel
theorem dX6_turns_5 : decode cX6_turns 5 = .ok (.invokevirtual 80, 3) := by decide +kernel
theorem dX6_turns_8 : decode cX6_turns 8 = .ok (.ifCond .eq 10, 3) := by decide +kernel
theorem dX6_turns_11 : decode cX6_turns 11 = .ok (.iload_n 2, 1) := by decide +kernel
theorem dX6_turns_12 : decode cX6_turns 12 = .ok (.invokestatic 62, 3) := by decide +kernel
theorem dX6_turns_15 : decode cX6_turns 15 = .ok (.ifCond .ne 6, 3) := by decide +kernel
theorem dX6_turns_18 : decode cX6_turns 18 = .ok (.ldc 70, 2) := by decide +kernel
theorem dX6_turns_20 : decode cX6_turns 20 = .ok (.ireturn, 1) := by decide +kernel
theorem dX6_turns_21 : decode cX6_turns 21 = .ok (.aload_n 0, 1) := by decide +kernel
theorem dX6_turns_22 : decode cX6_turns 22 = .ok (.getfield 21, 3) := by decide +kernel
theorem dX6_turns_25 : decode cX6_turns 25 = .ok (.getfield 83, 3) := by decide +kernel
theorem dX6_turns_28 : decode cX6_turns 28 = .ok (.iload_n 1, 1) := by decide +kernel
theorem dX6_turns_29 : decode cX6_turns 29 = .ok (.iaload, 1) := by decide +kernel
theorem dX6_turns_30 : decode cX6_turns 30 = .ok (.istore_n 3, 1) := by decide +kernel
theorem dX6_turns_31 : decode cX6_turns 31 = .ok (.aload_n 0, 1) := by decide +kernel
theorem dX6_turns_32 : decode cX6_turns 32 = .ok (.getfield 21, 3) := by decide +kernel
theorem dX6_turns_35 : decode cX6_turns 35 = .ok (.getfield 83, 3) := by decide +kernel
theorem dX6_turns_38 : decode cX6_turns 38 = .ok (.iload_n 1, 1) := by decide +kernel
theorem dX6_turns_39 : decode cX6_turns 39 = .ok (.iload_n 2, 1) := by decide +kernel
theorem dX6_turns_40 : decode cX6_turns 40 = .ok (.iastore, 1) := by decide +kernel
theorem dX6_turns_41 : decode cX6_turns 41 = .ok (.iload_n 3, 1) := by decide +kernel
theorem dX6_turns_42 : decode cX6_turns 42 = .ok (.ireturn, 1) := by decide +kernel
theorem dX6_set_0 : decode cX6_set 0 = .ok (.aload_n 0, 1) := by decide +kernel
theorem dX6_set_1 : decode cX6_set 1 = .ok (.getfield 21, 3) := by decide +kernel
theorem dX6_set_4 : decode cX6_set 4 = .ok (.iload_n 1, 1) := by decide +kernel
theorem dX6_set_5 : decode cX6_set 5 = .ok (.invokevirtual 80, 3) := by decide +kernel
theorem dX6_set_8 : decode cX6_set 8 = .ok (.ifCond .eq 23, 3) := by decide +kernel
theorem dX6_set_11 : decode cX6_set 11 = .ok (.iload_n 3, 1) := by decide +kernel
theorem dX6_set_12 : decode cX6_set 12 = .ok (.iload_n 2, 1) := by decide +kernel
theorem dX6_set_13 : decode cX6_set 13 = .ok (.iconst 4, 1) := by decide +kernel
theorem dX6_set_14 : decode cX6_set 14 = .ok (.if_icmp .ne 9, 3) := by decide +kernel
theorem dX6_set_17 : decode cX6_set 17 = .ok (.sipush 9999, 3) := by decide +kernel
theorem dX6_set_20 : decode cX6_set 20 = .ok (.goto 5, 3) := by decide +kernel
theorem dX6_set_23 : decode cX6_set 23 = .ok (.bipush 99, 2) := by decide +kernel
theorem dX6_set_25 : decode cX6_set 25 = .ok (.invokestatic 66, 3) := by decide +kernel
theorem dX6_set_28 : decode cX6_set 28 = .ok (.ifCond .ne 6, 3) := by decide +kernel
theorem dX6_set_31 : decode cX6_set 31 = .ok (.ldc 70, 2) := by decide +kernel
theorem dX6_set_33 : decode cX6_set 33 = .ok (.ireturn, 1) := by decide +kernel
theorem dX6_set_34 : decode cX6_set 34 = .ok (.iload_n 2, 1) := by decide +kernel
theorem dX6_set_35 : decode cX6_set 35 = .ok (.tableswitch 81 1 4 #[29, 42, 55, 68], 29) := by decide +kernel
theorem dX6_set_64 : decode cX6_set 64 = .ok (.aload_n 0, 1) := by decide +kernel
theorem dX6_set_65 : decode cX6_set 65 = .ok (.getfield 21, 3) := by decide +kernel
theorem dX6_set_68 : decode cX6_set 68 = .ok (.getfield 86, 3) := by decide +kernel
theorem dX6_set_71 : decode cX6_set 71 = .ok (.iload_n 1, 1) := by decide +kernel
theorem dX6_set_72 : decode cX6_set 72 = .ok (.iload_n 3, 1) := by decide +kernel
theorem dX6_set_73 : decode cX6_set 73 = .ok (.invokestatic 115, 3) := by decide +kernel
theorem dX6_set_76 : decode cX6_set 76 = .ok (.ireturn, 1) := by decide +kernel
theorem dX6_set_77 : decode cX6_set 77 = .ok (.aload_n 0, 1) := by decide +kernel
theorem dX6_set_78 : decode cX6_set 78 = .ok (.getfield 21, 3) := by decide +kernel
theorem dX6_set_81 : decode cX6_set 81 = .ok (.getfield 89, 3) := by decide +kernel
theorem dX6_set_84 : decode cX6_set 84 = .ok (.iload_n 1, 1) := by decide +kernel
theorem dX6_set_85 : decode cX6_set 85 = .ok (.iload_n 3, 1) := by decide +kernel
theorem dX6_set_86 : decode cX6_set 86 = .ok (.invokestatic 115, 3) := by decide +kernel
theorem dX6_set_89 : decode cX6_set 89 = .ok (.ireturn, 1) := by decide +kernel
theorem dX6_set_90 : decode cX6_set 90 = .ok (.aload_n 0, 1) := by decide +kernel
theorem dX6_set_91 : decode cX6_set 91 = .ok (.getfield 21, 3) := by decide +kernel
theorem dX6_set_94 : decode cX6_set 94 = .ok (.getfield 92, 3) := by decide +kernel
theorem dX6_set_97 : decode cX6_set 97 = .ok (.iload_n 1, 1) := by decide +kernel
theorem dX6_set_98 : decode cX6_set 98 = .ok (.iload_n 3, 1) := by decide +kernel
theorem dX6_set_99 : decode cX6_set 99 = .ok (.invokestatic 115, 3) := by decide +kernel
theorem dX6_set_102 : decode cX6_set 102 = .ok (.ireturn, 1) := by decide +kernel
theorem dX6_set_103 : decode cX6_set 103 = .ok (.aload_n 0, 1) := by decide +kernel
theorem dX6_set_104 : decode cX6_set 104 = .ok (.getfield 21, 3) := by decide +kernel
theorem dX6_set_107 : decode cX6_set 107 = .ok (.getfield 95, 3) := by decide +kernel
theorem dX6_set_110 : decode cX6_set 110 = .ok (.iload_n 1, 1) := by decide +kernel
theorem dX6_set_111 : decode cX6_set 111 = .ok (.iload_n 3, 1) := by decide +kernel
theorem dX6_set_112 : decode cX6_set 112 = .ok (.invokestatic 115, 3) := by decide +kernel
theorem dX6_set_115 : decode cX6_set 115 = .ok (.ireturn, 1) := by decide +kernel
theorem dX6_set_116 : decode cX6_set 116 = .ok (.ldc 70, 2) := by decide +kernel
theorem dX6_set_118 : decode cX6_set 118 = .ok (.ireturn, 1) := by decide +kernel
theorem dX6_rule_0 : decode cX6_rule 0 = .ok (.iload_n 1, 1) := by decide +kernel
theorem dX6_rule_1 : decode cX6_rule 1 = .ok (.ifCond .lt 23, 3) := by decide +kernel
theorem dX6_rule_4 : decode cX6_rule 4 = .ok (.iload_n 1, 1) := by decide +kernel
theorem dX6_rule_5 : decode cX6_rule 5 = .ok (.getstatic 119, 3) := by decide +kernel
theorem dX6_rule_8 : decode cX6_rule 8 = .ok (.arraylength, 1) := by decide +kernel
theorem dX6_rule_9 : decode cX6_rule 9 = .ok (.if_icmp .ge 15, 3) := by decide +kernel
theorem dX6_rule_12 : decode cX6_rule 12 = .ok (.iload_n 2, 1) := by decide +kernel
theorem dX6_rule_13 : decode cX6_rule 13 = .ok (.getstatic 119, 3) := by decide +kernel
theorem dX6_rule_16 : decode cX6_rule 16 = .ok (.iload_n 1, 1) := by decide +kernel
theorem dX6_rule_17 : decode cX6_rule 17 = .ok (.iaload, 1) := by decide +kernel
theorem dX6_rule_18 : decode cX6_rule 18 = .ok (.invokestatic 66, 3) := by decide +kernel
theorem dX6_rule_21 : decode cX6_rule 21 = .ok (.ifCond .ne 6, 3) := by decide +kernel
theorem dX6_rule_24 : decode cX6_rule 24 = .ok (.ldc 70, 2) := by decide +kernel
theorem dX6_rule_26 : decode cX6_rule 26 = .ok (.ireturn, 1) := by decide +kernel
theorem dX6_rule_27 : decode cX6_rule 27 = .ok (.aload_n 0, 1) := by decide +kernel
theorem dX6_rule_28 : decode cX6_rule 28 = .ok (.getfield 21, 3) := by decide +kernel
theorem dX6_rule_31 : decode cX6_rule 31 = .ok (.getfield 122, 3) := by decide +kernel
theorem dX6_rule_34 : decode cX6_rule 34 = .ok (.iload_n 1, 1) := by decide +kernel
theorem dX6_rule_35 : decode cX6_rule 35 = .ok (.iload_n 2, 1) := by decide +kernel
theorem dX6_rule_36 : decode cX6_rule 36 = .ok (.invokestatic 115, 3) := by decide +kernel
theorem dX6_rule_39 : decode cX6_rule 39 = .ok (.ireturn, 1) := by decide +kernel
theorem dX6_deal_0 : decode cX6_deal 0 = .ok (.iload_n 1, 1) := by decide +kernel
theorem dX6_deal_1 : decode cX6_deal 1 = .ok (.iconst 1, 1) := by decide +kernel
theorem dX6_deal_2 : decode cX6_deal 2 = .ok (.if_icmp .lt 9, 3) := by decide +kernel
theorem dX6_deal_5 : decode cX6_deal 5 = .ok (.iload_n 1, 1) := by decide +kernel
theorem dX6_deal_6 : decode cX6_deal 6 = .ok (.bipush 10, 2) := by decide +kernel
theorem dX6_deal_8 : decode cX6_deal 8 = .ok (.if_icmp .le 6, 3) := by decide +kernel
theorem dX6_deal_11 : decode cX6_deal 11 = .ok (.ldc 70, 2) := by decide +kernel
theorem dX6_deal_13 : decode cX6_deal 13 = .ok (.ireturn, 1) := by decide +kernel
theorem dX6_deal_14 : decode cX6_deal 14 = .ok (.iload_n 1, 1) := by decide +kernel
theorem dX6_deal_15 : decode cX6_deal 15 = .ok (.bipush 10, 2) := by decide +kernel
theorem dX6_deal_17 : decode cX6_deal 17 = .ok (.aload_n 0, 1) := by decide +kernel
theorem dX6_deal_18 : decode cX6_deal 18 = .ok (.getfield 21, 3) := by decide +kernel
theorem dX6_deal_21 : decode cX6_deal 21 = .ok (.getfield 71, 3) := by decide +kernel
theorem dX6_deal_24 : decode cX6_deal 24 = .ok (.isub, 1) := by decide +kernel
theorem dX6_deal_25 : decode cX6_deal 25 = .ok (.invokestatic 125, 3) := by decide +kernel
theorem dX6_deal_28 : decode cX6_deal 28 = .ok (.istore_n 2, 1) := by decide +kernel
theorem dX6_deal_29 : decode cX6_deal 29 = .ok (.iconst 0, 1) := by decide +kernel
theorem dX6_deal_30 : decode cX6_deal 30 = .ok (.istore_n 3, 1) := by decide +kernel
theorem dX6_deal_31 : decode cX6_deal 31 = .ok (.iload_n 3, 1) := by decide +kernel
theorem dX6_deal_32 : decode cX6_deal 32 = .ok (.iload_n 2, 1) := by decide +kernel
theorem dX6_deal_33 : decode cX6_deal 33 = .ok (.if_icmp .ge 16, 3) := by decide +kernel
theorem dX6_deal_36 : decode cX6_deal 36 = .ok (.aload_n 0, 1) := by decide +kernel
theorem dX6_deal_37 : decode cX6_deal 37 = .ok (.getfield 21, 3) := by decide +kernel
theorem dX6_deal_40 : decode cX6_deal 40 = .ok (.invokevirtual 131, 3) := by decide +kernel
theorem dX6_deal_43 : decode cX6_deal 43 = .ok (.iinc 3 1, 3) := by decide +kernel
theorem dX6_deal_46 : decode cX6_deal 46 = .ok (.goto (-15), 3) := by decide +kernel
theorem dX6_deal_49 : decode cX6_deal 49 = .ok (.iload_n 2, 1) := by decide +kernel
theorem dX6_deal_50 : decode cX6_deal 50 = .ok (.ireturn, 1) := by decide +kernel
theorem dX6_seed_0 : decode cX6_seed 0 = .ok (.aload_n 0, 1) := by decide +kernel
theorem dX6_seed_1 : decode cX6_seed 1 = .ok (.getfield 21, 3) := by decide +kernel
theorem dX6_seed_4 : decode cX6_seed 4 = .ok (.getfield 134, 3) := by decide +kernel
theorem dX6_seed_7 : decode cX6_seed 7 = .ok (.istore_n 2, 1) := by decide +kernel
theorem dX6_seed_8 : decode cX6_seed 8 = .ok (.aload_n 0, 1) := by decide +kernel
theorem dX6_seed_9 : decode cX6_seed 9 = .ok (.getfield 21, 3) := by decide +kernel
theorem dX6_seed_12 : decode cX6_seed 12 = .ok (.iload_n 1, 1) := by decide +kernel
theorem dX6_seed_13 : decode cX6_seed 13 = .ok (.putfield 134, 3) := by decide +kernel
theorem dX6_seed_16 : decode cX6_seed 16 = .ok (.iload_n 2, 1) := by decide +kernel
theorem dX6_seed_17 : decode cX6_seed 17 = .ok (.ireturn, 1) := by decide +kernel
theorem dX6_round_0 : decode cX6_round 0 = .ok (.aload_n 0, 1) := by decide +kernel
theorem dX6_round_1 : decode cX6_round 1 = .ok (.getfield 21, 3) := by decide +kernel
theorem dX6_round_4 : decode cX6_round 4 = .ok (.invokevirtual 137, 3) := by decide +kernel
theorem dX6_round_7 : decode cX6_round 7 = .ok (.aload_n 0, 1) := by decide +kernel
theorem dX6_round_8 : decode cX6_round 8 = .ok (.getfield 21, 3) := by decide +kernel
theorem dX6_round_11 : decode cX6_round 11 = .ok (.getfield 140, 3) := by decide +kernel
theorem dX6_round_14 : decode cX6_round 14 = .ok (.ireturn, 1) := by decide +kernel
theorem dX6_load_0 : decode cX6_load 0 = .ok (.aload_n 0, 1) := by decide +kernel
theorem dX6_load_1 : decode cX6_load 1 = .ok (.getfield 21, 3) := by decide +kernel
theorem dX6_load_4 : decode cX6_load 4 = .ok (.iload_n 1, 1) := by decide +kernel
theorem dX6_load_5 : decode cX6_load 5 = .ok (.invokevirtual 80, 3) := by decide +kernel
theorem dX6_load_8 : decode cX6_load 8 = .ok (.ifCond .eq 14, 3) := by decide +kernel
theorem dX6_load_11 : decode cX6_load 11 = .ok (.aload_n 0, 1) := by decide +kernel
theorem dX6_load_12 : decode cX6_load 12 = .ok (.getfield 21, 3) := by decide +kernel
theorem dX6_load_15 : decode cX6_load 15 = .ok (.iload_n 1, 1) := by decide +kernel
theorem dX6_load_16 : decode cX6_load 16 = .ok (.invokevirtual 143, 3) := by decide +kernel
theorem dX6_load_19 : decode cX6_load 19 = .ok (.goto 5, 3) := by decide +kernel
theorem dX6_load_22 : decode cX6_load 22 = .ok (.ldc 70, 2) := by decide +kernel
theorem dX6_load_24 : decode cX6_load 24 = .ok (.ireturn, 1) := by decide +kernel
theorem dX6_nights_0 : decode cX6_nights 0 = .ok (.iload_n 1, 1) := by decide +kernel
theorem dX6_nights_1 : decode cX6_nights 1 = .ok (.iconst 1, 1) := by decide +kernel
theorem dX6_nights_2 : decode cX6_nights 2 = .ok (.if_icmp .lt 9, 3) := by decide +kernel
theorem dX6_nights_5 : decode cX6_nights 5 = .ok (.iload_n 1, 1) := by decide +kernel
theorem dX6_nights_6 : decode cX6_nights 6 = .ok (.bipush 100, 2) := by decide +kernel
theorem dX6_nights_8 : decode cX6_nights 8 = .ok (.if_icmp .le 6, 3) := by decide +kernel
theorem dX6_nights_11 : decode cX6_nights 11 = .ok (.ldc 70, 2) := by decide +kernel
theorem dX6_nights_13 : decode cX6_nights 13 = .ok (.ireturn, 1) := by decide +kernel
theorem dX6_nights_14 : decode cX6_nights 14 = .ok (.aload_n 0, 1) := by decide +kernel
theorem dX6_nights_15 : decode cX6_nights 15 = .ok (.getfield 21, 3) := by decide +kernel
theorem dX6_nights_18 : decode cX6_nights 18 = .ok (.getfield 146, 3) := by decide +kernel
theorem dX6_nights_21 : decode cX6_nights 21 = .ok (.istore_n 2, 1) := by decide +kernel
theorem dX6_nights_22 : decode cX6_nights 22 = .ok (.aload_n 0, 1) := by decide +kernel
theorem dX6_nights_23 : decode cX6_nights 23 = .ok (.getfield 21, 3) := by decide +kernel
theorem dX6_nights_26 : decode cX6_nights 26 = .ok (.iload_n 1, 1) := by decide +kernel
theorem dX6_nights_27 : decode cX6_nights 27 = .ok (.sipush 9999, 3) := by decide +kernel
theorem dX6_nights_30 : decode cX6_nights 30 = .ok (.aload_n 0, 1) := by decide +kernel
theorem dX6_nights_31 : decode cX6_nights 31 = .ok (.getfield 21, 3) := by decide +kernel
theorem dX6_nights_34 : decode cX6_nights 34 = .ok (.getfield 149, 3) := by decide +kernel
theorem dX6_nights_37 : decode cX6_nights 37 = .ok (.isub, 1) := by decide +kernel
theorem dX6_nights_38 : decode cX6_nights 38 = .ok (.invokestatic 125, 3) := by decide +kernel
theorem dX6_nights_41 : decode cX6_nights 41 = .ok (.invokevirtual 152, 3) := by decide +kernel
theorem dX6_nights_44 : decode cX6_nights 44 = .ok (.aload_n 0, 1) := by decide +kernel
theorem dX6_nights_45 : decode cX6_nights 45 = .ok (.getfield 21, 3) := by decide +kernel
theorem dX6_nights_48 : decode cX6_nights 48 = .ok (.getfield 146, 3) := by decide +kernel
theorem dX6_nights_51 : decode cX6_nights 51 = .ok (.iload_n 2, 1) := by decide +kernel
theorem dX6_nights_52 : decode cX6_nights 52 = .ok (.isub, 1) := by decide +kernel
theorem dX6_nights_53 : decode cX6_nights 53 = .ok (.ireturn, 1) := by decide +kernel
theorem dX6_terrace_0 : decode cX6_terrace 0 = .ok (.iload_n 1, 1) := by decide +kernel
theorem dX6_terrace_1 : decode cX6_terrace 1 = .ok (.ifCond .lt 9, 3) := by decide +kernel
theorem dX6_terrace_4 : decode cX6_terrace 4 = .ok (.iload_n 1, 1) := by decide +kernel
theorem dX6_terrace_5 : decode cX6_terrace 5 = .ok (.bipush 6, 2) := by decide +kernel
theorem dX6_terrace_7 : decode cX6_terrace 7 = .ok (.if_icmp .le 6, 3) := by decide +kernel
theorem dX6_terrace_10 : decode cX6_terrace 10 = .ok (.ldc 70, 2) := by decide +kernel
theorem dX6_terrace_12 : decode cX6_terrace 12 = .ok (.ireturn, 1) := by decide +kernel
theorem dX6_terrace_13 : decode cX6_terrace 13 = .ok (.iload_n 1, 1) := by decide +kernel
theorem dX6_terrace_14 : decode cX6_terrace 14 = .ok (.bipush 6, 2) := by decide +kernel
theorem dX6_terrace_16 : decode cX6_terrace 16 = .ok (.if_icmp .ne 11, 3) := by decide +kernel
theorem dX6_terrace_19 : decode cX6_terrace 19 = .ok (.aload_n 0, 1) := by decide +kernel
theorem dX6_terrace_20 : decode cX6_terrace 20 = .ok (.getfield 21, 3) := by decide +kernel
theorem dX6_terrace_23 : decode cX6_terrace 23 = .ok (.invokevirtual 156, 3) := by decide +kernel
theorem dX6_terrace_26 : decode cX6_terrace 26 = .ok (.ireturn, 1) := by decide +kernel
theorem dX6_terrace_27 : decode cX6_terrace 27 = .ok (.iload_n 1, 1) := by decide +kernel
theorem dX6_terrace_28 : decode cX6_terrace 28 = .ok (.iconst 5, 1) := by decide +kernel
theorem dX6_terrace_29 : decode cX6_terrace 29 = .ok (.if_icmp .ne 20, 3) := by decide +kernel
theorem dX6_terrace_32 : decode cX6_terrace 32 = .ok (.aload_n 0, 1) := by decide +kernel
theorem dX6_terrace_33 : decode cX6_terrace 33 = .ok (.getfield 21, 3) := by decide +kernel
theorem dX6_terrace_36 : decode cX6_terrace 36 = .ok (.aload_n 0, 1) := by decide +kernel
theorem dX6_terrace_37 : decode cX6_terrace 37 = .ok (.getfield 21, 3) := by decide +kernel
theorem dX6_terrace_40 : decode cX6_terrace 40 = .ok (.getfield 86, 3) := by decide +kernel
theorem dX6_terrace_43 : decode cX6_terrace 43 = .ok (.invokevirtual 160, 3) := by decide +kernel
theorem dX6_terrace_46 : decode cX6_terrace 46 = .ok (.goto 11, 3) := by decide +kernel
theorem dX6_terrace_49 : decode cX6_terrace 49 = .ok (.aload_n 0, 1) := by decide +kernel
theorem dX6_terrace_50 : decode cX6_terrace 50 = .ok (.getfield 21, 3) := by decide +kernel
theorem dX6_terrace_53 : decode cX6_terrace 53 = .ok (.iload_n 1, 1) := by decide +kernel
theorem dX6_terrace_54 : decode cX6_terrace 54 = .ok (.invokevirtual 164, 3) := by decide +kernel
theorem dX6_terrace_57 : decode cX6_terrace 57 = .ok (.ireturn, 1) := by decide +kernel
theorem dX6_behind_0 : decode cX6_behind 0 = .ok (.iload_n 1, 1) := by decide +kernel
theorem dX6_behind_1 : decode cX6_behind 1 = .ok (.bipush 100, 2) := by decide +kernel
theorem dX6_behind_3 : decode cX6_behind 3 = .ok (.invokestatic 66, 3) := by decide +kernel
theorem dX6_behind_6 : decode cX6_behind 6 = .ok (.ifCond .eq 20, 3) := by decide +kernel
theorem dX6_behind_9 : decode cX6_behind 9 = .ok (.iload_n 2, 1) := by decide +kernel
theorem dX6_behind_10 : decode cX6_behind 10 = .ok (.ifCond .lt 16, 3) := by decide +kernel
theorem dX6_behind_13 : decode cX6_behind 13 = .ok (.iload_n 2, 1) := by decide +kernel
theorem dX6_behind_14 : decode cX6_behind 14 = .ok (.iconst 5, 1) := by decide +kernel
theorem dX6_behind_15 : decode cX6_behind 15 = .ok (.aload_n 0, 1) := by decide +kernel
theorem dX6_behind_16 : decode cX6_behind 16 = .ok (.getfield 21, 3) := by decide +kernel
theorem dX6_behind_19 : decode cX6_behind 19 = .ok (.getfield 71, 3) := by decide +kernel
theorem dX6_behind_22 : decode cX6_behind 22 = .ok (.iadd, 1) := by decide +kernel
theorem dX6_behind_23 : decode cX6_behind 23 = .ok (.if_icmp .lt 6, 3) := by decide +kernel
theorem dX6_behind_26 : decode cX6_behind 26 = .ok (.ldc 70, 2) := by decide +kernel
theorem dX6_behind_28 : decode cX6_behind 28 = .ok (.ireturn, 1) := by decide +kernel
theorem dX6_behind_29 : decode cX6_behind 29 = .ok (.aload_n 0, 1) := by decide +kernel
theorem dX6_behind_30 : decode cX6_behind 30 = .ok (.getfield 28, 3) := by decide +kernel
theorem dX6_behind_33 : decode cX6_behind 33 = .ok (.aload_n 0, 1) := by decide +kernel
theorem dX6_behind_34 : decode cX6_behind 34 = .ok (.getfield 21, 3) := by decide +kernel
theorem dX6_behind_37 : decode cX6_behind 37 = .ok (.invokevirtual 167, 3) := by decide +kernel
theorem dX6_behind_40 : decode cX6_behind 40 = .ok (.aload_n 0, 1) := by decide +kernel
theorem dX6_behind_41 : decode cX6_behind 41 = .ok (.getfield 28, 3) := by decide +kernel
theorem dX6_behind_44 : decode cX6_behind 44 = .ok (.iload_n 1, 1) := by decide +kernel
theorem dX6_behind_45 : decode cX6_behind 45 = .ok (.invokevirtual 152, 3) := by decide +kernel
theorem dX6_behind_48 : decode cX6_behind 48 = .ok (.iload_n 2, 1) := by decide +kernel
theorem dX6_behind_49 : decode cX6_behind 49 = .ok (.iconst 5, 1) := by decide +kernel
theorem dX6_behind_50 : decode cX6_behind 50 = .ok (.if_icmp .ge 14, 3) := by decide +kernel
theorem dX6_behind_53 : decode cX6_behind 53 = .ok (.aload_n 0, 1) := by decide +kernel
theorem dX6_behind_54 : decode cX6_behind 54 = .ok (.getfield 28, 3) := by decide +kernel
theorem dX6_behind_57 : decode cX6_behind 57 = .ok (.iload_n 2, 1) := by decide +kernel
theorem dX6_behind_58 : decode cX6_behind 58 = .ok (.invokevirtual 164, 3) := by decide +kernel
theorem dX6_behind_61 : decode cX6_behind 61 = .ok (.goto 14, 3) := by decide +kernel
theorem dX6_behind_64 : decode cX6_behind 64 = .ok (.aload_n 0, 1) := by decide +kernel
theorem dX6_behind_65 : decode cX6_behind 65 = .ok (.getfield 28, 3) := by decide +kernel
theorem dX6_behind_68 : decode cX6_behind 68 = .ok (.getfield 95, 3) := by decide +kernel
theorem dX6_behind_71 : decode cX6_behind 71 = .ok (.iload_n 2, 1) := by decide +kernel
theorem dX6_behind_72 : decode cX6_behind 72 = .ok (.iconst 5, 1) := by decide +kernel
theorem dX6_behind_73 : decode cX6_behind 73 = .ok (.isub, 1) := by decide +kernel
theorem dX6_behind_74 : decode cX6_behind 74 = .ok (.iaload, 1) := by decide +kernel
theorem dX6_behind_75 : decode cX6_behind 75 = .ok (.ireturn, 1) := by decide +kernel
theorem dX6_cold_0 : decode cX6_cold 0 = .ok (.aload_n 0, 1) := by decide +kernel
theorem dX6_cold_1 : decode cX6_cold 1 = .ok (.getfield 21, 3) := by decide +kernel
theorem dX6_cold_4 : decode cX6_cold 4 = .ok (.iload_n 1, 1) := by decide +kernel
theorem dX6_cold_5 : decode cX6_cold 5 = .ok (.invokevirtual 80, 3) := by decide +kernel
theorem dX6_cold_8 : decode cX6_cold 8 = .ok (.ifCond .ne 6, 3) := by decide +kernel
theorem dX6_cold_11 : decode cX6_cold 11 = .ok (.ldc 70, 2) := by decide +kernel
theorem dX6_cold_13 : decode cX6_cold 13 = .ok (.ireturn, 1) := by decide +kernel
theorem dX6_cold_14 : decode cX6_cold 14 = .ok (.aload_n 0, 1) := by decide +kernel
theorem dX6_cold_15 : decode cX6_cold 15 = .ok (.getfield 28, 3) := by decide +kernel
theorem dX6_cold_18 : decode cX6_cold 18 = .ok (.aload_n 0, 1) := by decide +kernel
theorem dX6_cold_19 : decode cX6_cold 19 = .ok (.getfield 21, 3) := by decide +kernel
theorem dX6_cold_22 : decode cX6_cold 22 = .ok (.invokevirtual 167, 3) := by decide +kernel
theorem dX6_cold_25 : decode cX6_cold 25 = .ok (.iconst 0, 1) := by decide +kernel
theorem dX6_cold_26 : decode cX6_cold 26 = .ok (.istore_n 2, 1) := by decide +kernel
theorem dX6_cold_27 : decode cX6_cold 27 = .ok (.iload_n 2, 1) := by decide +kernel
theorem dX6_cold_28 : decode cX6_cold 28 = .ok (.sipush 200, 3) := by decide +kernel
theorem dX6_cold_31 : decode cX6_cold 31 = .ok (.if_icmp .ge 29, 3) := by decide +kernel
theorem dX6_cold_34 : decode cX6_cold 34 = .ok (.aload_n 0, 1) := by decide +kernel
theorem dX6_cold_35 : decode cX6_cold 35 = .ok (.getfield 28, 3) := by decide +kernel
theorem dX6_cold_38 : decode cX6_cold 38 = .ok (.getfield 92, 3) := by decide +kernel
theorem dX6_cold_41 : decode cX6_cold 41 = .ok (.iload_n 1, 1) := by decide +kernel
theorem dX6_cold_42 : decode cX6_cold 42 = .ok (.iaload, 1) := by decide +kernel
theorem dX6_cold_43 : decode cX6_cold 43 = .ok (.ifCond .eq 17, 3) := by decide +kernel
theorem dX6_cold_46 : decode cX6_cold 46 = .ok (.aload_n 0, 1) := by decide +kernel
theorem dX6_cold_47 : decode cX6_cold 47 = .ok (.getfield 28, 3) := by decide +kernel
theorem dX6_cold_50 : decode cX6_cold 50 = .ok (.iconst 1, 1) := by decide +kernel
theorem dX6_cold_51 : decode cX6_cold 51 = .ok (.invokevirtual 152, 3) := by decide +kernel
theorem dX6_cold_54 : decode cX6_cold 54 = .ok (.iinc 2 1, 3) := by decide +kernel
theorem dX6_cold_57 : decode cX6_cold 57 = .ok (.goto (-30), 3) := by decide +kernel
theorem dX6_cold_60 : decode cX6_cold 60 = .ok (.aload_n 0, 1) := by decide +kernel
theorem dX6_cold_61 : decode cX6_cold 61 = .ok (.getfield 28, 3) := by decide +kernel
theorem dX6_cold_64 : decode cX6_cold 64 = .ok (.getfield 92, 3) := by decide +kernel
theorem dX6_cold_67 : decode cX6_cold 67 = .ok (.iload_n 1, 1) := by decide +kernel
theorem dX6_cold_68 : decode cX6_cold 68 = .ok (.iaload, 1) := by decide +kernel
theorem dX6_cold_69 : decode cX6_cold 69 = .ok (.ifCond .ne 21, 3) := by decide +kernel
theorem dX6_cold_72 : decode cX6_cold 72 = .ok (.aload_n 0, 1) := by decide +kernel
theorem dX6_cold_73 : decode cX6_cold 73 = .ok (.getfield 28, 3) := by decide +kernel
theorem dX6_cold_76 : decode cX6_cold 76 = .ok (.getfield 149, 3) := by decide +kernel
theorem dX6_cold_79 : decode cX6_cold 79 = .ok (.aload_n 0, 1) := by decide +kernel
theorem dX6_cold_80 : decode cX6_cold 80 = .ok (.getfield 21, 3) := by decide +kernel
theorem dX6_cold_83 : decode cX6_cold 83 = .ok (.getfield 149, 3) := by decide +kernel
theorem dX6_cold_86 : decode cX6_cold 86 = .ok (.isub, 1) := by decide +kernel
theorem dX6_cold_87 : decode cX6_cold 87 = .ok (.goto 5, 3) := by decide +kernel
theorem dX6_cold_90 : decode cX6_cold 90 = .ok (.ldc 171, 2) := by decide +kernel
theorem dX6_cold_92 : decode cX6_cold 92 = .ok (.ireturn, 1) := by decide +kernel
theorem dX6_shut_0 : decode cX6_shut 0 = .ok (.aload_n 0, 1) := by decide +kernel
theorem dX6_shut_1 : decode cX6_shut 1 = .ok (.getfield 21, 3) := by decide +kernel
theorem dX6_shut_4 : decode cX6_shut 4 = .ok (.iload_n 1, 1) := by decide +kernel
theorem dX6_shut_5 : decode cX6_shut 5 = .ok (.invokevirtual 80, 3) := by decide +kernel
theorem dX6_shut_8 : decode cX6_shut 8 = .ok (.ifCond .ne 6, 3) := by decide +kernel
theorem dX6_shut_11 : decode cX6_shut 11 = .ok (.ldc 70, 2) := by decide +kernel
theorem dX6_shut_13 : decode cX6_shut 13 = .ok (.ireturn, 1) := by decide +kernel
theorem dX6_shut_14 : decode cX6_shut 14 = .ok (.aload_n 0, 1) := by decide +kernel
theorem dX6_shut_15 : decode cX6_shut 15 = .ok (.getfield 28, 3) := by decide +kernel
theorem dX6_shut_18 : decode cX6_shut 18 = .ok (.aload_n 0, 1) := by decide +kernel
theorem dX6_shut_19 : decode cX6_shut 19 = .ok (.getfield 21, 3) := by decide +kernel
theorem dX6_shut_22 : decode cX6_shut 22 = .ok (.invokevirtual 167, 3) := by decide +kernel
theorem dX6_shut_25 : decode cX6_shut 25 = .ok (.iconst 0, 1) := by decide +kernel
theorem dX6_shut_26 : decode cX6_shut 26 = .ok (.istore_n 2, 1) := by decide +kernel
theorem dX6_shut_27 : decode cX6_shut 27 = .ok (.iload_n 2, 1) := by decide +kernel
theorem dX6_shut_28 : decode cX6_shut 28 = .ok (.sipush 200, 3) := by decide +kernel
theorem dX6_shut_31 : decode cX6_shut 31 = .ok (.if_icmp .gt 30, 3) := by decide +kernel
theorem dX6_shut_34 : decode cX6_shut 34 = .ok (.aload_n 0, 1) := by decide +kernel
theorem dX6_shut_35 : decode cX6_shut 35 = .ok (.getfield 28, 3) := by decide +kernel
theorem dX6_shut_38 : decode cX6_shut 38 = .ok (.iload_n 1, 1) := by decide +kernel
theorem dX6_shut_39 : decode cX6_shut 39 = .ok (.invokevirtual 98, 3) := by decide +kernel
theorem dX6_shut_42 : decode cX6_shut 42 = .ok (.ifCond .ne 5, 3) := by decide +kernel
theorem dX6_shut_45 : decode cX6_shut 45 = .ok (.iload_n 2, 1) := by decide +kernel
theorem dX6_shut_46 : decode cX6_shut 46 = .ok (.ireturn, 1) := by decide +kernel
theorem dX6_shut_47 : decode cX6_shut 47 = .ok (.aload_n 0, 1) := by decide +kernel
theorem dX6_shut_48 : decode cX6_shut 48 = .ok (.getfield 28, 3) := by decide +kernel
theorem dX6_shut_51 : decode cX6_shut 51 = .ok (.iconst 1, 1) := by decide +kernel
theorem dX6_shut_52 : decode cX6_shut 52 = .ok (.invokevirtual 152, 3) := by decide +kernel
theorem dX6_shut_55 : decode cX6_shut 55 = .ok (.iinc 2 1, 3) := by decide +kernel
theorem dX6_shut_58 : decode cX6_shut 58 = .ok (.goto (-31), 3) := by decide +kernel
theorem dX6_shut_61 : decode cX6_shut 61 = .ok (.ldc 171, 2) := by decide +kernel
theorem dX6_shut_63 : decode cX6_shut 63 = .ok (.ireturn, 1) := by decide +kernel
theorem dX6_cement_0 : decode cX6_cement 0 = .ok (.iload_n 1, 1) := by decide +kernel
theorem dX6_cement_1 : decode cX6_cement 1 = .ok (.bipush 20, 2) := by decide +kernel
theorem dX6_cement_3 : decode cX6_cement 3 = .ok (.invokestatic 66, 3) := by decide +kernel
theorem dX6_cement_6 : decode cX6_cement 6 = .ok (.ifCond .ne 6, 3) := by decide +kernel
theorem dX6_cement_9 : decode cX6_cement 9 = .ok (.ldc 70, 2) := by decide +kernel
theorem dX6_cement_11 : decode cX6_cement 11 = .ok (.ireturn, 1) := by decide +kernel
theorem dX6_cement_12 : decode cX6_cement 12 = .ok (.aload_n 0, 1) := by decide +kernel
theorem dX6_cement_13 : decode cX6_cement 13 = .ok (.getfield 21, 3) := by decide +kernel
theorem dX6_cement_16 : decode cX6_cement 16 = .ok (.iconst 2, 1) := by decide +kernel
theorem dX6_cement_17 : decode cX6_cement 17 = .ok (.invokevirtual 172, 3) := by decide +kernel
theorem dX6_cement_20 : decode cX6_cement 20 = .ok (.iconst (-1), 1) := by decide +kernel
theorem dX6_cement_21 : decode cX6_cement 21 = .ok (.ixor, 1) := by decide +kernel
theorem dX6_cement_22 : decode cX6_cement 22 = .ok (.istore_n 2, 1) := by decide +kernel
theorem dX6_cement_23 : decode cX6_cement 23 = .ok (.aload_n 0, 1) := by decide +kernel
theorem dX6_cement_24 : decode cX6_cement 24 = .ok (.getfield 21, 3) := by decide +kernel
theorem dX6_cement_27 : decode cX6_cement 27 = .ok (.invokevirtual 175, 3) := by decide +kernel
theorem dX6_cement_30 : decode cX6_cement 30 = .ok (.istore_n 3, 1) := by decide +kernel
theorem dX6_cement_31 : decode cX6_cement 31 = .ok (.aload_n 0, 1) := by decide +kernel
theorem dX6_cement_32 : decode cX6_cement 32 = .ok (.iconst 0, 1) := by decide +kernel
theorem dX6_cement_33 : decode cX6_cement 33 = .ok (.iload_n 1, 1) := by decide +kernel
theorem dX6_cement_34 : decode cX6_cement 34 = .ok (.iconst 0, 1) := by decide +kernel
theorem dX6_cement_35 : decode cX6_cement 35 = .ok (.invokevirtual 178, 3) := by decide +kernel
theorem dX6_cement_38 : decode cX6_cement 38 = .ok (.iload_n 2, 1) := by decide +kernel
theorem dX6_cement_39 : decode cX6_cement 39 = .ok (.iand, 1) := by decide +kernel
theorem dX6_cement_40 : decode cX6_cement 40 = .ok (.istore 4, 2) := by decide +kernel
theorem dX6_cement_42 : decode cX6_cement 42 = .ok (.aload_n 0, 1) := by decide +kernel
theorem dX6_cement_43 : decode cX6_cement 43 = .ok (.iload_n 3, 1) := by decide +kernel
theorem dX6_cement_44 : decode cX6_cement 44 = .ok (.iload_n 1, 1) := by decide +kernel
theorem dX6_cement_45 : decode cX6_cement 45 = .ok (.iconst 0, 1) := by decide +kernel
theorem dX6_cement_46 : decode cX6_cement 46 = .ok (.invokevirtual 178, 3) := by decide +kernel
theorem dX6_cement_49 : decode cX6_cement 49 = .ok (.iload_n 2, 1) := by decide +kernel
theorem dX6_cement_50 : decode cX6_cement 50 = .ok (.iand, 1) := by decide +kernel
theorem dX6_cement_51 : decode cX6_cement 51 = .ok (.istore 5, 2) := by decide +kernel
theorem dX6_cement_53 : decode cX6_cement 53 = .ok (.iload 4, 2) := by decide +kernel
theorem dX6_cement_55 : decode cX6_cement 55 = .ok (.iload 5, 2) := by decide +kernel
theorem dX6_cement_57 : decode cX6_cement 57 = .ok (.iand, 1) := by decide +kernel
theorem dX6_cement_58 : decode cX6_cement 58 = .ok (.ifCond .ne 25, 3) := by decide +kernel
theorem dX6_cement_61 : decode cX6_cement 61 = .ok (.aload_n 0, 1) := by decide +kernel
theorem dX6_cement_62 : decode cX6_cement 62 = .ok (.getfield 21, 3) := by decide +kernel
theorem dX6_cement_65 : decode cX6_cement 65 = .ok (.getfield 71, 3) := by decide +kernel
theorem dX6_cement_68 : decode cX6_cement 68 = .ok (.ifCond .le 18, 3) := by decide +kernel
theorem dX6_cement_71 : decode cX6_cement 71 = .ok (.aload_n 0, 1) := by decide +kernel
theorem dX6_cement_72 : decode cX6_cement 72 = .ok (.getfield 21, 3) := by decide +kernel
theorem dX6_cement_75 : decode cX6_cement 75 = .ok (.getfield 122, 3) := by decide +kernel
theorem dX6_cement_78 : decode cX6_cement 78 = .ok (.iconst 0, 1) := by decide +kernel
theorem dX6_cement_79 : decode cX6_cement 79 = .ok (.iaload, 1) := by decide +kernel
theorem dX6_cement_80 : decode cX6_cement 80 = .ok (.ifCond .ne 6, 3) := by decide +kernel
theorem dX6_cement_83 : decode cX6_cement 83 = .ok (.ldc 171, 2) := by decide +kernel
theorem dX6_cement_85 : decode cX6_cement 85 = .ok (.ireturn, 1) := by decide +kernel
theorem dX6_cement_86 : decode cX6_cement 86 = .ok (.iload_n 3, 1) := by decide +kernel
theorem dX6_cement_87 : decode cX6_cement 87 = .ok (.iload 5, 2) := by decide +kernel
theorem dX6_cement_89 : decode cX6_cement 89 = .ok (.iconst (-1), 1) := by decide +kernel
theorem dX6_cement_90 : decode cX6_cement 90 = .ok (.ixor, 1) := by decide +kernel
theorem dX6_cement_91 : decode cX6_cement 91 = .ok (.iand, 1) := by decide +kernel
theorem dX6_cement_92 : decode cX6_cement 92 = .ok (.istore 6, 2) := by decide +kernel
theorem dX6_cement_94 : decode cX6_cement 94 = .ok (.iconst 1, 1) := by decide +kernel
theorem dX6_cement_95 : decode cX6_cement 95 = .ok (.aload_n 0, 1) := by decide +kernel
theorem dX6_cement_96 : decode cX6_cement 96 = .ok (.getfield 21, 3) := by decide +kernel
theorem dX6_cement_99 : decode cX6_cement 99 = .ok (.getfield 71, 3) := by decide +kernel
theorem dX6_cement_102 : decode cX6_cement 102 = .ok (.ishl, 1) := by decide +kernel
theorem dX6_cement_103 : decode cX6_cement 103 = .ok (.istore 7, 2) := by decide +kernel
theorem dX6_cement_105 : decode cX6_cement 105 = .ok (.iload 4, 2) := by decide +kernel
theorem dX6_cement_107 : decode cX6_cement 107 = .ok (.invokestatic 182, 3) := by decide +kernel
theorem dX6_cement_110 : decode cX6_cement 110 = .ok (.istore 8, 2) := by decide +kernel
theorem dX6_cement_112 : decode cX6_cement 112 = .ok (.iload 8, 2) := by decide +kernel
theorem dX6_cement_114 : decode cX6_cement 114 = .ok (.aload_n 0, 1) := by decide +kernel
theorem dX6_cement_115 : decode cX6_cement 115 = .ok (.getfield 21, 3) := by decide +kernel
theorem dX6_cement_118 : decode cX6_cement 118 = .ok (.getfield 71, 3) := by decide +kernel
theorem dX6_cement_121 : decode cX6_cement 121 = .ok (.if_icmp .gt 70, 3) := by decide +kernel
theorem dX6_cement_124 : decode cX6_cement 124 = .ok (.iload 4, 2) := by decide +kernel
theorem dX6_cement_126 : decode cX6_cement 126 = .ok (.istore 9, 2) := by decide +kernel
theorem dX6_cement_128 : decode cX6_cement 128 = .ok (.iload 9, 2) := by decide +kernel
theorem dX6_cement_130 : decode cX6_cement 130 = .ok (.iload 7, 2) := by decide +kernel
theorem dX6_cement_132 : decode cX6_cement 132 = .ok (.if_icmp .ge 53, 3) := by decide +kernel
theorem dX6_cement_135 : decode cX6_cement 135 = .ok (.iload 9, 2) := by decide +kernel
theorem dX6_cement_137 : decode cX6_cement 137 = .ok (.iload 6, 2) := by decide +kernel
theorem dX6_cement_139 : decode cX6_cement 139 = .ok (.iand, 1) := by decide +kernel
theorem dX6_cement_140 : decode cX6_cement 140 = .ok (.iload 9, 2) := by decide +kernel
theorem dX6_cement_142 : decode cX6_cement 142 = .ok (.if_icmp .ne 37, 3) := by decide +kernel
theorem dX6_cement_145 : decode cX6_cement 145 = .ok (.iload 9, 2) := by decide +kernel
theorem dX6_cement_147 : decode cX6_cement 147 = .ok (.iload 4, 2) := by decide +kernel
theorem dX6_cement_149 : decode cX6_cement 149 = .ok (.iand, 1) := by decide +kernel
theorem dX6_cement_150 : decode cX6_cement 150 = .ok (.iload 4, 2) := by decide +kernel
theorem dX6_cement_152 : decode cX6_cement 152 = .ok (.if_icmp .ne 27, 3) := by decide +kernel
theorem dX6_cement_155 : decode cX6_cement 155 = .ok (.iload 9, 2) := by decide +kernel
theorem dX6_cement_157 : decode cX6_cement 157 = .ok (.invokestatic 182, 3) := by decide +kernel
theorem dX6_cement_160 : decode cX6_cement 160 = .ok (.iload 8, 2) := by decide +kernel
theorem dX6_cement_162 : decode cX6_cement 162 = .ok (.if_icmp .ne 17, 3) := by decide +kernel
theorem dX6_cement_165 : decode cX6_cement 165 = .ok (.aload_n 0, 1) := by decide +kernel
theorem dX6_cement_166 : decode cX6_cement 166 = .ok (.iload 9, 2) := by decide +kernel
theorem dX6_cement_168 : decode cX6_cement 168 = .ok (.iload_n 1, 1) := by decide +kernel
theorem dX6_cement_169 : decode cX6_cement 169 = .ok (.iconst 1, 1) := by decide +kernel
theorem dX6_cement_170 : decode cX6_cement 170 = .ok (.invokevirtual 178, 3) := by decide +kernel
theorem dX6_cement_173 : decode cX6_cement 173 = .ok (.ifCond .ne 6, 3) := by decide +kernel
theorem dX6_cement_176 : decode cX6_cement 176 = .ok (.iload 9, 2) := by decide +kernel
theorem dX6_cement_178 : decode cX6_cement 178 = .ok (.ireturn, 1) := by decide +kernel
theorem dX6_cement_179 : decode cX6_cement 179 = .ok (.iinc 9 1, 3) := by decide +kernel
theorem dX6_cement_182 : decode cX6_cement 182 = .ok (.goto (-54), 3) := by decide +kernel
theorem dX6_cement_185 : decode cX6_cement 185 = .ok (.iinc 8 1, 3) := by decide +kernel
theorem dX6_cement_188 : decode cX6_cement 188 = .ok (.goto (-76), 3) := by decide +kernel
theorem dX6_cement_191 : decode cX6_cement 191 = .ok (.ldc 171, 2) := by decide +kernel
theorem dX6_cement_193 : decode cX6_cement 193 = .ok (.ireturn, 1) := by decide +kernel
theorem dX6_cast_0 : decode cX6_cast 0 = .ok (.aload_n 0, 1) := by decide +kernel
theorem dX6_cast_1 : decode cX6_cast 1 = .ok (.getfield 21, 3) := by decide +kernel
theorem dX6_cast_4 : decode cX6_cast 4 = .ok (.iload_n 1, 1) := by decide +kernel
theorem dX6_cast_5 : decode cX6_cast 5 = .ok (.invokevirtual 80, 3) := by decide +kernel
theorem dX6_cast_8 : decode cX6_cast 8 = .ok (.ifCond .eq 22, 3) := by decide +kernel
theorem dX6_cast_11 : decode cX6_cast 11 = .ok (.iload_n 2, 1) := by decide +kernel
theorem dX6_cast_12 : decode cX6_cast 12 = .ok (.iconst 1, 1) := by decide +kernel
theorem dX6_cast_13 : decode cX6_cast 13 = .ok (.if_icmp .lt 17, 3) := by decide +kernel
theorem dX6_cast_16 : decode cX6_cast 16 = .ok (.iload_n 2, 1) := by decide +kernel
theorem dX6_cast_17 : decode cX6_cast 17 = .ok (.bipush 60, 2) := by decide +kernel
theorem dX6_cast_19 : decode cX6_cast 19 = .ok (.if_icmp .gt 11, 3) := by decide +kernel
theorem dX6_cast_22 : decode cX6_cast 22 = .ok (.iload_n 3, 1) := by decide +kernel
theorem dX6_cast_23 : decode cX6_cast 23 = .ok (.iconst 1, 1) := by decide +kernel
theorem dX6_cast_24 : decode cX6_cast 24 = .ok (.invokestatic 66, 3) := by decide +kernel
theorem dX6_cast_27 : decode cX6_cast 27 = .ok (.ifCond .ne 6, 3) := by decide +kernel
theorem dX6_cast_30 : decode cX6_cast 30 = .ok (.ldc 70, 2) := by decide +kernel
theorem dX6_cast_32 : decode cX6_cast 32 = .ok (.ireturn, 1) := by decide +kernel
theorem dX6_cast_33 : decode cX6_cast 33 = .ok (.aload_n 0, 1) := by decide +kernel
theorem dX6_cast_34 : decode cX6_cast 34 = .ok (.getfield 21, 3) := by decide +kernel
theorem dX6_cast_37 : decode cX6_cast 37 = .ok (.iload_n 1, 1) := by decide +kernel
theorem dX6_cast_38 : decode cX6_cast 38 = .ok (.iload_n 2, 1) := by decide +kernel
theorem dX6_cast_39 : decode cX6_cast 39 = .ok (.invokevirtual 187, 3) := by decide +kernel
theorem dX6_cast_42 : decode cX6_cast 42 = .ok (.istore 4, 2) := by decide +kernel
theorem dX6_cast_44 : decode cX6_cast 44 = .ok (.iconst 0, 1) := by decide +kernel
theorem dX6_cast_45 : decode cX6_cast 45 = .ok (.istore 5, 2) := by decide +kernel
theorem dX6_cast_47 : decode cX6_cast 47 = .ok (.iconst (-1), 1) := by decide +kernel
theorem dX6_cast_48 : decode cX6_cast 48 = .ok (.istore 6, 2) := by decide +kernel
theorem dX6_cast_50 : decode cX6_cast 50 = .ok (.iconst 0, 1) := by decide +kernel
theorem dX6_cast_51 : decode cX6_cast 51 = .ok (.istore 7, 2) := by decide +kernel
theorem dX6_cast_53 : decode cX6_cast 53 = .ok (.iload 7, 2) := by decide +kernel
theorem dX6_cast_55 : decode cX6_cast 55 = .ok (.bipush 99, 2) := by decide +kernel
theorem dX6_cast_57 : decode cX6_cast 57 = .ok (.if_icmp .gt 75, 3) := by decide +kernel
theorem dX6_cast_60 : decode cX6_cast 60 = .ok (.iload 6, 2) := by decide +kernel
theorem dX6_cast_62 : decode cX6_cast 62 = .ok (.iload 4, 2) := by decide +kernel
theorem dX6_cast_64 : decode cX6_cast 64 = .ok (.if_icmp .ge 68, 3) := by decide +kernel
theorem dX6_cast_67 : decode cX6_cast 67 = .ok (.aload_n 0, 1) := by decide +kernel
theorem dX6_cast_68 : decode cX6_cast 68 = .ok (.getfield 28, 3) := by decide +kernel
theorem dX6_cast_71 : decode cX6_cast 71 = .ok (.aload_n 0, 1) := by decide +kernel
theorem dX6_cast_72 : decode cX6_cast 72 = .ok (.getfield 21, 3) := by decide +kernel
theorem dX6_cast_75 : decode cX6_cast 75 = .ok (.invokevirtual 167, 3) := by decide +kernel
theorem dX6_cast_78 : decode cX6_cast 78 = .ok (.aload_n 0, 1) := by decide +kernel
theorem dX6_cast_79 : decode cX6_cast 79 = .ok (.getfield 28, 3) := by decide +kernel
theorem dX6_cast_82 : decode cX6_cast 82 = .ok (.getfield 89, 3) := by decide +kernel
theorem dX6_cast_85 : decode cX6_cast 85 = .ok (.iload_n 1, 1) := by decide +kernel
theorem dX6_cast_86 : decode cX6_cast 86 = .ok (.iload 7, 2) := by decide +kernel
theorem dX6_cast_88 : decode cX6_cast 88 = .ok (.iastore, 1) := by decide +kernel
theorem dX6_cast_89 : decode cX6_cast 89 = .ok (.aload_n 0, 1) := by decide +kernel
theorem dX6_cast_90 : decode cX6_cast 90 = .ok (.getfield 28, 3) := by decide +kernel
theorem dX6_cast_93 : decode cX6_cast 93 = .ok (.iload_n 2, 1) := by decide +kernel
theorem dX6_cast_94 : decode cX6_cast 94 = .ok (.invokevirtual 152, 3) := by decide +kernel
theorem dX6_cast_97 : decode cX6_cast 97 = .ok (.aload_n 0, 1) := by decide +kernel
theorem dX6_cast_98 : decode cX6_cast 98 = .ok (.getfield 28, 3) := by decide +kernel
theorem dX6_cast_101 : decode cX6_cast 101 = .ok (.getfield 92, 3) := by decide +kernel
theorem dX6_cast_104 : decode cX6_cast 104 = .ok (.iload_n 1, 1) := by decide +kernel
theorem dX6_cast_105 : decode cX6_cast 105 = .ok (.iaload, 1) := by decide +kernel
theorem dX6_cast_106 : decode cX6_cast 106 = .ok (.iload 6, 2) := by decide +kernel
theorem dX6_cast_108 : decode cX6_cast 108 = .ok (.if_icmp .le 18, 3) := by decide +kernel
theorem dX6_cast_111 : decode cX6_cast 111 = .ok (.iload 7, 2) := by decide +kernel
theorem dX6_cast_113 : decode cX6_cast 113 = .ok (.istore 5, 2) := by decide +kernel
theorem dX6_cast_115 : decode cX6_cast 115 = .ok (.aload_n 0, 1) := by decide +kernel
theorem dX6_cast_116 : decode cX6_cast 116 = .ok (.getfield 28, 3) := by decide +kernel
theorem dX6_cast_119 : decode cX6_cast 119 = .ok (.getfield 92, 3) := by decide +kernel
theorem dX6_cast_122 : decode cX6_cast 122 = .ok (.iload_n 1, 1) := by decide +kernel
theorem dX6_cast_123 : decode cX6_cast 123 = .ok (.iaload, 1) := by decide +kernel
theorem dX6_cast_124 : decode cX6_cast 124 = .ok (.istore 6, 2) := by decide +kernel
theorem dX6_cast_126 : decode cX6_cast 126 = .ok (.iinc 7 1, 3) := by decide +kernel
theorem dX6_cast_129 : decode cX6_cast 129 = .ok (.goto (-76), 3) := by decide +kernel
theorem dX6_cast_132 : decode cX6_cast 132 = .ok (.iload_n 3, 1) := by decide +kernel
theorem dX6_cast_133 : decode cX6_cast 133 = .ok (.ifCond .ne 8, 3) := by decide +kernel
theorem dX6_cast_136 : decode cX6_cast 136 = .ok (.iload 5, 2) := by decide +kernel
theorem dX6_cast_138 : decode cX6_cast 138 = .ok (.goto 5, 3) := by decide +kernel
theorem dX6_cast_141 : decode cX6_cast 141 = .ok (.iload 6, 2) := by decide +kernel
theorem dX6_cast_143 : decode cX6_cast 143 = .ok (.ireturn, 1) := by decide +kernel
theorem dX6_becomes_0 : decode cX6_becomes 0 = .ok (.aload_n 0, 1) := by decide +kernel
theorem dX6_becomes_1 : decode cX6_becomes 1 = .ok (.getfield 21, 3) := by decide +kernel
theorem dX6_becomes_4 : decode cX6_becomes 4 = .ok (.iload_n 1, 1) := by decide +kernel
theorem dX6_becomes_5 : decode cX6_becomes 5 = .ok (.invokevirtual 80, 3) := by decide +kernel
theorem dX6_becomes_8 : decode cX6_becomes 8 = .ok (.ifCond .eq 22, 3) := by decide +kernel
theorem dX6_becomes_11 : decode cX6_becomes 11 = .ok (.iload_n 2, 1) := by decide +kernel
theorem dX6_becomes_12 : decode cX6_becomes 12 = .ok (.iconst 1, 1) := by decide +kernel
theorem dX6_becomes_13 : decode cX6_becomes 13 = .ok (.if_icmp .lt 17, 3) := by decide +kernel
theorem dX6_becomes_16 : decode cX6_becomes 16 = .ok (.iload_n 2, 1) := by decide +kernel
theorem dX6_becomes_17 : decode cX6_becomes 17 = .ok (.bipush 60, 2) := by decide +kernel
theorem dX6_becomes_19 : decode cX6_becomes 19 = .ok (.if_icmp .gt 11, 3) := by decide +kernel
theorem dX6_becomes_22 : decode cX6_becomes 22 = .ok (.iload_n 3, 1) := by decide +kernel
theorem dX6_becomes_23 : decode cX6_becomes 23 = .ok (.iconst 1, 1) := by decide +kernel
theorem dX6_becomes_24 : decode cX6_becomes 24 = .ok (.invokestatic 66, 3) := by decide +kernel
theorem dX6_becomes_27 : decode cX6_becomes 27 = .ok (.ifCond .ne 6, 3) := by decide +kernel
theorem dX6_becomes_30 : decode cX6_becomes 30 = .ok (.ldc 70, 2) := by decide +kernel
theorem dX6_becomes_32 : decode cX6_becomes 32 = .ok (.ireturn, 1) := by decide +kernel
theorem dX6_becomes_33 : decode cX6_becomes 33 = .ok (.iconst 0, 1) := by decide +kernel
theorem dX6_becomes_34 : decode cX6_becomes 34 = .ok (.istore 4, 2) := by decide +kernel
theorem dX6_becomes_36 : decode cX6_becomes 36 = .ok (.ldc 190, 2) := by decide +kernel
theorem dX6_becomes_38 : decode cX6_becomes 38 = .ok (.istore 5, 2) := by decide +kernel
theorem dX6_becomes_40 : decode cX6_becomes 40 = .ok (.iconst 0, 1) := by decide +kernel
theorem dX6_becomes_41 : decode cX6_becomes 41 = .ok (.istore 6, 2) := by decide +kernel
theorem dX6_becomes_43 : decode cX6_becomes 43 = .ok (.iload 6, 2) := by decide +kernel
theorem dX6_becomes_45 : decode cX6_becomes 45 = .ok (.bipush 6, 2) := by decide +kernel
theorem dX6_becomes_47 : decode cX6_becomes 47 = .ok (.if_icmp .ge 64, 3) := by decide +kernel
theorem dX6_becomes_50 : decode cX6_becomes 50 = .ok (.aload_n 0, 1) := by decide +kernel
theorem dX6_becomes_51 : decode cX6_becomes 51 = .ok (.getfield 28, 3) := by decide +kernel
theorem dX6_becomes_54 : decode cX6_becomes 54 = .ok (.aload_n 0, 1) := by decide +kernel
theorem dX6_becomes_55 : decode cX6_becomes 55 = .ok (.getfield 21, 3) := by decide +kernel
theorem dX6_becomes_58 : decode cX6_becomes 58 = .ok (.invokevirtual 167, 3) := by decide +kernel
theorem dX6_becomes_61 : decode cX6_becomes 61 = .ok (.aload_n 0, 1) := by decide +kernel
theorem dX6_becomes_62 : decode cX6_becomes 62 = .ok (.getfield 28, 3) := by decide +kernel
theorem dX6_becomes_65 : decode cX6_becomes 65 = .ok (.getfield 83, 3) := by decide +kernel
theorem dX6_becomes_68 : decode cX6_becomes 68 = .ok (.iload_n 1, 1) := by decide +kernel
theorem dX6_becomes_69 : decode cX6_becomes 69 = .ok (.iload 6, 2) := by decide +kernel
theorem dX6_becomes_71 : decode cX6_becomes 71 = .ok (.iastore, 1) := by decide +kernel
theorem dX6_becomes_72 : decode cX6_becomes 72 = .ok (.aload_n 0, 1) := by decide +kernel
theorem dX6_becomes_73 : decode cX6_becomes 73 = .ok (.getfield 28, 3) := by decide +kernel
theorem dX6_becomes_76 : decode cX6_becomes 76 = .ok (.iload_n 2, 1) := by decide +kernel
theorem dX6_becomes_77 : decode cX6_becomes 77 = .ok (.invokevirtual 152, 3) := by decide +kernel
theorem dX6_becomes_80 : decode cX6_becomes 80 = .ok (.aload_n 0, 1) := by decide +kernel
theorem dX6_becomes_81 : decode cX6_becomes 81 = .ok (.getfield 28, 3) := by decide +kernel
theorem dX6_becomes_84 : decode cX6_becomes 84 = .ok (.getfield 146, 3) := by decide +kernel
theorem dX6_becomes_87 : decode cX6_becomes 87 = .ok (.iload 5, 2) := by decide +kernel
theorem dX6_becomes_89 : decode cX6_becomes 89 = .ok (.if_icmp .ge 16, 3) := by decide +kernel
theorem dX6_becomes_92 : decode cX6_becomes 92 = .ok (.iload 6, 2) := by decide +kernel
theorem dX6_becomes_94 : decode cX6_becomes 94 = .ok (.istore 4, 2) := by decide +kernel
theorem dX6_becomes_96 : decode cX6_becomes 96 = .ok (.aload_n 0, 1) := by decide +kernel
theorem dX6_becomes_97 : decode cX6_becomes 97 = .ok (.getfield 28, 3) := by decide +kernel
theorem dX6_becomes_100 : decode cX6_becomes 100 = .ok (.getfield 146, 3) := by decide +kernel
theorem dX6_becomes_103 : decode cX6_becomes 103 = .ok (.istore 5, 2) := by decide +kernel
theorem dX6_becomes_105 : decode cX6_becomes 105 = .ok (.iinc 6 1, 3) := by decide +kernel
theorem dX6_becomes_108 : decode cX6_becomes 108 = .ok (.goto (-65), 3) := by decide +kernel
theorem dX6_becomes_111 : decode cX6_becomes 111 = .ok (.iload_n 3, 1) := by decide +kernel
theorem dX6_becomes_112 : decode cX6_becomes 112 = .ok (.ifCond .ne 8, 3) := by decide +kernel
theorem dX6_becomes_115 : decode cX6_becomes 115 = .ok (.iload 4, 2) := by decide +kernel
theorem dX6_becomes_117 : decode cX6_becomes 117 = .ok (.goto 5, 3) := by decide +kernel
theorem dX6_becomes_120 : decode cX6_becomes 120 = .ok (.iload 5, 2) := by decide +kernel
theorem dX6_becomes_122 : decode cX6_becomes 122 = .ok (.ireturn, 1) := by decide +kernel
theorem dX6_ears_0 : decode cX6_ears 0 = .ok (.iload_n 1, 1) := by decide +kernel
theorem dX6_ears_1 : decode cX6_ears 1 = .ok (.bipush 60, 2) := by decide +kernel
theorem dX6_ears_3 : decode cX6_ears 3 = .ok (.invokestatic 66, 3) := by decide +kernel
theorem dX6_ears_6 : decode cX6_ears 6 = .ok (.ifCond .eq 12, 3) := by decide +kernel
theorem dX6_ears_9 : decode cX6_ears 9 = .ok (.iload_n 2, 1) := by decide +kernel
theorem dX6_ears_10 : decode cX6_ears 10 = .ok (.ldc 191, 2) := by decide +kernel
theorem dX6_ears_12 : decode cX6_ears 12 = .ok (.invokestatic 66, 3) := by decide +kernel
theorem dX6_ears_15 : decode cX6_ears 15 = .ok (.ifCond .ne 6, 3) := by decide +kernel
theorem dX6_ears_18 : decode cX6_ears 18 = .ok (.ldc 70, 2) := by decide +kernel
theorem dX6_ears_20 : decode cX6_ears 20 = .ok (.ireturn, 1) := by decide +kernel
theorem dX6_ears_21 : decode cX6_ears 21 = .ok (.iconst 0, 1) := by decide +kernel
theorem dX6_ears_22 : decode cX6_ears 22 = .ok (.istore_n 3, 1) := by decide +kernel
theorem dX6_ears_23 : decode cX6_ears 23 = .ok (.iload_n 3, 1) := by decide +kernel
theorem dX6_ears_24 : decode cX6_ears 24 = .ok (.bipush 99, 2) := by decide +kernel
theorem dX6_ears_26 : decode cX6_ears 26 = .ok (.if_icmp .gt 77, 3) := by decide +kernel
theorem dX6_ears_29 : decode cX6_ears 29 = .ok (.aload_n 0, 1) := by decide +kernel
theorem dX6_ears_30 : decode cX6_ears 30 = .ok (.getfield 28, 3) := by decide +kernel
theorem dX6_ears_33 : decode cX6_ears 33 = .ok (.aload_n 0, 1) := by decide +kernel
theorem dX6_ears_34 : decode cX6_ears 34 = .ok (.getfield 21, 3) := by decide +kernel
theorem dX6_ears_37 : decode cX6_ears 37 = .ok (.invokevirtual 167, 3) := by decide +kernel
theorem dX6_ears_40 : decode cX6_ears 40 = .ok (.aload_n 0, 1) := by decide +kernel
theorem dX6_ears_41 : decode cX6_ears 41 = .ok (.getfield 28, 3) := by decide +kernel
theorem dX6_ears_44 : decode cX6_ears 44 = .ok (.getfield 122, 3) := by decide +kernel
theorem dX6_ears_47 : decode cX6_ears 47 = .ok (.iconst 0, 1) := by decide +kernel
theorem dX6_ears_48 : decode cX6_ears 48 = .ok (.iload_n 3, 1) := by decide +kernel
theorem dX6_ears_49 : decode cX6_ears 49 = .ok (.iastore, 1) := by decide +kernel
theorem dX6_ears_50 : decode cX6_ears 50 = .ok (.iconst 0, 1) := by decide +kernel
theorem dX6_ears_51 : decode cX6_ears 51 = .ok (.istore 4, 2) := by decide +kernel
theorem dX6_ears_53 : decode cX6_ears 53 = .ok (.iload 4, 2) := by decide +kernel
theorem dX6_ears_55 : decode cX6_ears 55 = .ok (.iload_n 1, 1) := by decide +kernel
theorem dX6_ears_56 : decode cX6_ears 56 = .ok (.if_icmp .ge 28, 3) := by decide +kernel
theorem dX6_ears_59 : decode cX6_ears 59 = .ok (.aload_n 0, 1) := by decide +kernel
theorem dX6_ears_60 : decode cX6_ears 60 = .ok (.getfield 28, 3) := by decide +kernel
theorem dX6_ears_63 : decode cX6_ears 63 = .ok (.getfield 146, 3) := by decide +kernel
theorem dX6_ears_66 : decode cX6_ears 66 = .ok (.iload_n 2, 1) := by decide +kernel
theorem dX6_ears_67 : decode cX6_ears 67 = .ok (.if_icmp .gt 17, 3) := by decide +kernel
theorem dX6_ears_70 : decode cX6_ears 70 = .ok (.aload_n 0, 1) := by decide +kernel
theorem dX6_ears_71 : decode cX6_ears 71 = .ok (.getfield 28, 3) := by decide +kernel
theorem dX6_ears_74 : decode cX6_ears 74 = .ok (.iconst 1, 1) := by decide +kernel
theorem dX6_ears_75 : decode cX6_ears 75 = .ok (.invokevirtual 152, 3) := by decide +kernel
theorem dX6_ears_78 : decode cX6_ears 78 = .ok (.iinc 4 1, 3) := by decide +kernel
theorem dX6_ears_81 : decode cX6_ears 81 = .ok (.goto (-28), 3) := by decide +kernel
theorem dX6_ears_84 : decode cX6_ears 84 = .ok (.aload_n 0, 1) := by decide +kernel
theorem dX6_ears_85 : decode cX6_ears 85 = .ok (.getfield 28, 3) := by decide +kernel
theorem dX6_ears_88 : decode cX6_ears 88 = .ok (.getfield 146, 3) := by decide +kernel
theorem dX6_ears_91 : decode cX6_ears 91 = .ok (.iload_n 2, 1) := by decide +kernel
theorem dX6_ears_92 : decode cX6_ears 92 = .ok (.if_icmp .gt 5, 3) := by decide +kernel
theorem dX6_ears_95 : decode cX6_ears 95 = .ok (.iload_n 3, 1) := by decide +kernel
theorem dX6_ears_96 : decode cX6_ears 96 = .ok (.ireturn, 1) := by decide +kernel
theorem dX6_ears_97 : decode cX6_ears 97 = .ok (.iinc 3 1, 3) := by decide +kernel
theorem dX6_ears_100 : decode cX6_ears 100 = .ok (.goto (-77), 3) := by decide +kernel
theorem dX6_ears_103 : decode cX6_ears 103 = .ok (.ldc 171, 2) := by decide +kernel
theorem dX6_ears_105 : decode cX6_ears 105 = .ok (.ireturn, 1) := by decide +kernel
theorem dX6_like_0 : decode cX6_like 0 = .ok (.aload_n 0, 1) := by decide +kernel
theorem dX6_like_1 : decode cX6_like 1 = .ok (.iload_n 1, 1) := by decide +kernel
theorem dX6_like_2 : decode cX6_like 2 = .ok (.invokevirtual 192, 3) := by decide +kernel
theorem dX6_like_5 : decode cX6_like 5 = .ok (.astore_n 3, 1) := by decide +kernel
theorem dX6_like_6 : decode cX6_like 6 = .ok (.aload_n 3, 1) := by decide +kernel
theorem dX6_like_7 : decode cX6_like 7 = .ok (.ifnull 11, 3) := by decide +kernel
theorem dX6_like_10 : decode cX6_like 10 = .ok (.iload_n 2, 1) := by decide +kernel
theorem dX6_like_11 : decode cX6_like 11 = .ok (.iconst 1, 1) := by decide +kernel
theorem dX6_like_12 : decode cX6_like 12 = .ok (.invokestatic 66, 3) := by decide +kernel
theorem dX6_like_15 : decode cX6_like 15 = .ok (.ifCond .ne 6, 3) := by decide +kernel
theorem dX6_like_18 : decode cX6_like 18 = .ok (.ldc 70, 2) := by decide +kernel
theorem dX6_like_20 : decode cX6_like 20 = .ok (.ireturn, 1) := by decide +kernel
theorem dX6_like_21 : decode cX6_like 21 = .ok (.aload_n 3, 1) := by decide +kernel
theorem dX6_like_22 : decode cX6_like 22 = .ok (.getfield 196, 3) := by decide +kernel
theorem dX6_like_25 : decode cX6_like 25 = .ok (.iconst (-1), 1) := by decide +kernel
theorem dX6_like_26 : decode cX6_like 26 = .ok (.if_icmp .ne 6, 3) := by decide +kernel
theorem dX6_like_29 : decode cX6_like 29 = .ok (.ldc 199, 2) := by decide +kernel
theorem dX6_like_31 : decode cX6_like 31 = .ok (.ireturn, 1) := by decide +kernel
theorem dX6_like_32 : decode cX6_like 32 = .ok (.aload_n 0, 1) := by decide +kernel
theorem dX6_like_33 : decode cX6_like 33 = .ok (.getfield 21, 3) := by decide +kernel
theorem dX6_like_36 : decode cX6_like 36 = .ok (.getfield 71, 3) := by decide +kernel
theorem dX6_like_39 : decode cX6_like 39 = .ok (.ifCond .ne 6, 3) := by decide +kernel
theorem dX6_like_42 : decode cX6_like 42 = .ok (.ldc 171, 2) := by decide +kernel
theorem dX6_like_44 : decode cX6_like 44 = .ok (.ireturn, 1) := by decide +kernel
theorem dX6_like_45 : decode cX6_like 45 = .ok (.aload_n 0, 1) := by decide +kernel
theorem dX6_like_46 : decode cX6_like 46 = .ok (.aload_n 3, 1) := by decide +kernel
theorem dX6_like_47 : decode cX6_like 47 = .ok (.invokevirtual 200, 3) := by decide +kernel
theorem dX6_like_50 : decode cX6_like 50 = .ok (.iconst 0, 1) := by decide +kernel
theorem dX6_like_51 : decode cX6_like 51 = .ok (.istore 4, 2) := by decide +kernel
theorem dX6_like_53 : decode cX6_like 53 = .ok (.iconst 1, 1) := by decide +kernel
theorem dX6_like_54 : decode cX6_like 54 = .ok (.istore 5, 2) := by decide +kernel
theorem dX6_like_56 : decode cX6_like 56 = .ok (.iload 5, 2) := by decide +kernel
theorem dX6_like_58 : decode cX6_like 58 = .ok (.aload_n 0, 1) := by decide +kernel
theorem dX6_like_59 : decode cX6_like 59 = .ok (.getfield 21, 3) := by decide +kernel
theorem dX6_like_62 : decode cX6_like 62 = .ok (.getfield 71, 3) := by decide +kernel
theorem dX6_like_65 : decode cX6_like 65 = .ok (.if_icmp .ge 30, 3) := by decide +kernel
theorem dX6_like_68 : decode cX6_like 68 = .ok (.aload_n 0, 1) := by decide +kernel
theorem dX6_like_69 : decode cX6_like 69 = .ok (.getfield 57, 3) := by decide +kernel
theorem dX6_like_72 : decode cX6_like 72 = .ok (.iload 5, 2) := by decide +kernel
theorem dX6_like_74 : decode cX6_like 74 = .ok (.iaload, 1) := by decide +kernel
theorem dX6_like_75 : decode cX6_like 75 = .ok (.aload_n 0, 1) := by decide +kernel
theorem dX6_like_76 : decode cX6_like 76 = .ok (.getfield 57, 3) := by decide +kernel
theorem dX6_like_79 : decode cX6_like 79 = .ok (.iload 4, 2) := by decide +kernel
theorem dX6_like_81 : decode cX6_like 81 = .ok (.iaload, 1) := by decide +kernel
theorem dX6_like_82 : decode cX6_like 82 = .ok (.if_icmp .ge 7, 3) := by decide +kernel
theorem dX6_like_85 : decode cX6_like 85 = .ok (.iload 5, 2) := by decide +kernel
theorem dX6_like_87 : decode cX6_like 87 = .ok (.istore 4, 2) := by decide +kernel
theorem dX6_like_89 : decode cX6_like 89 = .ok (.iinc 5 1, 3) := by decide +kernel
theorem dX6_like_92 : decode cX6_like 92 = .ok (.goto (-36), 3) := by decide +kernel
theorem dX6_like_95 : decode cX6_like 95 = .ok (.iload_n 2, 1) := by decide +kernel
theorem dX6_like_96 : decode cX6_like 96 = .ok (.ifCond .ne 8, 3) := by decide +kernel
theorem dX6_like_99 : decode cX6_like 99 = .ok (.iload 4, 2) := by decide +kernel
theorem dX6_like_101 : decode cX6_like 101 = .ok (.goto 10, 3) := by decide +kernel
theorem dX6_like_104 : decode cX6_like 104 = .ok (.aload_n 0, 1) := by decide +kernel
theorem dX6_like_105 : decode cX6_like 105 = .ok (.getfield 57, 3) := by decide +kernel
theorem dX6_like_108 : decode cX6_like 108 = .ok (.iload 4, 2) := by decide +kernel
theorem dX6_like_110 : decode cX6_like 110 = .ok (.iaload, 1) := by decide +kernel
theorem dX6_like_111 : decode cX6_like 111 = .ok (.ireturn, 1) := by decide +kernel
theorem dX6_fee_0 : decode cX6_fee 0 = .ok (.aload_n 0, 1) := by decide +kernel
theorem dX6_fee_1 : decode cX6_fee 1 = .ok (.getfield 21, 3) := by decide +kernel
theorem dX6_fee_4 : decode cX6_fee 4 = .ok (.invokevirtual 204, 3) := by decide +kernel
theorem dX6_fee_7 : decode cX6_fee 7 = .ok (.ireturn, 1) := by decide +kernel
theorem dX6_fine_0 : decode cX6_fine 0 = .ok (.aload_n 0, 1) := by decide +kernel
theorem dX6_fine_1 : decode cX6_fine 1 = .ok (.getfield 21, 3) := by decide +kernel
theorem dX6_fine_4 : decode cX6_fine 4 = .ok (.iload_n 1, 1) := by decide +kernel
theorem dX6_fine_5 : decode cX6_fine 5 = .ok (.invokevirtual 80, 3) := by decide +kernel
theorem dX6_fine_8 : decode cX6_fine 8 = .ok (.ifCond .eq 14, 3) := by decide +kernel
theorem dX6_fine_11 : decode cX6_fine 11 = .ok (.aload_n 0, 1) := by decide +kernel
theorem dX6_fine_12 : decode cX6_fine 12 = .ok (.getfield 21, 3) := by decide +kernel
theorem dX6_fine_15 : decode cX6_fine 15 = .ok (.iload_n 1, 1) := by decide +kernel
theorem dX6_fine_16 : decode cX6_fine 16 = .ok (.invokevirtual 207, 3) := by decide +kernel
theorem dX6_fine_19 : decode cX6_fine 19 = .ok (.goto 5, 3) := by decide +kernel
theorem dX6_fine_22 : decode cX6_fine 22 = .ok (.ldc 70, 2) := by decide +kernel
theorem dX6_fine_24 : decode cX6_fine 24 = .ok (.ireturn, 1) := by decide +kernel
theorem dX6_feed_0 : decode cX6_feed 0 = .ok (.aload_n 0, 1) := by decide +kernel
theorem dX6_feed_1 : decode cX6_feed 1 = .ok (.getfield 210, 3) := by decide +kernel
theorem dX6_feed_4 : decode cX6_feed 4 = .ok (.bipush 12, 2) := by decide +kernel
theorem dX6_feed_6 : decode cX6_feed 6 = .ok (.iadd, 1) := by decide +kernel
theorem dX6_feed_7 : decode cX6_feed 7 = .ok (.bipush 96, 2) := by decide +kernel
theorem dX6_feed_9 : decode cX6_feed 9 = .ok (.if_icmp .le 6, 3) := by decide +kernel
theorem dX6_feed_12 : decode cX6_feed 12 = .ok (.ldc 79, 2) := by decide +kernel
theorem dX6_feed_14 : decode cX6_feed 14 = .ok (.ireturn, 1) := by decide +kernel
theorem dX6_feed_15 : decode cX6_feed 15 = .ok (.aload_n 0, 1) := by decide +kernel
theorem dX6_feed_16 : decode cX6_feed 16 = .ok (.iload_n 1, 1) := by decide +kernel
theorem dX6_feed_17 : decode cX6_feed 17 = .ok (.invokevirtual 213, 3) := by decide +kernel
theorem dX6_feed_20 : decode cX6_feed 20 = .ok (.aload_n 0, 1) := by decide +kernel
theorem dX6_feed_21 : decode cX6_feed 21 = .ok (.iload_n 2, 1) := by decide +kernel
theorem dX6_feed_22 : decode cX6_feed 22 = .ok (.invokevirtual 213, 3) := by decide +kernel
theorem dX6_feed_25 : decode cX6_feed 25 = .ok (.aload_n 0, 1) := by decide +kernel
theorem dX6_feed_26 : decode cX6_feed 26 = .ok (.iload_n 3, 1) := by decide +kernel
theorem dX6_feed_27 : decode cX6_feed 27 = .ok (.invokevirtual 213, 3) := by decide +kernel
theorem dX6_feed_30 : decode cX6_feed 30 = .ok (.aload_n 0, 1) := by decide +kernel
theorem dX6_feed_31 : decode cX6_feed 31 = .ok (.getfield 210, 3) := by decide +kernel
theorem dX6_feed_34 : decode cX6_feed 34 = .ok (.ireturn, 1) := by decide +kernel
theorem dX6_trim_0 : decode cX6_trim 0 = .ok (.iload_n 1, 1) := by decide +kernel
theorem dX6_trim_1 : decode cX6_trim 1 = .ok (.aload_n 0, 1) := by decide +kernel
theorem dX6_trim_2 : decode cX6_trim 2 = .ok (.getfield 210, 3) := by decide +kernel
theorem dX6_trim_5 : decode cX6_trim 5 = .ok (.invokestatic 66, 3) := by decide +kernel
theorem dX6_trim_8 : decode cX6_trim 8 = .ok (.ifCond .ne 6, 3) := by decide +kernel
theorem dX6_trim_11 : decode cX6_trim 11 = .ok (.ldc 70, 2) := by decide +kernel
theorem dX6_trim_13 : decode cX6_trim 13 = .ok (.ireturn, 1) := by decide +kernel
theorem dX6_trim_14 : decode cX6_trim 14 = .ok (.aload_n 0, 1) := by decide +kernel
theorem dX6_trim_15 : decode cX6_trim 15 = .ok (.iload_n 1, 1) := by decide +kernel
theorem dX6_trim_16 : decode cX6_trim 16 = .ok (.putfield 210, 3) := by decide +kernel
theorem dX6_trim_19 : decode cX6_trim 19 = .ok (.iload_n 1, 1) := by decide +kernel
theorem dX6_trim_20 : decode cX6_trim 20 = .ok (.ireturn, 1) := by decide +kernel
theorem dX6_text_0 : decode cX6_text 0 = .ok (.aload_n 0, 1) := by decide +kernel
theorem dX6_text_1 : decode cX6_text 1 = .ok (.getfield 34, 3) := by decide +kernel
theorem dX6_text_4 : decode cX6_text 4 = .ok (.aload_n 0, 1) := by decide +kernel
theorem dX6_text_5 : decode cX6_text 5 = .ok (.getfield 38, 3) := by decide +kernel
theorem dX6_text_8 : decode cX6_text 8 = .ok (.aload_n 0, 1) := by decide +kernel
theorem dX6_text_9 : decode cX6_text 9 = .ok (.getfield 210, 3) := by decide +kernel
theorem dX6_text_12 : decode cX6_text 12 = .ok (.invokevirtual 216, 3) := by decide +kernel
theorem dX6_text_15 : decode cX6_text 15 = .ok (.istore_n 1, 1) := by decide +kernel
theorem dX6_text_16 : decode cX6_text 16 = .ok (.aload_n 0, 1) := by decide +kernel
theorem dX6_text_17 : decode cX6_text 17 = .ok (.iconst 0, 1) := by decide +kernel
theorem dX6_text_18 : decode cX6_text 18 = .ok (.putfield 210, 3) := by decide +kernel
theorem dX6_text_21 : decode cX6_text 21 = .ok (.iload_n 1, 1) := by decide +kernel
theorem dX6_text_22 : decode cX6_text 22 = .ok (.ifCond .lt 8, 3) := by decide +kernel
theorem dX6_text_25 : decode cX6_text 25 = .ok (.bipush (-100), 2) := by decide +kernel
theorem dX6_text_27 : decode cX6_text 27 = .ok (.iload_n 1, 1) := by decide +kernel
theorem dX6_text_28 : decode cX6_text 28 = .ok (.isub, 1) := by decide +kernel
theorem dX6_text_29 : decode cX6_text 29 = .ok (.ireturn, 1) := by decide +kernel
theorem dX6_text_30 : decode cX6_text 30 = .ok (.aload_n 0, 1) := by decide +kernel
theorem dX6_text_31 : decode cX6_text 31 = .ok (.getfield 21, 3) := by decide +kernel
theorem dX6_text_34 : decode cX6_text 34 = .ok (.getfield 220, 3) := by decide +kernel
theorem dX6_text_37 : decode cX6_text 37 = .ok (.istore_n 2, 1) := by decide +kernel
theorem dX6_text_38 : decode cX6_text 38 = .ok (.iload_n 2, 1) := by decide +kernel
theorem dX6_text_39 : decode cX6_text 39 = .ok (.bipush 14, 2) := by decide +kernel
theorem dX6_text_41 : decode cX6_text 41 = .ok (.if_icmp .lt 6, 3) := by decide +kernel
theorem dX6_text_44 : decode cX6_text 44 = .ok (.ldc 79, 2) := by decide +kernel
theorem dX6_text_46 : decode cX6_text 46 = .ok (.ireturn, 1) := by decide +kernel
theorem dX6_text_47 : decode cX6_text 47 = .ok (.aload_n 0, 1) := by decide +kernel
theorem dX6_text_48 : decode cX6_text 48 = .ok (.getfield 10, 3) := by decide +kernel
theorem dX6_text_51 : decode cX6_text 51 = .ok (.getfield 223, 3) := by decide +kernel
theorem dX6_text_54 : decode cX6_text 54 = .ok (.iload_n 2, 1) := by decide +kernel
theorem dX6_text_55 : decode cX6_text 55 = .ok (.aload_n 0, 1) := by decide +kernel
theorem dX6_text_56 : decode cX6_text 56 = .ok (.getfield 34, 3) := by decide +kernel
theorem dX6_text_59 : decode cX6_text 59 = .ok (.invokevirtual 226, 3) := by decide +kernel
theorem dX6_text_62 : decode cX6_text 62 = .ok (.aastore, 1) := by decide +kernel
theorem dX6_text_63 : decode cX6_text 63 = .ok (.aload_n 0, 1) := by decide +kernel
theorem dX6_text_64 : decode cX6_text 64 = .ok (.getfield 21, 3) := by decide +kernel
theorem dX6_text_67 : decode cX6_text 67 = .ok (.getfield 230, 3) := by decide +kernel
theorem dX6_text_70 : decode cX6_text 70 = .ok (.aload_n 0, 1) := by decide +kernel
theorem dX6_text_71 : decode cX6_text 71 = .ok (.getfield 34, 3) := by decide +kernel
theorem dX6_text_74 : decode cX6_text 74 = .ok (.getfield 233, 3) := by decide +kernel
theorem dX6_text_77 : decode cX6_text 77 = .ok (.iload_n 2, 1) := by decide +kernel
theorem dX6_text_78 : decode cX6_text 78 = .ok (.iastore, 1) := by decide +kernel
theorem dX6_text_79 : decode cX6_text 79 = .ok (.aload_n 0, 1) := by decide +kernel
theorem dX6_text_80 : decode cX6_text 80 = .ok (.getfield 21, 3) := by decide +kernel
theorem dX6_text_83 : decode cX6_text 83 = .ok (.iload_n 2, 1) := by decide +kernel
theorem dX6_text_84 : decode cX6_text 84 = .ok (.iconst 1, 1) := by decide +kernel
theorem dX6_text_85 : decode cX6_text 85 = .ok (.iadd, 1) := by decide +kernel
theorem dX6_text_86 : decode cX6_text 86 = .ok (.putfield 220, 3) := by decide +kernel
theorem dX6_text_89 : decode cX6_text 89 = .ok (.iload_n 2, 1) := by decide +kernel
theorem dX6_text_90 : decode cX6_text 90 = .ok (.ireturn, 1) := by decide +kernel
theorem dX6_textTold_0 : decode cX6_textTold 0 = .ok (.iload_n 1, 1) := by decide +kernel
theorem dX6_textTold_1 : decode cX6_textTold 1 = .ok (.aload_n 0, 1) := by decide +kernel
theorem dX6_textTold_2 : decode cX6_textTold 2 = .ok (.getfield 21, 3) := by decide +kernel
theorem dX6_textTold_5 : decode cX6_textTold 5 = .ok (.getfield 220, 3) := by decide +kernel
theorem dX6_textTold_8 : decode cX6_textTold 8 = .ok (.if_icmp .ge 14, 3) := by decide +kernel
theorem dX6_textTold_11 : decode cX6_textTold 11 = .ok (.aload_n 0, 1) := by decide +kernel
theorem dX6_textTold_12 : decode cX6_textTold 12 = .ok (.getfield 10, 3) := by decide +kernel
theorem dX6_textTold_15 : decode cX6_textTold 15 = .ok (.iload_n 1, 1) := by decide +kernel
theorem dX6_textTold_16 : decode cX6_textTold 16 = .ok (.invokevirtual 236, 3) := by decide +kernel
theorem dX6_textTold_19 : decode cX6_textTold 19 = .ok (.goto 4, 3) := by decide +kernel
theorem dX6_textTold_22 : decode cX6_textTold 22 = .ok (.aconst_null, 1) := by decide +kernel
theorem dX6_textTold_23 : decode cX6_textTold 23 = .ok (.astore_n 3, 1) := by decide +kernel
theorem dX6_textTold_24 : decode cX6_textTold 24 = .ok (.aload_n 3, 1) := by decide +kernel
theorem dX6_textTold_25 : decode cX6_textTold 25 = .ok (.ifnull 11, 3) := by decide +kernel
theorem dX6_textTold_28 : decode cX6_textTold 28 = .ok (.iload_n 2, 1) := by decide +kernel
theorem dX6_textTold_29 : decode cX6_textTold 29 = .ok (.iconst 1, 1) := by decide +kernel
theorem dX6_textTold_30 : decode cX6_textTold 30 = .ok (.invokestatic 66, 3) := by decide +kernel
theorem dX6_textTold_33 : decode cX6_textTold 33 = .ok (.ifCond .ne 6, 3) := by decide +kernel
theorem dX6_textTold_36 : decode cX6_textTold 36 = .ok (.ldc 70, 2) := by decide +kernel
theorem dX6_textTold_38 : decode cX6_textTold 38 = .ok (.ireturn, 1) := by decide +kernel
theorem dX6_textTold_39 : decode cX6_textTold 39 = .ok (.iload_n 2, 1) := by decide +kernel
theorem dX6_textTold_40 : decode cX6_textTold 40 = .ok (.ifCond .ne 10, 3) := by decide +kernel
theorem dX6_textTold_43 : decode cX6_textTold 43 = .ok (.aload_n 3, 1) := by decide +kernel
theorem dX6_textTold_44 : decode cX6_textTold 44 = .ok (.getfield 240, 3) := by decide +kernel
theorem dX6_textTold_47 : decode cX6_textTold 47 = .ok (.goto 7, 3) := by decide +kernel
theorem dX6_textTold_50 : decode cX6_textTold 50 = .ok (.aload_n 3, 1) := by decide +kernel
theorem dX6_textTold_51 : decode cX6_textTold 51 = .ok (.getfield 243, 3) := by decide +kernel
theorem dX6_textTold_54 : decode cX6_textTold 54 = .ok (.ireturn, 1) := by decide +kernel
theorem dX6_why_0 : decode cX6_why 0 = .ok (.iload_n 1, 1) := by decide +kernel
theorem dX6_why_1 : decode cX6_why 1 = .ok (.ifCond .lt 20, 3) := by decide +kernel
theorem dX6_why_4 : decode cX6_why 4 = .ok (.iload_n 1, 1) := by decide +kernel
theorem dX6_why_5 : decode cX6_why 5 = .ok (.iconst 3, 1) := by decide +kernel
theorem dX6_why_6 : decode cX6_why 6 = .ok (.if_icmp .ge 15, 3) := by decide +kernel
theorem dX6_why_9 : decode cX6_why 9 = .ok (.aload_n 0, 1) := by decide +kernel
theorem dX6_why_10 : decode cX6_why 10 = .ok (.getfield 21, 3) := by decide +kernel
theorem dX6_why_13 : decode cX6_why 13 = .ok (.getfield 230, 3) := by decide +kernel
theorem dX6_why_16 : decode cX6_why 16 = .ok (.iload_n 1, 1) := by decide +kernel
theorem dX6_why_17 : decode cX6_why 17 = .ok (.iaload, 1) := by decide +kernel
theorem dX6_why_18 : decode cX6_why 18 = .ok (.goto 5, 3) := by decide +kernel
theorem dX6_why_21 : decode cX6_why 21 = .ok (.ldc 70, 2) := by decide +kernel
theorem dX6_why_23 : decode cX6_why 23 = .ok (.ireturn, 1) := by decide +kernel
theorem dX6_sheet_0 : decode cX6_sheet 0 = .ok (.aload_n 0, 1) := by decide +kernel
theorem dX6_sheet_1 : decode cX6_sheet 1 = .ok (.iload_n 1, 1) := by decide +kernel
theorem dX6_sheet_2 : decode cX6_sheet 2 = .ok (.invokevirtual 192, 3) := by decide +kernel
theorem dX6_sheet_5 : decode cX6_sheet 5 = .ok (.astore 4, 2) := by decide +kernel
theorem dX6_sheet_7 : decode cX6_sheet 7 = .ok (.aload 4, 2) := by decide +kernel
theorem dX6_sheet_9 : decode cX6_sheet 9 = .ok (.ifnull 13, 3) := by decide +kernel
theorem dX6_sheet_12 : decode cX6_sheet 12 = .ok (.iload_n 2, 1) := by decide +kernel
theorem dX6_sheet_13 : decode cX6_sheet 13 = .ok (.iconst (-1), 1) := by decide +kernel
theorem dX6_sheet_14 : decode cX6_sheet 14 = .ok (.if_icmp .lt 8, 3) := by decide +kernel
theorem dX6_sheet_17 : decode cX6_sheet 17 = .ok (.iload_n 2, 1) := by decide +kernel
theorem dX6_sheet_18 : decode cX6_sheet 18 = .ok (.iconst 1, 1) := by decide +kernel
theorem dX6_sheet_19 : decode cX6_sheet 19 = .ok (.if_icmp .le 6, 3) := by decide +kernel
theorem dX6_sheet_22 : decode cX6_sheet 22 = .ok (.ldc 70, 2) := by decide +kernel
theorem dX6_sheet_24 : decode cX6_sheet 24 = .ok (.ireturn, 1) := by decide +kernel
theorem dX6_sheet_25 : decode cX6_sheet 25 = .ok (.iload_n 2, 1) := by decide +kernel
theorem dX6_sheet_26 : decode cX6_sheet 26 = .ok (.iconst (-1), 1) := by decide +kernel
theorem dX6_sheet_27 : decode cX6_sheet 27 = .ok (.if_icmp .ne 7, 3) := by decide +kernel
theorem dX6_sheet_30 : decode cX6_sheet 30 = .ok (.iconst 0, 1) := by decide +kernel
theorem dX6_sheet_31 : decode cX6_sheet 31 = .ok (.goto 4, 3) := by decide +kernel
theorem dX6_sheet_34 : decode cX6_sheet 34 = .ok (.iload_n 3, 1) := by decide +kernel
theorem dX6_sheet_35 : decode cX6_sheet 35 = .ok (.istore 5, 2) := by decide +kernel
theorem dX6_sheet_37 : decode cX6_sheet 37 = .ok (.iload 5, 2) := by decide +kernel
theorem dX6_sheet_39 : decode cX6_sheet 39 = .ok (.bipush 24, 2) := by decide +kernel
theorem dX6_sheet_41 : decode cX6_sheet 41 = .ok (.if_icmp .le 6, 3) := by decide +kernel
theorem dX6_sheet_44 : decode cX6_sheet 44 = .ok (.ldc 70, 2) := by decide +kernel
theorem dX6_sheet_46 : decode cX6_sheet 46 = .ok (.ireturn, 1) := by decide +kernel
theorem dX6_sheet_47 : decode cX6_sheet 47 = .ok (.iload 5, 2) := by decide +kernel
theorem dX6_sheet_49 : decode cX6_sheet 49 = .ok (.ifCond .ge 6, 3) := by decide +kernel
theorem dX6_sheet_52 : decode cX6_sheet 52 = .ok (.ldc 246, 2) := by decide +kernel
theorem dX6_sheet_54 : decode cX6_sheet 54 = .ok (.ireturn, 1) := by decide +kernel
theorem dX6_sheet_55 : decode cX6_sheet 55 = .ok (.aload 4, 2) := by decide +kernel
theorem dX6_sheet_57 : decode cX6_sheet 57 = .ok (.iload_n 2, 1) := by decide +kernel
theorem dX6_sheet_58 : decode cX6_sheet 58 = .ok (.iload 5, 2) := by decide +kernel
theorem dX6_sheet_60 : decode cX6_sheet 60 = .ok (.invokevirtual 247, 3) := by decide +kernel
theorem dX6_sheet_63 : decode cX6_sheet 63 = .ok (.iload 5, 2) := by decide +kernel
theorem dX6_sheet_65 : decode cX6_sheet 65 = .ok (.ireturn, 1) := by decide +kernel
theorem dX6_mark_0 : decode cX6_mark 0 = .ok (.aload_n 0, 1) := by decide +kernel
theorem dX6_mark_1 : decode cX6_mark 1 = .ok (.iload_n 1, 1) := by decide +kernel
theorem dX6_mark_2 : decode cX6_mark 2 = .ok (.invokevirtual 192, 3) := by decide +kernel
theorem dX6_mark_5 : decode cX6_mark 5 = .ok (.astore 4, 2) := by decide +kernel
theorem dX6_mark_7 : decode cX6_mark 7 = .ok (.aload 4, 2) := by decide +kernel
theorem dX6_mark_9 : decode cX6_mark 9 = .ok (.ifnonnull 6, 3) := by decide +kernel
theorem dX6_mark_12 : decode cX6_mark 12 = .ok (.ldc 70, 2) := by decide +kernel
theorem dX6_mark_14 : decode cX6_mark 14 = .ok (.ireturn, 1) := by decide +kernel
theorem dX6_mark_15 : decode cX6_mark 15 = .ok (.aload 4, 2) := by decide +kernel
theorem dX6_mark_17 : decode cX6_mark 17 = .ok (.getfield 196, 3) := by decide +kernel
theorem dX6_mark_20 : decode cX6_mark 20 = .ok (.iconst (-1), 1) := by decide +kernel
theorem dX6_mark_21 : decode cX6_mark 21 = .ok (.if_icmp .ne 6, 3) := by decide +kernel
theorem dX6_mark_24 : decode cX6_mark 24 = .ok (.ldc 199, 2) := by decide +kernel
theorem dX6_mark_26 : decode cX6_mark 26 = .ok (.ireturn, 1) := by decide +kernel
theorem dX6_mark_27 : decode cX6_mark 27 = .ok (.aload 4, 2) := by decide +kernel
theorem dX6_mark_29 : decode cX6_mark 29 = .ok (.iload_n 2, 1) := by decide +kernel
theorem dX6_mark_30 : decode cX6_mark 30 = .ok (.invokevirtual 251, 3) := by decide +kernel
theorem dX6_mark_33 : decode cX6_mark 33 = .ok (.ifCond .ne 6, 3) := by decide +kernel
theorem dX6_mark_36 : decode cX6_mark 36 = .ok (.ldc 252, 2) := by decide +kernel
theorem dX6_mark_38 : decode cX6_mark 38 = .ok (.ireturn, 1) := by decide +kernel
theorem dX6_mark_39 : decode cX6_mark 39 = .ok (.aload 4, 2) := by decide +kernel
theorem dX6_mark_41 : decode cX6_mark 41 = .ok (.getfield 196, 3) := by decide +kernel
theorem dX6_mark_44 : decode cX6_mark 44 = .ok (.ifCond .ne 23, 3) := by decide +kernel
theorem dX6_mark_47 : decode cX6_mark 47 = .ok (.iload_n 3, 1) := by decide +kernel
theorem dX6_mark_48 : decode cX6_mark 48 = .ok (.ldc 171, 2) := by decide +kernel
theorem dX6_mark_50 : decode cX6_mark 50 = .ok (.if_icmp .ne 6, 3) := by decide +kernel
theorem dX6_mark_53 : decode cX6_mark 53 = .ok (.ldc 114, 2) := by decide +kernel
theorem dX6_mark_55 : decode cX6_mark 55 = .ok (.ireturn, 1) := by decide +kernel
theorem dX6_mark_56 : decode cX6_mark 56 = .ok (.aload 4, 2) := by decide +kernel
theorem dX6_mark_58 : decode cX6_mark 58 = .ok (.getfield 253, 3) := by decide +kernel
theorem dX6_mark_61 : decode cX6_mark 61 = .ok (.iload_n 2, 1) := by decide +kernel
theorem dX6_mark_62 : decode cX6_mark 62 = .ok (.iload_n 3, 1) := by decide +kernel
theorem dX6_mark_63 : decode cX6_mark 63 = .ok (.i2s, 1) := by decide +kernel
theorem dX6_mark_64 : decode cX6_mark 64 = .ok (.iastore, 1) := by decide +kernel
theorem dX6_mark_65 : decode cX6_mark 65 = .ok (.iconst 1, 1) := by decide +kernel
theorem dX6_mark_66 : decode cX6_mark 66 = .ok (.ireturn, 1) := by decide +kernel
theorem dX6_mark_67 : decode cX6_mark 67 = .ok (.iload_n 3, 1) := by decide +kernel
theorem dX6_mark_68 : decode cX6_mark 68 = .ok (.ldc 171, 2) := by decide +kernel
theorem dX6_mark_70 : decode cX6_mark 70 = .ok (.if_icmp .eq 19, 3) := by decide +kernel
theorem dX6_mark_73 : decode cX6_mark 73 = .ok (.iload_n 3, 1) := by decide +kernel
theorem dX6_mark_74 : decode cX6_mark 74 = .ok (.ldc_w 256, 3) := by decide +kernel
theorem dX6_mark_77 : decode cX6_mark 77 = .ok (.if_icmp .lt 9, 3) := by decide +kernel
theorem dX6_mark_80 : decode cX6_mark 80 = .ok (.iload_n 3, 1) := by decide +kernel
theorem dX6_mark_81 : decode cX6_mark 81 = .ok (.ldc 191, 2) := by decide +kernel
theorem dX6_mark_83 : decode cX6_mark 83 = .ok (.if_icmp .le 6, 3) := by decide +kernel
theorem dX6_mark_86 : decode cX6_mark 86 = .ok (.ldc 70, 2) := by decide +kernel
theorem dX6_mark_88 : decode cX6_mark 88 = .ok (.ireturn, 1) := by decide +kernel
theorem dX6_mark_89 : decode cX6_mark 89 = .ok (.aload 4, 2) := by decide +kernel
theorem dX6_mark_91 : decode cX6_mark 91 = .ok (.getfield 253, 3) := by decide +kernel
theorem dX6_mark_94 : decode cX6_mark 94 = .ok (.iload_n 2, 1) := by decide +kernel
theorem dX6_mark_95 : decode cX6_mark 95 = .ok (.iload_n 3, 1) := by decide +kernel
theorem dX6_mark_96 : decode cX6_mark 96 = .ok (.iastore, 1) := by decide +kernel
theorem dX6_mark_97 : decode cX6_mark 97 = .ok (.iconst 1, 1) := by decide +kernel
theorem dX6_mark_98 : decode cX6_mark 98 = .ok (.ireturn, 1) := by decide +kernel
theorem dX6_pour_0 : decode cX6_pour 0 = .ok (.aload_n 0, 1) := by decide +kernel
theorem dX6_pour_1 : decode cX6_pour 1 = .ok (.iload_n 1, 1) := by decide +kernel
theorem dX6_pour_2 : decode cX6_pour 2 = .ok (.invokevirtual 192, 3) := by decide +kernel
theorem dX6_pour_5 : decode cX6_pour 5 = .ok (.astore_n 2, 1) := by decide +kernel
theorem dX6_pour_6 : decode cX6_pour 6 = .ok (.aload_n 2, 1) := by decide +kernel
theorem dX6_pour_7 : decode cX6_pour 7 = .ok (.ifnonnull 6, 3) := by decide +kernel
theorem dX6_pour_10 : decode cX6_pour 10 = .ok (.ldc 70, 2) := by decide +kernel
theorem dX6_pour_12 : decode cX6_pour 12 = .ok (.ireturn, 1) := by decide +kernel
theorem dX6_pour_13 : decode cX6_pour 13 = .ok (.aload_n 2, 1) := by decide +kernel
theorem dX6_pour_14 : decode cX6_pour 14 = .ok (.getfield 196, 3) := by decide +kernel
theorem dX6_pour_17 : decode cX6_pour 17 = .ok (.iconst (-1), 1) := by decide +kernel
theorem dX6_pour_18 : decode cX6_pour 18 = .ok (.if_icmp .ne 6, 3) := by decide +kernel
theorem dX6_pour_21 : decode cX6_pour 21 = .ok (.ldc 199, 2) := by decide +kernel
theorem dX6_pour_23 : decode cX6_pour 23 = .ok (.ireturn, 1) := by decide +kernel
theorem dX6_pour_24 : decode cX6_pour 24 = .ok (.iconst 0, 1) := by decide +kernel
theorem dX6_pour_25 : decode cX6_pour 25 = .ok (.istore_n 3, 1) := by decide +kernel
theorem dX6_pour_26 : decode cX6_pour 26 = .ok (.iconst 0, 1) := by decide +kernel
theorem dX6_pour_27 : decode cX6_pour 27 = .ok (.istore 4, 2) := by decide +kernel
theorem dX6_pour_29 : decode cX6_pour 29 = .ok (.iload 4, 2) := by decide +kernel
theorem dX6_pour_31 : decode cX6_pour 31 = .ok (.aload_n 0, 1) := by decide +kernel
theorem dX6_pour_32 : decode cX6_pour 32 = .ok (.getfield 21, 3) := by decide +kernel
theorem dX6_pour_35 : decode cX6_pour 35 = .ok (.getfield 71, 3) := by decide +kernel
theorem dX6_pour_38 : decode cX6_pour 38 = .ok (.if_icmp .ge 66, 3) := by decide +kernel
theorem dX6_pour_41 : decode cX6_pour 41 = .ok (.iload 4, 2) := by decide +kernel
theorem dX6_pour_43 : decode cX6_pour 43 = .ok (.aload_n 2, 1) := by decide +kernel
theorem dX6_pour_44 : decode cX6_pour 44 = .ok (.getfield 257, 3) := by decide +kernel
theorem dX6_pour_47 : decode cX6_pour 47 = .ok (.if_icmp .ge 57, 3) := by decide +kernel
theorem dX6_pour_50 : decode cX6_pour 50 = .ok (.aload_n 2, 1) := by decide +kernel
theorem dX6_pour_51 : decode cX6_pour 51 = .ok (.iload 4, 2) := by decide +kernel
theorem dX6_pour_53 : decode cX6_pour 53 = .ok (.invokevirtual 260, 3) := by decide +kernel
theorem dX6_pour_56 : decode cX6_pour 56 = .ok (.ifCond .eq 42, 3) := by decide +kernel
theorem dX6_pour_59 : decode cX6_pour 59 = .ok (.aload_n 2, 1) := by decide +kernel
theorem dX6_pour_60 : decode cX6_pour 60 = .ok (.getfield 253, 3) := by decide +kernel
theorem dX6_pour_63 : decode cX6_pour 63 = .ok (.iload 4, 2) := by decide +kernel
theorem dX6_pour_65 : decode cX6_pour 65 = .ok (.iaload, 1) := by decide +kernel
theorem dX6_pour_66 : decode cX6_pour 66 = .ok (.invokestatic 263, 3) := by decide +kernel
theorem dX6_pour_69 : decode cX6_pour 69 = .ok (.istore 5, 2) := by decide +kernel
theorem dX6_pour_71 : decode cX6_pour 71 = .ok (.iload_n 3, 1) := by decide +kernel
theorem dX6_pour_72 : decode cX6_pour 72 = .ok (.aload_n 0, 1) := by decide +kernel
theorem dX6_pour_73 : decode cX6_pour 73 = .ok (.getfield 21, 3) := by decide +kernel
theorem dX6_pour_76 : decode cX6_pour 76 = .ok (.getfield 89, 3) := by decide +kernel
theorem dX6_pour_79 : decode cX6_pour 79 = .ok (.iload 4, 2) := by decide +kernel
theorem dX6_pour_81 : decode cX6_pour 81 = .ok (.iload 5, 2) := by decide +kernel
theorem dX6_pour_83 : decode cX6_pour 83 = .ok (.invokestatic 115, 3) := by decide +kernel
theorem dX6_pour_86 : decode cX6_pour 86 = .ok (.iload 5, 2) := by decide +kernel
theorem dX6_pour_88 : decode cX6_pour 88 = .ok (.if_icmp .ne 7, 3) := by decide +kernel
theorem dX6_pour_91 : decode cX6_pour 91 = .ok (.iconst 0, 1) := by decide +kernel
theorem dX6_pour_92 : decode cX6_pour 92 = .ok (.goto 4, 3) := by decide +kernel
theorem dX6_pour_95 : decode cX6_pour 95 = .ok (.iconst 1, 1) := by decide +kernel
theorem dX6_pour_96 : decode cX6_pour 96 = .ok (.iadd, 1) := by decide +kernel
theorem dX6_pour_97 : decode cX6_pour 97 = .ok (.istore_n 3, 1) := by decide +kernel
theorem dX6_pour_98 : decode cX6_pour 98 = .ok (.iinc 4 1, 3) := by decide +kernel
theorem dX6_pour_101 : decode cX6_pour 101 = .ok (.goto (-72), 3) := by decide +kernel
theorem dX6_pour_104 : decode cX6_pour 104 = .ok (.iload_n 3, 1) := by decide +kernel
theorem dX6_pour_105 : decode cX6_pour 105 = .ok (.ireturn, 1) := by decide +kernel
theorem dX6_reads_0 : decode cX6_reads 0 = .ok (.aload_n 0, 1) := by decide +kernel
theorem dX6_reads_1 : decode cX6_reads 1 = .ok (.iload_n 1, 1) := by decide +kernel
theorem dX6_reads_2 : decode cX6_reads 2 = .ok (.invokevirtual 192, 3) := by decide +kernel
theorem dX6_reads_5 : decode cX6_reads 5 = .ok (.astore_n 2, 1) := by decide +kernel
theorem dX6_reads_6 : decode cX6_reads 6 = .ok (.aload_n 2, 1) := by decide +kernel
theorem dX6_reads_7 : decode cX6_reads 7 = .ok (.ifnonnull 6, 3) := by decide +kernel
theorem dX6_reads_10 : decode cX6_reads 10 = .ok (.ldc 70, 2) := by decide +kernel
theorem dX6_reads_12 : decode cX6_reads 12 = .ok (.ireturn, 1) := by decide +kernel
theorem dX6_reads_13 : decode cX6_reads 13 = .ok (.aload_n 2, 1) := by decide +kernel
theorem dX6_reads_14 : decode cX6_reads 14 = .ok (.getfield 196, 3) := by decide +kernel
theorem dX6_reads_17 : decode cX6_reads 17 = .ok (.iconst (-1), 1) := by decide +kernel
theorem dX6_reads_18 : decode cX6_reads 18 = .ok (.if_icmp .ne 6, 3) := by decide +kernel
theorem dX6_reads_21 : decode cX6_reads 21 = .ok (.ldc 199, 2) := by decide +kernel
theorem dX6_reads_23 : decode cX6_reads 23 = .ok (.ireturn, 1) := by decide +kernel
theorem dX6_reads_24 : decode cX6_reads 24 = .ok (.iconst 0, 1) := by decide +kernel
theorem dX6_reads_25 : decode cX6_reads 25 = .ok (.istore_n 3, 1) := by decide +kernel
theorem dX6_reads_26 : decode cX6_reads 26 = .ok (.iload_n 3, 1) := by decide +kernel
theorem dX6_reads_27 : decode cX6_reads 27 = .ok (.aload_n 2, 1) := by decide +kernel
theorem dX6_reads_28 : decode cX6_reads 28 = .ok (.getfield 257, 3) := by decide +kernel
theorem dX6_reads_31 : decode cX6_reads 31 = .ok (.if_icmp .ge 48, 3) := by decide +kernel
theorem dX6_reads_34 : decode cX6_reads 34 = .ok (.aload_n 2, 1) := by decide +kernel
theorem dX6_reads_35 : decode cX6_reads 35 = .ok (.iload_n 3, 1) := by decide +kernel
theorem dX6_reads_36 : decode cX6_reads 36 = .ok (.invokevirtual 260, 3) := by decide +kernel
theorem dX6_reads_39 : decode cX6_reads 39 = .ok (.ifCond .eq 34, 3) := by decide +kernel
theorem dX6_reads_42 : decode cX6_reads 42 = .ok (.aload_n 0, 1) := by decide +kernel
theorem dX6_reads_43 : decode cX6_reads 43 = .ok (.getfield 21, 3) := by decide +kernel
theorem dX6_reads_46 : decode cX6_reads 46 = .ok (.iload_n 3, 1) := by decide +kernel
theorem dX6_reads_47 : decode cX6_reads 47 = .ok (.invokevirtual 80, 3) := by decide +kernel
theorem dX6_reads_50 : decode cX6_reads 50 = .ok (.ifCond .eq 21, 3) := by decide +kernel
theorem dX6_reads_53 : decode cX6_reads 53 = .ok (.aload_n 2, 1) := by decide +kernel
theorem dX6_reads_54 : decode cX6_reads 54 = .ok (.getfield 253, 3) := by decide +kernel
theorem dX6_reads_57 : decode cX6_reads 57 = .ok (.iload_n 3, 1) := by decide +kernel
theorem dX6_reads_58 : decode cX6_reads 58 = .ok (.iaload, 1) := by decide +kernel
theorem dX6_reads_59 : decode cX6_reads 59 = .ok (.aload_n 0, 1) := by decide +kernel
theorem dX6_reads_60 : decode cX6_reads 60 = .ok (.getfield 21, 3) := by decide +kernel
theorem dX6_reads_63 : decode cX6_reads 63 = .ok (.getfield 86, 3) := by decide +kernel
theorem dX6_reads_66 : decode cX6_reads 66 = .ok (.iload_n 3, 1) := by decide +kernel
theorem dX6_reads_67 : decode cX6_reads 67 = .ok (.iaload, 1) := by decide +kernel
theorem dX6_reads_68 : decode cX6_reads 68 = .ok (.if_icmp .eq 5, 3) := by decide +kernel
theorem dX6_reads_71 : decode cX6_reads 71 = .ok (.iload_n 3, 1) := by decide +kernel
theorem dX6_reads_72 : decode cX6_reads 72 = .ok (.ireturn, 1) := by decide +kernel
theorem dX6_reads_73 : decode cX6_reads 73 = .ok (.iinc 3 1, 3) := by decide +kernel
theorem dX6_reads_76 : decode cX6_reads 76 = .ok (.goto (-50), 3) := by decide +kernel
theorem dX6_reads_79 : decode cX6_reads 79 = .ok (.ldc 171, 2) := by decide +kernel
theorem dX6_reads_81 : decode cX6_reads 81 = .ok (.ireturn, 1) := by decide +kernel
theorem dX6_copy_0 : decode cX6_copy 0 = .ok (.aload_n 0, 1) := by decide +kernel
theorem dX6_copy_1 : decode cX6_copy 1 = .ok (.iload_n 1, 1) := by decide +kernel
theorem dX6_copy_2 : decode cX6_copy 2 = .ok (.invokevirtual 192, 3) := by decide +kernel
theorem dX6_copy_5 : decode cX6_copy 5 = .ok (.astore 6, 2) := by decide +kernel
theorem dX6_copy_7 : decode cX6_copy 7 = .ok (.aload_n 0, 1) := by decide +kernel
theorem dX6_copy_8 : decode cX6_copy 8 = .ok (.iload_n 3, 1) := by decide +kernel
theorem dX6_copy_9 : decode cX6_copy 9 = .ok (.invokevirtual 192, 3) := by decide +kernel
theorem dX6_copy_12 : decode cX6_copy 12 = .ok (.astore 7, 2) := by decide +kernel
theorem dX6_copy_14 : decode cX6_copy 14 = .ok (.aload 6, 2) := by decide +kernel
theorem dX6_copy_16 : decode cX6_copy 16 = .ok (.ifnull 8, 3) := by decide +kernel
theorem dX6_copy_19 : decode cX6_copy 19 = .ok (.aload 7, 2) := by decide +kernel
theorem dX6_copy_21 : decode cX6_copy 21 = .ok (.ifnonnull 6, 3) := by decide +kernel
theorem dX6_copy_24 : decode cX6_copy 24 = .ok (.ldc 70, 2) := by decide +kernel
theorem dX6_copy_26 : decode cX6_copy 26 = .ok (.ireturn, 1) := by decide +kernel
theorem dX6_copy_27 : decode cX6_copy 27 = .ok (.aload 6, 2) := by decide +kernel
theorem dX6_copy_29 : decode cX6_copy 29 = .ok (.getfield 196, 3) := by decide +kernel
theorem dX6_copy_32 : decode cX6_copy 32 = .ok (.iconst (-1), 1) := by decide +kernel
theorem dX6_copy_33 : decode cX6_copy 33 = .ok (.if_icmp .eq 12, 3) := by decide +kernel
theorem dX6_copy_36 : decode cX6_copy 36 = .ok (.aload 7, 2) := by decide +kernel
theorem dX6_copy_38 : decode cX6_copy 38 = .ok (.getfield 196, 3) := by decide +kernel
theorem dX6_copy_41 : decode cX6_copy 41 = .ok (.iconst (-1), 1) := by decide +kernel
theorem dX6_copy_42 : decode cX6_copy 42 = .ok (.if_icmp .ne 6, 3) := by decide +kernel
theorem dX6_copy_45 : decode cX6_copy 45 = .ok (.ldc 199, 2) := by decide +kernel
theorem dX6_copy_47 : decode cX6_copy 47 = .ok (.ireturn, 1) := by decide +kernel
theorem dX6_copy_48 : decode cX6_copy 48 = .ok (.aload 6, 2) := by decide +kernel
theorem dX6_copy_50 : decode cX6_copy 50 = .ok (.getfield 196, 3) := by decide +kernel
theorem dX6_copy_53 : decode cX6_copy 53 = .ok (.aload 7, 2) := by decide +kernel
theorem dX6_copy_55 : decode cX6_copy 55 = .ok (.getfield 196, 3) := by decide +kernel
theorem dX6_copy_58 : decode cX6_copy 58 = .ok (.if_icmp .eq 6, 3) := by decide +kernel
theorem dX6_copy_61 : decode cX6_copy 61 = .ok (.ldc 114, 2) := by decide +kernel
theorem dX6_copy_63 : decode cX6_copy 63 = .ok (.ireturn, 1) := by decide +kernel
theorem dX6_copy_64 : decode cX6_copy 64 = .ok (.aload 6, 2) := by decide +kernel
theorem dX6_copy_66 : decode cX6_copy 66 = .ok (.iload_n 2, 1) := by decide +kernel
theorem dX6_copy_67 : decode cX6_copy 67 = .ok (.iload 5, 2) := by decide +kernel
theorem dX6_copy_69 : decode cX6_copy 69 = .ok (.invokevirtual 266, 3) := by decide +kernel
theorem dX6_copy_72 : decode cX6_copy 72 = .ok (.ifCond .eq 15, 3) := by decide +kernel
theorem dX6_copy_75 : decode cX6_copy 75 = .ok (.aload 7, 2) := by decide +kernel
theorem dX6_copy_77 : decode cX6_copy 77 = .ok (.iload 4, 2) := by decide +kernel
theorem dX6_copy_79 : decode cX6_copy 79 = .ok (.iload 5, 2) := by decide +kernel
theorem dX6_copy_81 : decode cX6_copy 81 = .ok (.invokevirtual 266, 3) := by decide +kernel
theorem dX6_copy_84 : decode cX6_copy 84 = .ok (.ifCond .ne 6, 3) := by decide +kernel
theorem dX6_copy_87 : decode cX6_copy 87 = .ok (.ldc 252, 2) := by decide +kernel
theorem dX6_copy_89 : decode cX6_copy 89 = .ok (.ireturn, 1) := by decide +kernel
theorem dX6_copy_90 : decode cX6_copy 90 = .ok (.aload 6, 2) := by decide +kernel
theorem dX6_copy_92 : decode cX6_copy 92 = .ok (.getfield 253, 3) := by decide +kernel
theorem dX6_copy_95 : decode cX6_copy 95 = .ok (.iload_n 2, 1) := by decide +kernel
theorem dX6_copy_96 : decode cX6_copy 96 = .ok (.aload 7, 2) := by decide +kernel
theorem dX6_copy_98 : decode cX6_copy 98 = .ok (.getfield 253, 3) := by decide +kernel
theorem dX6_copy_101 : decode cX6_copy 101 = .ok (.iload 4, 2) := by decide +kernel
theorem dX6_copy_103 : decode cX6_copy 103 = .ok (.iload 5, 2) := by decide +kernel
theorem dX6_copy_105 : decode cX6_copy 105 = .ok (.invokestatic 269, 3) := by decide +kernel
theorem dX6_copy_108 : decode cX6_copy 108 = .ok (.iload 5, 2) := by decide +kernel
theorem dX6_copy_110 : decode cX6_copy 110 = .ok (.ireturn, 1) := by decide +kernel
theorem dX6_lay_0 : decode cX6_lay 0 = .ok (.aload_n 0, 1) := by decide +kernel
theorem dX6_lay_1 : decode cX6_lay 1 = .ok (.iload_n 1, 1) := by decide +kernel
theorem dX6_lay_2 : decode cX6_lay 2 = .ok (.invokevirtual 275, 3) := by decide +kernel
theorem dX6_lay_5 : decode cX6_lay 5 = .ok (.astore 4, 2) := by decide +kernel
theorem dX6_lay_7 : decode cX6_lay 7 = .ok (.aload 4, 2) := by decide +kernel
theorem dX6_lay_9 : decode cX6_lay 9 = .ok (.ifnull 12, 3) := by decide +kernel
theorem dX6_lay_12 : decode cX6_lay 12 = .ok (.iload_n 2, 1) := by decide +kernel
theorem dX6_lay_13 : decode cX6_lay 13 = .ok (.ifCond .lt 8, 3) := by decide +kernel
theorem dX6_lay_16 : decode cX6_lay 16 = .ok (.iload_n 2, 1) := by decide +kernel
theorem dX6_lay_17 : decode cX6_lay 17 = .ok (.iconst 3, 1) := by decide +kernel
theorem dX6_lay_18 : decode cX6_lay 18 = .ok (.if_icmp .le 6, 3) := by decide +kernel
theorem dX6_lay_21 : decode cX6_lay 21 = .ok (.ldc 70, 2) := by decide +kernel
theorem dX6_lay_23 : decode cX6_lay 23 = .ok (.ireturn, 1) := by decide +kernel
theorem dX6_lay_24 : decode cX6_lay 24 = .ok (.iload_n 2, 1) := by decide +kernel
theorem dX6_lay_25 : decode cX6_lay 25 = .ok (.iconst 1, 1) := by decide +kernel
theorem dX6_lay_26 : decode cX6_lay 26 = .ok (.if_icmp .ne 17, 3) := by decide +kernel
theorem dX6_lay_29 : decode cX6_lay 29 = .ok (.aload_n 0, 1) := by decide +kernel
theorem dX6_lay_30 : decode cX6_lay 30 = .ok (.getfield 21, 3) := by decide +kernel
theorem dX6_lay_33 : decode cX6_lay 33 = .ok (.iload_n 3, 1) := by decide +kernel
theorem dX6_lay_34 : decode cX6_lay 34 = .ok (.invokevirtual 80, 3) := by decide +kernel
theorem dX6_lay_37 : decode cX6_lay 37 = .ok (.ifCond .ne 6, 3) := by decide +kernel
theorem dX6_lay_40 : decode cX6_lay 40 = .ok (.ldc 70, 2) := by decide +kernel
theorem dX6_lay_42 : decode cX6_lay 42 = .ok (.ireturn, 1) := by decide +kernel
theorem dX6_lay_43 : decode cX6_lay 43 = .ok (.aload_n 0, 1) := by decide +kernel
theorem dX6_lay_44 : decode cX6_lay 44 = .ok (.iload_n 3, 1) := by decide +kernel
theorem dX6_lay_45 : decode cX6_lay 45 = .ok (.invokevirtual 192, 3) := by decide +kernel
theorem dX6_lay_48 : decode cX6_lay 48 = .ok (.astore 5, 2) := by decide +kernel
theorem dX6_lay_50 : decode cX6_lay 50 = .ok (.iload_n 2, 1) := by decide +kernel
theorem dX6_lay_51 : decode cX6_lay 51 = .ok (.iconst 2, 1) := by decide +kernel
theorem dX6_lay_52 : decode cX6_lay 52 = .ok (.if_icmp .ne 11, 3) := by decide +kernel
theorem dX6_lay_55 : decode cX6_lay 55 = .ok (.aload 5, 2) := by decide +kernel
theorem dX6_lay_57 : decode cX6_lay 57 = .ok (.ifnonnull 6, 3) := by decide +kernel
theorem dX6_lay_60 : decode cX6_lay 60 = .ok (.ldc 70, 2) := by decide +kernel
theorem dX6_lay_62 : decode cX6_lay 62 = .ok (.ireturn, 1) := by decide +kernel
theorem dX6_lay_63 : decode cX6_lay 63 = .ok (.iload_n 2, 1) := by decide +kernel
theorem dX6_lay_64 : decode cX6_lay 64 = .ok (.iconst 2, 1) := by decide +kernel
theorem dX6_lay_65 : decode cX6_lay 65 = .ok (.if_icmp .ne 15, 3) := by decide +kernel
theorem dX6_lay_68 : decode cX6_lay 68 = .ok (.aload 5, 2) := by decide +kernel
theorem dX6_lay_70 : decode cX6_lay 70 = .ok (.getfield 196, 3) := by decide +kernel
theorem dX6_lay_73 : decode cX6_lay 73 = .ok (.iconst (-1), 1) := by decide +kernel
theorem dX6_lay_74 : decode cX6_lay 74 = .ok (.if_icmp .ne 6, 3) := by decide +kernel
theorem dX6_lay_77 : decode cX6_lay 77 = .ok (.ldc 199, 2) := by decide +kernel
theorem dX6_lay_79 : decode cX6_lay 79 = .ok (.ireturn, 1) := by decide +kernel
theorem dX6_lay_80 : decode cX6_lay 80 = .ok (.aload 4, 2) := by decide +kernel
theorem dX6_lay_82 : decode cX6_lay 82 = .ok (.getfield 279, 3) := by decide +kernel
theorem dX6_lay_85 : decode cX6_lay 85 = .ok (.istore 6, 2) := by decide +kernel
theorem dX6_lay_87 : decode cX6_lay 87 = .ok (.aload 4, 2) := by decide +kernel
theorem dX6_lay_89 : decode cX6_lay 89 = .ok (.iload_n 2, 1) := by decide +kernel
theorem dX6_lay_90 : decode cX6_lay 90 = .ok (.putfield 279, 3) := by decide +kernel
theorem dX6_lay_93 : decode cX6_lay 93 = .ok (.iload_n 2, 1) := by decide +kernel
theorem dX6_lay_94 : decode cX6_lay 94 = .ok (.iconst 1, 1) := by decide +kernel
theorem dX6_lay_95 : decode cX6_lay 95 = .ok (.if_icmp .ne 16, 3) := by decide +kernel
theorem dX6_lay_98 : decode cX6_lay 98 = .ok (.aload 4, 2) := by decide +kernel
theorem dX6_lay_100 : decode cX6_lay 100 = .ok (.aload_n 0, 1) := by decide +kernel
theorem dX6_lay_101 : decode cX6_lay 101 = .ok (.getfield 21, 3) := by decide +kernel
theorem dX6_lay_104 : decode cX6_lay 104 = .ok (.iload_n 3, 1) := by decide +kernel
theorem dX6_lay_105 : decode cX6_lay 105 = .ok (.invokevirtual 282, 3) := by decide +kernel
theorem dX6_lay_108 : decode cX6_lay 108 = .ok (.goto 27, 3) := by decide +kernel
theorem dX6_lay_111 : decode cX6_lay 111 = .ok (.iload_n 2, 1) := by decide +kernel
theorem dX6_lay_112 : decode cX6_lay 112 = .ok (.iconst 2, 1) := by decide +kernel
theorem dX6_lay_113 : decode cX6_lay 113 = .ok (.if_icmp .ne 16, 3) := by decide +kernel
theorem dX6_lay_116 : decode cX6_lay 116 = .ok (.aload 4, 2) := by decide +kernel
theorem dX6_lay_118 : decode cX6_lay 118 = .ok (.getfield 286, 3) := by decide +kernel
theorem dX6_lay_121 : decode cX6_lay 121 = .ok (.aload 5, 2) := by decide +kernel
theorem dX6_lay_123 : decode cX6_lay 123 = .ok (.invokevirtual 290, 3) := by decide +kernel
theorem dX6_lay_126 : decode cX6_lay 126 = .ok (.goto 9, 3) := by decide +kernel
theorem dX6_lay_129 : decode cX6_lay 129 = .ok (.aload 4, 2) := by decide +kernel
theorem dX6_lay_131 : decode cX6_lay 131 = .ok (.iload_n 3, 1) := by decide +kernel
theorem dX6_lay_132 : decode cX6_lay 132 = .ok (.putfield 292, 3) := by decide +kernel
theorem dX6_lay_135 : decode cX6_lay 135 = .ok (.iload 6, 2) := by decide +kernel
theorem dX6_lay_137 : decode cX6_lay 137 = .ok (.ireturn, 1) := by decide +kernel
theorem dX6_ask_0 : decode cX6_ask 0 = .ok (.aload_n 0, 1) := by decide +kernel
theorem dX6_ask_1 : decode cX6_ask 1 = .ok (.iload_n 1, 1) := by decide +kernel
theorem dX6_ask_2 : decode cX6_ask 2 = .ok (.invokevirtual 275, 3) := by decide +kernel
theorem dX6_ask_5 : decode cX6_ask 5 = .ok (.astore_n 3, 1) := by decide +kernel
theorem dX6_ask_6 : decode cX6_ask 6 = .ok (.aload_n 3, 1) := by decide +kernel
theorem dX6_ask_7 : decode cX6_ask 7 = .ok (.ifnull 10, 3) := by decide +kernel
theorem dX6_ask_10 : decode cX6_ask 10 = .ok (.iload_n 2, 1) := by decide +kernel
theorem dX6_ask_11 : decode cX6_ask 11 = .ok (.invokestatic 62, 3) := by decide +kernel
theorem dX6_ask_14 : decode cX6_ask 14 = .ok (.ifCond .ne 6, 3) := by decide +kernel
theorem dX6_ask_17 : decode cX6_ask 17 = .ok (.ldc 70, 2) := by decide +kernel
theorem dX6_ask_19 : decode cX6_ask 19 = .ok (.ireturn, 1) := by decide +kernel
theorem dX6_ask_20 : decode cX6_ask 20 = .ok (.aload_n 3, 1) := by decide +kernel
theorem dX6_ask_21 : decode cX6_ask 21 = .ok (.getfield 279, 3) := by decide +kernel
theorem dX6_ask_24 : decode cX6_ask 24 = .ok (.ifCond .ne 6, 3) := by decide +kernel
theorem dX6_ask_27 : decode cX6_ask 27 = .ok (.ldc 199, 2) := by decide +kernel
theorem dX6_ask_29 : decode cX6_ask 29 = .ok (.ireturn, 1) := by decide +kernel
theorem dX6_ask_30 : decode cX6_ask 30 = .ok (.aload_n 3, 1) := by decide +kernel
theorem dX6_ask_31 : decode cX6_ask 31 = .ok (.getfield 279, 3) := by decide +kernel
theorem dX6_ask_34 : decode cX6_ask 34 = .ok (.iconst 1, 1) := by decide +kernel
theorem dX6_ask_35 : decode cX6_ask 35 = .ok (.if_icmp .ne 14, 3) := by decide +kernel
theorem dX6_ask_38 : decode cX6_ask 38 = .ok (.aload_n 3, 1) := by decide +kernel
theorem dX6_ask_39 : decode cX6_ask 39 = .ok (.getfield 295, 3) := by decide +kernel
theorem dX6_ask_42 : decode cX6_ask 42 = .ok (.iload_n 2, 1) := by decide +kernel
theorem dX6_ask_43 : decode cX6_ask 43 = .ok (.invokestatic 111, 3) := by decide +kernel
theorem dX6_ask_46 : decode cX6_ask 46 = .ok (.ifCond .ne 6, 3) := by decide +kernel
theorem dX6_ask_49 : decode cX6_ask 49 = .ok (.ldc 114, 2) := by decide +kernel
theorem dX6_ask_51 : decode cX6_ask 51 = .ok (.ireturn, 1) := by decide +kernel
theorem dX6_ask_52 : decode cX6_ask 52 = .ok (.aload_n 3, 1) := by decide +kernel
theorem dX6_ask_53 : decode cX6_ask 53 = .ok (.getfield 295, 3) := by decide +kernel
theorem dX6_ask_56 : decode cX6_ask 56 = .ok (.aload_n 3, 1) := by decide +kernel
theorem dX6_ask_57 : decode cX6_ask 57 = .ok (.getfield 298, 3) := by decide +kernel
theorem dX6_ask_60 : decode cX6_ask 60 = .ok (.aload_n 3, 1) := by decide +kernel
theorem dX6_ask_61 : decode cX6_ask 61 = .ok (.getfield 301, 3) := by decide +kernel
theorem dX6_ask_64 : decode cX6_ask 64 = .ok (.aload_n 3, 1) := by decide +kernel
theorem dX6_ask_65 : decode cX6_ask 65 = .ok (.getfield 304, 3) := by decide +kernel
theorem dX6_ask_68 : decode cX6_ask 68 = .ok (.invokestatic 108, 3) := by decide +kernel
theorem dX6_ask_71 : decode cX6_ask 71 = .ok (.ireturn, 1) := by decide +kernel
theorem dX6_item_0 : decode cX6_item 0 = .ok (.aload_n 0, 1) := by decide +kernel
theorem dX6_item_1 : decode cX6_item 1 = .ok (.iload_n 1, 1) := by decide +kernel
theorem dX6_item_2 : decode cX6_item 2 = .ok (.invokevirtual 275, 3) := by decide +kernel
theorem dX6_item_5 : decode cX6_item 5 = .ok (.astore_n 3, 1) := by decide +kernel
theorem dX6_item_6 : decode cX6_item 6 = .ok (.aload_n 3, 1) := by decide +kernel
theorem dX6_item_7 : decode cX6_item 7 = .ok (.ifnonnull 6, 3) := by decide +kernel
theorem dX6_item_10 : decode cX6_item 10 = .ok (.ldc 70, 2) := by decide +kernel
theorem dX6_item_12 : decode cX6_item 12 = .ok (.ireturn, 1) := by decide +kernel
theorem dX6_item_13 : decode cX6_item 13 = .ok (.aload_n 3, 1) := by decide +kernel
theorem dX6_item_14 : decode cX6_item 14 = .ok (.getfield 279, 3) := by decide +kernel
theorem dX6_item_17 : decode cX6_item 17 = .ok (.ifCond .ne 6, 3) := by decide +kernel
theorem dX6_item_20 : decode cX6_item 20 = .ok (.ldc 199, 2) := by decide +kernel
theorem dX6_item_22 : decode cX6_item 22 = .ok (.ireturn, 1) := by decide +kernel
theorem dX6_item_23 : decode cX6_item 23 = .ok (.aload_n 3, 1) := by decide +kernel
theorem dX6_item_24 : decode cX6_item 24 = .ok (.getfield 279, 3) := by decide +kernel
theorem dX6_item_27 : decode cX6_item 27 = .ok (.iconst 2, 1) := by decide +kernel
theorem dX6_item_28 : decode cX6_item 28 = .ok (.if_icmp .eq 6, 3) := by decide +kernel
theorem dX6_item_31 : decode cX6_item 31 = .ok (.ldc 114, 2) := by decide +kernel
theorem dX6_item_33 : decode cX6_item 33 = .ok (.ireturn, 1) := by decide +kernel
theorem dX6_item_34 : decode cX6_item 34 = .ok (.aload_n 3, 1) := by decide +kernel
theorem dX6_item_35 : decode cX6_item 35 = .ok (.getfield 286, 3) := by decide +kernel
theorem dX6_item_38 : decode cX6_item 38 = .ok (.iload_n 2, 1) := by decide +kernel
theorem dX6_item_39 : decode cX6_item 39 = .ok (.invokevirtual 251, 3) := by decide +kernel
theorem dX6_item_42 : decode cX6_item 42 = .ok (.ifCond .ne 6, 3) := by decide +kernel
theorem dX6_item_45 : decode cX6_item 45 = .ok (.ldc 252, 2) := by decide +kernel
theorem dX6_item_47 : decode cX6_item 47 = .ok (.ireturn, 1) := by decide +kernel
theorem dX6_item_48 : decode cX6_item 48 = .ok (.aload_n 3, 1) := by decide +kernel
theorem dX6_item_49 : decode cX6_item 49 = .ok (.getfield 286, 3) := by decide +kernel
theorem dX6_item_52 : decode cX6_item 52 = .ok (.iload_n 2, 1) := by decide +kernel
theorem dX6_item_53 : decode cX6_item 53 = .ok (.invokevirtual 260, 3) := by decide +kernel
theorem dX6_item_56 : decode cX6_item 56 = .ok (.ifCond .eq 15, 3) := by decide +kernel
theorem dX6_item_59 : decode cX6_item 59 = .ok (.aload_n 3, 1) := by decide +kernel
theorem dX6_item_60 : decode cX6_item 60 = .ok (.getfield 286, 3) := by decide +kernel
theorem dX6_item_63 : decode cX6_item 63 = .ok (.getfield 253, 3) := by decide +kernel
theorem dX6_item_66 : decode cX6_item 66 = .ok (.iload_n 2, 1) := by decide +kernel
theorem dX6_item_67 : decode cX6_item 67 = .ok (.iaload, 1) := by decide +kernel
theorem dX6_item_68 : decode cX6_item 68 = .ok (.goto 5, 3) := by decide +kernel
theorem dX6_item_71 : decode cX6_item 71 = .ok (.ldc 114, 2) := by decide +kernel
theorem dX6_item_73 : decode cX6_item 73 = .ok (.ireturn, 1) := by decide +kernel
theorem dX6_rest_0 : decode cX6_rest 0 = .ok (.aload_n 0, 1) := by decide +kernel
theorem dX6_rest_1 : decode cX6_rest 1 = .ok (.iload_n 1, 1) := by decide +kernel
theorem dX6_rest_2 : decode cX6_rest 2 = .ok (.invokevirtual 275, 3) := by decide +kernel
theorem dX6_rest_5 : decode cX6_rest 5 = .ok (.astore_n 3, 1) := by decide +kernel
theorem dX6_rest_6 : decode cX6_rest 6 = .ok (.aload_n 3, 1) := by decide +kernel
theorem dX6_rest_7 : decode cX6_rest 7 = .ok (.ifnonnull 6, 3) := by decide +kernel
theorem dX6_rest_10 : decode cX6_rest 10 = .ok (.ldc 70, 2) := by decide +kernel
theorem dX6_rest_12 : decode cX6_rest 12 = .ok (.ireturn, 1) := by decide +kernel
theorem dX6_rest_13 : decode cX6_rest 13 = .ok (.aload_n 3, 1) := by decide +kernel
theorem dX6_rest_14 : decode cX6_rest 14 = .ok (.getfield 279, 3) := by decide +kernel
theorem dX6_rest_17 : decode cX6_rest 17 = .ok (.ifCond .ne 6, 3) := by decide +kernel
theorem dX6_rest_20 : decode cX6_rest 20 = .ok (.ldc 199, 2) := by decide +kernel
theorem dX6_rest_22 : decode cX6_rest 22 = .ok (.ireturn, 1) := by decide +kernel
theorem dX6_rest_23 : decode cX6_rest 23 = .ok (.aload_n 3, 1) := by decide +kernel
theorem dX6_rest_24 : decode cX6_rest 24 = .ok (.getfield 279, 3) := by decide +kernel
theorem dX6_rest_27 : decode cX6_rest 27 = .ok (.iconst 3, 1) := by decide +kernel
theorem dX6_rest_28 : decode cX6_rest 28 = .ok (.if_icmp .eq 6, 3) := by decide +kernel
theorem dX6_rest_31 : decode cX6_rest 31 = .ok (.ldc 114, 2) := by decide +kernel
theorem dX6_rest_33 : decode cX6_rest 33 = .ok (.ireturn, 1) := by decide +kernel
theorem dX6_rest_34 : decode cX6_rest 34 = .ok (.iload_n 2, 1) := by decide +kernel
theorem dX6_rest_35 : decode cX6_rest 35 = .ok (.ifCond .ne 9, 3) := by decide +kernel
theorem dX6_rest_38 : decode cX6_rest 38 = .ok (.ldc_w 307, 3) := by decide +kernel
theorem dX6_rest_41 : decode cX6_rest 41 = .ok (.goto 9, 3) := by decide +kernel
theorem dX6_rest_44 : decode cX6_rest 44 = .ok (.aload_n 3, 1) := by decide +kernel
theorem dX6_rest_45 : decode cX6_rest 45 = .ok (.getfield 292, 3) := by decide +kernel
theorem dX6_rest_48 : decode cX6_rest 48 = .ok (.iload_n 2, 1) := by decide +kernel
theorem dX6_rest_49 : decode cX6_rest 49 = .ok (.irem, 1) := by decide +kernel
theorem dX6_rest_50 : decode cX6_rest 50 = .ok (.ireturn, 1) := by decide +kernel
theorem dX6_tell_0 : decode cX6_tell 0 = .ok (.aload_n 0, 1) := by decide +kernel
theorem dX6_tell_1 : decode cX6_tell 1 = .ok (.getfield 308, 3) := by decide +kernel
theorem dX6_tell_4 : decode cX6_tell 4 = .ok (.bipush 60, 2) := by decide +kernel
theorem dX6_tell_6 : decode cX6_tell 6 = .ok (.if_icmp .lt 6, 3) := by decide +kernel
theorem dX6_tell_9 : decode cX6_tell 9 = .ok (.ldc 79, 2) := by decide +kernel
theorem dX6_tell_11 : decode cX6_tell 11 = .ok (.ireturn, 1) := by decide +kernel
theorem dX6_tell_12 : decode cX6_tell 12 = .ok (.aload_n 0, 1) := by decide +kernel
theorem dX6_tell_13 : decode cX6_tell 13 = .ok (.getfield 54, 3) := by decide +kernel
theorem dX6_tell_16 : decode cX6_tell 16 = .ok (.aload_n 0, 1) := by decide +kernel
theorem dX6_tell_17 : decode cX6_tell 17 = .ok (.getfield 308, 3) := by decide +kernel
theorem dX6_tell_20 : decode cX6_tell 20 = .ok (.iload_n 1, 1) := by decide +kernel
theorem dX6_tell_21 : decode cX6_tell 21 = .ok (.iastore, 1) := by decide +kernel
theorem dX6_tell_22 : decode cX6_tell 22 = .ok (.aload_n 0, 1) := by decide +kernel
theorem dX6_tell_23 : decode cX6_tell 23 = .ok (.dup, 1) := by decide +kernel
theorem dX6_tell_24 : decode cX6_tell 24 = .ok (.getfield 308, 3) := by decide +kernel
theorem dX6_tell_27 : decode cX6_tell 27 = .ok (.iconst 1, 1) := by decide +kernel
theorem dX6_tell_28 : decode cX6_tell 28 = .ok (.iadd, 1) := by decide +kernel
theorem dX6_tell_29 : decode cX6_tell 29 = .ok (.putfield 308, 3) := by decide +kernel
theorem dX6_tell_32 : decode cX6_tell 32 = .ok (.aload_n 0, 1) := by decide +kernel
theorem dX6_tell_33 : decode cX6_tell 33 = .ok (.getfield 308, 3) := by decide +kernel
theorem dX6_tell_36 : decode cX6_tell 36 = .ok (.ireturn, 1) := by decide +kernel
theorem dX6_check_0 : decode cX6_check 0 = .ok (.aload_n 0, 1) := by decide +kernel
theorem dX6_check_1 : decode cX6_check 1 = .ok (.getfield 308, 3) := by decide +kernel
theorem dX6_check_4 : decode cX6_check 4 = .ok (.istore_n 2, 1) := by decide +kernel
theorem dX6_check_5 : decode cX6_check 5 = .ok (.aload_n 0, 1) := by decide +kernel
theorem dX6_check_6 : decode cX6_check 6 = .ok (.iconst 0, 1) := by decide +kernel
theorem dX6_check_7 : decode cX6_check 7 = .ok (.putfield 308, 3) := by decide +kernel
theorem dX6_check_10 : decode cX6_check 10 = .ok (.iload_n 1, 1) := by decide +kernel
theorem dX6_check_11 : decode cX6_check 11 = .ok (.iconst 1, 1) := by decide +kernel
theorem dX6_check_12 : decode cX6_check 12 = .ok (.if_icmp .lt 9, 3) := by decide +kernel
theorem dX6_check_15 : decode cX6_check 15 = .ok (.iload_n 1, 1) := by decide +kernel
theorem dX6_check_16 : decode cX6_check 16 = .ok (.bipush 30, 2) := by decide +kernel
theorem dX6_check_18 : decode cX6_check 18 = .ok (.if_icmp .le 6, 3) := by decide +kernel
theorem dX6_check_21 : decode cX6_check 21 = .ok (.ldc 70, 2) := by decide +kernel
theorem dX6_check_23 : decode cX6_check 23 = .ok (.ireturn, 1) := by decide +kernel
theorem dX6_check_24 : decode cX6_check 24 = .ok (.aload_n 0, 1) := by decide +kernel
theorem dX6_check_25 : decode cX6_check 25 = .ok (.getfield 311, 3) := by decide +kernel
theorem dX6_check_28 : decode cX6_check 28 = .ok (.ifCond .ne 7, 3) := by decide +kernel
theorem dX6_check_31 : decode cX6_check 31 = .ok (.ldc_w 307, 3) := by decide +kernel
theorem dX6_check_34 : decode cX6_check 34 = .ok (.ireturn, 1) := by decide +kernel
theorem dX6_check_35 : decode cX6_check 35 = .ok (.iconst 2, 1) := by decide +kernel
theorem dX6_check_36 : decode cX6_check 36 = .ok (.iload_n 1, 1) := by decide +kernel
theorem dX6_check_37 : decode cX6_check 37 = .ok (.sipush 9999, 3) := by decide +kernel
theorem dX6_check_40 : decode cX6_check 40 = .ok (.aload_n 0, 1) := by decide +kernel
theorem dX6_check_41 : decode cX6_check 41 = .ok (.getfield 25, 3) := by decide +kernel
theorem dX6_check_44 : decode cX6_check 44 = .ok (.getfield 149, 3) := by decide +kernel
theorem dX6_check_47 : decode cX6_check 47 = .ok (.isub, 1) := by decide +kernel
theorem dX6_check_48 : decode cX6_check 48 = .ok (.invokestatic 125, 3) := by decide +kernel
theorem dX6_check_51 : decode cX6_check 51 = .ok (.imul, 1) := by decide +kernel
theorem dX6_check_52 : decode cX6_check 52 = .ok (.istore_n 3, 1) := by decide +kernel
theorem dX6_check_53 : decode cX6_check 53 = .ok (.aload_n 0, 1) := by decide +kernel
theorem dX6_check_54 : decode cX6_check 54 = .ok (.getfield 28, 3) := by decide +kernel
theorem dX6_check_57 : decode cX6_check 57 = .ok (.aload_n 0, 1) := by decide +kernel
theorem dX6_check_58 : decode cX6_check 58 = .ok (.getfield 25, 3) := by decide +kernel
theorem dX6_check_61 : decode cX6_check 61 = .ok (.invokevirtual 167, 3) := by decide +kernel
theorem dX6_check_64 : decode cX6_check 64 = .ok (.iconst 0, 1) := by decide +kernel
theorem dX6_check_65 : decode cX6_check 65 = .ok (.istore 4, 2) := by decide +kernel
theorem dX6_check_67 : decode cX6_check 67 = .ok (.iload 4, 2) := by decide +kernel
theorem dX6_check_69 : decode cX6_check 69 = .ok (.iload_n 3, 1) := by decide +kernel
theorem dX6_check_70 : decode cX6_check 70 = .ok (.if_icmp .ge 87, 3) := by decide +kernel
theorem dX6_check_73 : decode cX6_check 73 = .ok (.iload 4, 2) := by decide +kernel
theorem dX6_check_75 : decode cX6_check 75 = .ok (.iconst 2, 1) := by decide +kernel
theorem dX6_check_76 : decode cX6_check 76 = .ok (.irem, 1) := by decide +kernel
theorem dX6_check_77 : decode cX6_check 77 = .ok (.ifCond .ne 11, 3) := by decide +kernel
theorem dX6_check_80 : decode cX6_check 80 = .ok (.aload_n 0, 1) := by decide +kernel
theorem dX6_check_81 : decode cX6_check 81 = .ok (.getfield 28, 3) := by decide +kernel
theorem dX6_check_84 : decode cX6_check 84 = .ok (.iconst 1, 1) := by decide +kernel
theorem dX6_check_85 : decode cX6_check 85 = .ok (.invokevirtual 152, 3) := by decide +kernel
theorem dX6_check_88 : decode cX6_check 88 = .ok (.iload 4, 2) := by decide +kernel
theorem dX6_check_90 : decode cX6_check 90 = .ok (.iconst 2, 1) := by decide +kernel
theorem dX6_check_91 : decode cX6_check 91 = .ok (.irem, 1) := by decide +kernel
theorem dX6_check_92 : decode cX6_check 92 = .ok (.ifCond .ne 13, 3) := by decide +kernel
theorem dX6_check_95 : decode cX6_check 95 = .ok (.aload_n 0, 1) := by decide +kernel
theorem dX6_check_96 : decode cX6_check 96 = .ok (.getfield 28, 3) := by decide +kernel
theorem dX6_check_99 : decode cX6_check 99 = .ok (.getfield 146, 3) := by decide +kernel
theorem dX6_check_102 : decode cX6_check 102 = .ok (.goto 17, 3) := by decide +kernel
theorem dX6_check_105 : decode cX6_check 105 = .ok (.aload_n 0, 1) := by decide +kernel
theorem dX6_check_106 : decode cX6_check 106 = .ok (.getfield 28, 3) := by decide +kernel
theorem dX6_check_109 : decode cX6_check 109 = .ok (.aload_n 0, 1) := by decide +kernel
theorem dX6_check_110 : decode cX6_check 110 = .ok (.getfield 28, 3) := by decide +kernel
theorem dX6_check_113 : decode cX6_check 113 = .ok (.getfield 92, 3) := by decide +kernel
theorem dX6_check_116 : decode cX6_check 116 = .ok (.invokevirtual 160, 3) := by decide +kernel
theorem dX6_check_119 : decode cX6_check 119 = .ok (.istore 5, 2) := by decide +kernel
theorem dX6_check_121 : decode cX6_check 121 = .ok (.iload 4, 2) := by decide +kernel
theorem dX6_check_123 : decode cX6_check 123 = .ok (.iload_n 2, 1) := by decide +kernel
theorem dX6_check_124 : decode cX6_check 124 = .ok (.if_icmp .ge 22, 3) := by decide +kernel
theorem dX6_check_127 : decode cX6_check 127 = .ok (.iload 4, 2) := by decide +kernel
theorem dX6_check_129 : decode cX6_check 129 = .ok (.bipush 60, 2) := by decide +kernel
theorem dX6_check_131 : decode cX6_check 131 = .ok (.if_icmp .ge 15, 3) := by decide +kernel
theorem dX6_check_134 : decode cX6_check 134 = .ok (.aload_n 0, 1) := by decide +kernel
theorem dX6_check_135 : decode cX6_check 135 = .ok (.getfield 54, 3) := by decide +kernel
theorem dX6_check_138 : decode cX6_check 138 = .ok (.iload 4, 2) := by decide +kernel
theorem dX6_check_140 : decode cX6_check 140 = .ok (.iaload, 1) := by decide +kernel
theorem dX6_check_141 : decode cX6_check 141 = .ok (.iload 5, 2) := by decide +kernel
theorem dX6_check_143 : decode cX6_check 143 = .ok (.if_icmp .eq 8, 3) := by decide +kernel
theorem dX6_check_146 : decode cX6_check 146 = .ok (.iconst 1, 1) := by decide +kernel
theorem dX6_check_147 : decode cX6_check 147 = .ok (.iload 4, 2) := by decide +kernel
theorem dX6_check_149 : decode cX6_check 149 = .ok (.iadd, 1) := by decide +kernel
theorem dX6_check_150 : decode cX6_check 150 = .ok (.ireturn, 1) := by decide +kernel
theorem dX6_check_151 : decode cX6_check 151 = .ok (.iinc 4 1, 3) := by decide +kernel
theorem dX6_check_154 : decode cX6_check 154 = .ok (.goto (-87), 3) := by decide +kernel
theorem dX6_check_157 : decode cX6_check 157 = .ok (.iload_n 2, 1) := by decide +kernel
theorem dX6_check_158 : decode cX6_check 158 = .ok (.iload_n 3, 1) := by decide +kernel
theorem dX6_check_159 : decode cX6_check 159 = .ok (.if_icmp .le 9, 3) := by decide +kernel
theorem dX6_check_162 : decode cX6_check 162 = .ok (.iconst 1, 1) := by decide +kernel
theorem dX6_check_163 : decode cX6_check 163 = .ok (.iload_n 3, 1) := by decide +kernel
theorem dX6_check_164 : decode cX6_check 164 = .ok (.iadd, 1) := by decide +kernel
theorem dX6_check_165 : decode cX6_check 165 = .ok (.goto 4, 3) := by decide +kernel
theorem dX6_check_168 : decode cX6_check 168 = .ok (.iconst 0, 1) := by decide +kernel
theorem dX6_check_169 : decode cX6_check 169 = .ok (.ireturn, 1) := by decide +kernel
theorem dX6_keep_0 : decode cX6_keep 0 = .ok (.aload_n 0, 1) := by decide +kernel
theorem dX6_keep_1 : decode cX6_keep 1 = .ok (.getfield 25, 3) := by decide +kernel
theorem dX6_keep_4 : decode cX6_keep 4 = .ok (.aload_n 0, 1) := by decide +kernel
theorem dX6_keep_5 : decode cX6_keep 5 = .ok (.getfield 21, 3) := by decide +kernel
theorem dX6_keep_8 : decode cX6_keep 8 = .ok (.invokevirtual 167, 3) := by decide +kernel
theorem dX6_keep_11 : decode cX6_keep 11 = .ok (.aload_n 0, 1) := by decide +kernel
theorem dX6_keep_12 : decode cX6_keep 12 = .ok (.iconst 1, 1) := by decide +kernel
theorem dX6_keep_13 : decode cX6_keep 13 = .ok (.putfield 311, 3) := by decide +kernel
theorem dX6_keep_16 : decode cX6_keep 16 = .ok (.aload_n 0, 1) := by decide +kernel
theorem dX6_keep_17 : decode cX6_keep 17 = .ok (.getfield 25, 3) := by decide +kernel
theorem dX6_keep_20 : decode cX6_keep 20 = .ok (.getfield 71, 3) := by decide +kernel
theorem dX6_keep_23 : decode cX6_keep 23 = .ok (.ireturn, 1) := by decide +kernel
theorem dX6_back_0 : decode cX6_back 0 = .ok (.aload_n 0, 1) := by decide +kernel
theorem dX6_back_1 : decode cX6_back 1 = .ok (.getfield 311, 3) := by decide +kernel
theorem dX6_back_4 : decode cX6_back 4 = .ok (.ifCond .ne 7, 3) := by decide +kernel
theorem dX6_back_7 : decode cX6_back 7 = .ok (.ldc_w 307, 3) := by decide +kernel
theorem dX6_back_10 : decode cX6_back 10 = .ok (.ireturn, 1) := by decide +kernel
theorem dX6_back_11 : decode cX6_back 11 = .ok (.aload_n 0, 1) := by decide +kernel
theorem dX6_back_12 : decode cX6_back 12 = .ok (.getfield 21, 3) := by decide +kernel
theorem dX6_back_15 : decode cX6_back 15 = .ok (.aload_n 0, 1) := by decide +kernel
theorem dX6_back_16 : decode cX6_back 16 = .ok (.getfield 25, 3) := by decide +kernel
theorem dX6_back_19 : decode cX6_back 19 = .ok (.invokevirtual 167, 3) := by decide +kernel
theorem dX6_back_22 : decode cX6_back 22 = .ok (.aload_n 0, 1) := by decide +kernel
theorem dX6_back_23 : decode cX6_back 23 = .ok (.getfield 21, 3) := by decide +kernel
theorem dX6_back_26 : decode cX6_back 26 = .ok (.getfield 71, 3) := by decide +kernel
theorem dX6_back_29 : decode cX6_back 29 = .ok (.ireturn, 1) := by decide +kernel
theorem dX6_count_0 : decode cX6_count 0 = .ok (.iload_n 1, 1) := by decide +kernel
theorem dX6_count_1 : decode cX6_count 1 = .ok (.tableswitch 123 0 8 #[51, 59, 67, 77, 87, 97, 105, 110, 115], 51) := by decide +kernel
theorem dX6_count_52 : decode cX6_count 52 = .ok (.aload_n 0, 1) := by decide +kernel
theorem dX6_count_53 : decode cX6_count 53 = .ok (.getfield 21, 3) := by decide +kernel
theorem dX6_count_56 : decode cX6_count 56 = .ok (.getfield 71, 3) := by decide +kernel
theorem dX6_count_59 : decode cX6_count 59 = .ok (.ireturn, 1) := by decide +kernel
theorem dX6_count_60 : decode cX6_count 60 = .ok (.aload_n 0, 1) := by decide +kernel
theorem dX6_count_61 : decode cX6_count 61 = .ok (.getfield 21, 3) := by decide +kernel
theorem dX6_count_64 : decode cX6_count 64 = .ok (.getfield 149, 3) := by decide +kernel
theorem dX6_count_67 : decode cX6_count 67 = .ok (.ireturn, 1) := by decide +kernel
theorem dX6_count_68 : decode cX6_count 68 = .ok (.aload_n 0, 1) := by decide +kernel
theorem dX6_count_69 : decode cX6_count 69 = .ok (.getfield 21, 3) := by decide +kernel
theorem dX6_count_72 : decode cX6_count 72 = .ok (.getfield 122, 3) := by decide +kernel
theorem dX6_count_75 : decode cX6_count 75 = .ok (.iconst 0, 1) := by decide +kernel
theorem dX6_count_76 : decode cX6_count 76 = .ok (.iaload, 1) := by decide +kernel
theorem dX6_count_77 : decode cX6_count 77 = .ok (.ireturn, 1) := by decide +kernel
theorem dX6_count_78 : decode cX6_count 78 = .ok (.aload_n 0, 1) := by decide +kernel
theorem dX6_count_79 : decode cX6_count 79 = .ok (.getfield 21, 3) := by decide +kernel
theorem dX6_count_82 : decode cX6_count 82 = .ok (.getfield 122, 3) := by decide +kernel
theorem dX6_count_85 : decode cX6_count 85 = .ok (.iconst 1, 1) := by decide +kernel
theorem dX6_count_86 : decode cX6_count 86 = .ok (.iaload, 1) := by decide +kernel
theorem dX6_count_87 : decode cX6_count 87 = .ok (.ireturn, 1) := by decide +kernel
theorem dX6_count_88 : decode cX6_count 88 = .ok (.aload_n 0, 1) := by decide +kernel
theorem dX6_count_89 : decode cX6_count 89 = .ok (.getfield 21, 3) := by decide +kernel
theorem dX6_count_92 : decode cX6_count 92 = .ok (.getfield 122, 3) := by decide +kernel
theorem dX6_count_95 : decode cX6_count 95 = .ok (.iconst 2, 1) := by decide +kernel
theorem dX6_count_96 : decode cX6_count 96 = .ok (.iaload, 1) := by decide +kernel
theorem dX6_count_97 : decode cX6_count 97 = .ok (.ireturn, 1) := by decide +kernel
theorem dX6_count_98 : decode cX6_count 98 = .ok (.aload_n 0, 1) := by decide +kernel
theorem dX6_count_99 : decode cX6_count 99 = .ok (.getfield 21, 3) := by decide +kernel
theorem dX6_count_102 : decode cX6_count 102 = .ok (.getfield 220, 3) := by decide +kernel
theorem dX6_count_105 : decode cX6_count 105 = .ok (.ireturn, 1) := by decide +kernel
theorem dX6_count_106 : decode cX6_count 106 = .ok (.aload_n 0, 1) := by decide +kernel
theorem dX6_count_107 : decode cX6_count 107 = .ok (.getfield 308, 3) := by decide +kernel
theorem dX6_count_110 : decode cX6_count 110 = .ok (.ireturn, 1) := by decide +kernel
theorem dX6_count_111 : decode cX6_count 111 = .ok (.aload_n 0, 1) := by decide +kernel
theorem dX6_count_112 : decode cX6_count 112 = .ok (.getfield 210, 3) := by decide +kernel
theorem dX6_count_115 : decode cX6_count 115 = .ok (.ireturn, 1) := by decide +kernel
theorem dX6_count_116 : decode cX6_count 116 = .ok (.aload_n 0, 1) := by decide +kernel
theorem dX6_count_117 : decode cX6_count 117 = .ok (.getfield 21, 3) := by decide +kernel
theorem dX6_count_120 : decode cX6_count 120 = .ok (.getfield 134, 3) := by decide +kernel
theorem dX6_count_123 : decode cX6_count 123 = .ok (.ireturn, 1) := by decide +kernel
theorem dX6_count_124 : decode cX6_count 124 = .ok (.ldc 70, 2) := by decide +kernel
theorem dX6_count_126 : decode cX6_count 126 = .ok (.ireturn, 1) := by decide +kernel
theorem dX6_loudWith_0 : decode cX6_loudWith 0 = .ok (.aload_n 0, 1) := by decide +kernel
theorem dX6_loudWith_1 : decode cX6_loudWith 1 = .ok (.getfield 28, 3) := by decide +kernel
theorem dX6_loudWith_4 : decode cX6_loudWith 4 = .ok (.aload_n 0, 1) := by decide +kernel
theorem dX6_loudWith_5 : decode cX6_loudWith 5 = .ok (.getfield 21, 3) := by decide +kernel
theorem dX6_loudWith_8 : decode cX6_loudWith 8 = .ok (.invokevirtual 167, 3) := by decide +kernel
theorem dX6_loudWith_11 : decode cX6_loudWith 11 = .ok (.iconst 0, 1) := by decide +kernel
theorem dX6_loudWith_12 : decode cX6_loudWith 12 = .ok (.istore 4, 2) := by decide +kernel
theorem dX6_loudWith_14 : decode cX6_loudWith 14 = .ok (.iload 4, 2) := by decide +kernel
theorem dX6_loudWith_16 : decode cX6_loudWith 16 = .ok (.aload_n 0, 1) := by decide +kernel
theorem dX6_loudWith_17 : decode cX6_loudWith 17 = .ok (.getfield 28, 3) := by decide +kernel
theorem dX6_loudWith_20 : decode cX6_loudWith 20 = .ok (.getfield 71, 3) := by decide +kernel
theorem dX6_loudWith_23 : decode cX6_loudWith 23 = .ok (.if_icmp .ge 39, 3) := by decide +kernel
theorem dX6_loudWith_26 : decode cX6_loudWith 26 = .ok (.iload_n 1, 1) := by decide +kernel
theorem dX6_loudWith_27 : decode cX6_loudWith 27 = .ok (.iload 4, 2) := by decide +kernel
theorem dX6_loudWith_29 : decode cX6_loudWith 29 = .ok (.ishr, 1) := by decide +kernel
theorem dX6_loudWith_30 : decode cX6_loudWith 30 = .ok (.iconst 1, 1) := by decide +kernel
theorem dX6_loudWith_31 : decode cX6_loudWith 31 = .ok (.iand, 1) := by decide +kernel
theorem dX6_loudWith_32 : decode cX6_loudWith 32 = .ok (.iconst 1, 1) := by decide +kernel
theorem dX6_loudWith_33 : decode cX6_loudWith 33 = .ok (.if_icmp .ne 23, 3) := by decide +kernel
theorem dX6_loudWith_36 : decode cX6_loudWith 36 = .ok (.aload_n 0, 1) := by decide +kernel
theorem dX6_loudWith_37 : decode cX6_loudWith 37 = .ok (.getfield 28, 3) := by decide +kernel
theorem dX6_loudWith_40 : decode cX6_loudWith 40 = .ok (.getfield 89, 3) := by decide +kernel
theorem dX6_loudWith_43 : decode cX6_loudWith 43 = .ok (.iload 4, 2) := by decide +kernel
theorem dX6_loudWith_45 : decode cX6_loudWith 45 = .ok (.aload_n 0, 1) := by decide +kernel
theorem dX6_loudWith_46 : decode cX6_loudWith 46 = .ok (.getfield 28, 3) := by decide +kernel
theorem dX6_loudWith_49 : decode cX6_loudWith 49 = .ok (.getfield 86, 3) := by decide +kernel
theorem dX6_loudWith_52 : decode cX6_loudWith 52 = .ok (.iload 4, 2) := by decide +kernel
theorem dX6_loudWith_54 : decode cX6_loudWith 54 = .ok (.iaload, 1) := by decide +kernel
theorem dX6_loudWith_55 : decode cX6_loudWith 55 = .ok (.iastore, 1) := by decide +kernel
theorem dX6_loudWith_56 : decode cX6_loudWith 56 = .ok (.iinc 4 1, 3) := by decide +kernel
theorem dX6_loudWith_59 : decode cX6_loudWith 59 = .ok (.goto (-45), 3) := by decide +kernel
theorem dX6_loudWith_62 : decode cX6_loudWith 62 = .ok (.aload_n 0, 1) := by decide +kernel
theorem dX6_loudWith_63 : decode cX6_loudWith 63 = .ok (.getfield 28, 3) := by decide +kernel
theorem dX6_loudWith_66 : decode cX6_loudWith 66 = .ok (.iload_n 2, 1) := by decide +kernel
theorem dX6_loudWith_67 : decode cX6_loudWith 67 = .ok (.invokevirtual 152, 3) := by decide +kernel
theorem dX6_loudWith_70 : decode cX6_loudWith 70 = .ok (.aload_n 0, 1) := by decide +kernel
theorem dX6_loudWith_71 : decode cX6_loudWith 71 = .ok (.getfield 28, 3) := by decide +kernel
theorem dX6_loudWith_74 : decode cX6_loudWith 74 = .ok (.iload_n 3, 1) := by decide +kernel
theorem dX6_loudWith_75 : decode cX6_loudWith 75 = .ok (.ifCond .eq 13, 3) := by decide +kernel
theorem dX6_loudWith_78 : decode cX6_loudWith 78 = .ok (.aload_n 0, 1) := by decide +kernel
theorem dX6_loudWith_79 : decode cX6_loudWith 79 = .ok (.getfield 28, 3) := by decide +kernel
theorem dX6_loudWith_82 : decode cX6_loudWith 82 = .ok (.getfield 140, 3) := by decide +kernel
theorem dX6_loudWith_85 : decode cX6_loudWith 85 = .ok (.goto 4, 3) := by decide +kernel
theorem dX6_loudWith_88 : decode cX6_loudWith 88 = .ok (.iconst 0, 1) := by decide +kernel
theorem dX6_loudWith_89 : decode cX6_loudWith 89 = .ok (.putfield 140, 3) := by decide +kernel
theorem dX6_loudWith_92 : decode cX6_loudWith 92 = .ok (.aload_n 0, 1) := by decide +kernel
theorem dX6_loudWith_93 : decode cX6_loudWith 93 = .ok (.getfield 28, 3) := by decide +kernel
theorem dX6_loudWith_96 : decode cX6_loudWith 96 = .ok (.invokevirtual 137, 3) := by decide +kernel
theorem dX6_loudWith_99 : decode cX6_loudWith 99 = .ok (.aload_n 0, 1) := by decide +kernel
theorem dX6_loudWith_100 : decode cX6_loudWith 100 = .ok (.getfield 28, 3) := by decide +kernel
theorem dX6_loudWith_103 : decode cX6_loudWith 103 = .ok (.getfield 140, 3) := by decide +kernel
theorem dX6_loudWith_106 : decode cX6_loudWith 106 = .ok (.ireturn, 1) := by decide +kernel
theorem dX6_compare_0 : decode cX6_compare 0 = .ok (.aload_n 0, 1) := by decide +kernel
theorem dX6_compare_1 : decode cX6_compare 1 = .ok (.getfield 57, 3) := by decide +kernel
theorem dX6_compare_4 : decode cX6_compare 4 = .ok (.iconst 0, 1) := by decide +kernel
theorem dX6_compare_5 : decode cX6_compare 5 = .ok (.invokestatic 315, 3) := by decide +kernel
theorem dX6_compare_8 : decode cX6_compare 8 = .ok (.aload_n 0, 1) := by decide +kernel
theorem dX6_compare_9 : decode cX6_compare 9 = .ok (.getfield 28, 3) := by decide +kernel
theorem dX6_compare_12 : decode cX6_compare 12 = .ok (.aload_n 0, 1) := by decide +kernel
theorem dX6_compare_13 : decode cX6_compare 13 = .ok (.getfield 21, 3) := by decide +kernel
theorem dX6_compare_16 : decode cX6_compare 16 = .ok (.invokevirtual 167, 3) := by decide +kernel
theorem dX6_compare_19 : decode cX6_compare 19 = .ok (.iconst 0, 1) := by decide +kernel
theorem dX6_compare_20 : decode cX6_compare 20 = .ok (.istore_n 2, 1) := by decide +kernel
theorem dX6_compare_21 : decode cX6_compare 21 = .ok (.iload_n 2, 1) := by decide +kernel
theorem dX6_compare_22 : decode cX6_compare 22 = .ok (.aload_n 1, 1) := by decide +kernel
theorem dX6_compare_23 : decode cX6_compare 23 = .ok (.getfield 257, 3) := by decide +kernel
theorem dX6_compare_26 : decode cX6_compare 26 = .ok (.if_icmp .ge 72, 3) := by decide +kernel
theorem dX6_compare_29 : decode cX6_compare 29 = .ok (.iconst 0, 1) := by decide +kernel
theorem dX6_compare_30 : decode cX6_compare 30 = .ok (.istore_n 3, 1) := by decide +kernel
theorem dX6_compare_31 : decode cX6_compare 31 = .ok (.iload_n 3, 1) := by decide +kernel
theorem dX6_compare_32 : decode cX6_compare 32 = .ok (.aload_n 0, 1) := by decide +kernel
theorem dX6_compare_33 : decode cX6_compare 33 = .ok (.getfield 21, 3) := by decide +kernel
theorem dX6_compare_36 : decode cX6_compare 36 = .ok (.getfield 71, 3) := by decide +kernel
theorem dX6_compare_39 : decode cX6_compare 39 = .ok (.if_icmp .ge 45, 3) := by decide +kernel
theorem dX6_compare_42 : decode cX6_compare 42 = .ok (.aload_n 1, 1) := by decide +kernel
theorem dX6_compare_43 : decode cX6_compare 43 = .ok (.iload_n 2, 1) := by decide +kernel
theorem dX6_compare_44 : decode cX6_compare 44 = .ok (.invokevirtual 260, 3) := by decide +kernel
theorem dX6_compare_47 : decode cX6_compare 47 = .ok (.ifCond .eq 37, 3) := by decide +kernel
theorem dX6_compare_50 : decode cX6_compare 50 = .ok (.aload_n 0, 1) := by decide +kernel
theorem dX6_compare_51 : decode cX6_compare 51 = .ok (.getfield 57, 3) := by decide +kernel
theorem dX6_compare_54 : decode cX6_compare 54 = .ok (.iload_n 3, 1) := by decide +kernel
theorem dX6_compare_55 : decode cX6_compare 55 = .ok (.dup2, 1) := by decide +kernel
theorem dX6_compare_56 : decode cX6_compare 56 = .ok (.iaload, 1) := by decide +kernel
theorem dX6_compare_57 : decode cX6_compare 57 = .ok (.aload_n 0, 1) := by decide +kernel
theorem dX6_compare_58 : decode cX6_compare 58 = .ok (.getfield 28, 3) := by decide +kernel
theorem dX6_compare_61 : decode cX6_compare 61 = .ok (.getfield 92, 3) := by decide +kernel
theorem dX6_compare_64 : decode cX6_compare 64 = .ok (.iload_n 3, 1) := by decide +kernel
theorem dX6_compare_65 : decode cX6_compare 65 = .ok (.iaload, 1) := by decide +kernel
theorem dX6_compare_66 : decode cX6_compare 66 = .ok (.aload_n 1, 1) := by decide +kernel
theorem dX6_compare_67 : decode cX6_compare 67 = .ok (.getfield 253, 3) := by decide +kernel
theorem dX6_compare_70 : decode cX6_compare 70 = .ok (.iload_n 2, 1) := by decide +kernel
theorem dX6_compare_71 : decode cX6_compare 71 = .ok (.iaload, 1) := by decide +kernel
theorem dX6_compare_72 : decode cX6_compare 72 = .ok (.isub, 1) := by decide +kernel
theorem dX6_compare_73 : decode cX6_compare 73 = .ok (.invokestatic 321, 3) := by decide +kernel
theorem dX6_compare_76 : decode cX6_compare 76 = .ok (.iadd, 1) := by decide +kernel
theorem dX6_compare_77 : decode cX6_compare 77 = .ok (.iastore, 1) := by decide +kernel
theorem dX6_compare_78 : decode cX6_compare 78 = .ok (.iinc 3 1, 3) := by decide +kernel
theorem dX6_compare_81 : decode cX6_compare 81 = .ok (.goto (-50), 3) := by decide +kernel
theorem dX6_compare_84 : decode cX6_compare 84 = .ok (.aload_n 0, 1) := by decide +kernel
theorem dX6_compare_85 : decode cX6_compare 85 = .ok (.getfield 28, 3) := by decide +kernel
theorem dX6_compare_88 : decode cX6_compare 88 = .ok (.iconst 1, 1) := by decide +kernel
theorem dX6_compare_89 : decode cX6_compare 89 = .ok (.invokevirtual 152, 3) := by decide +kernel
theorem dX6_compare_92 : decode cX6_compare 92 = .ok (.iinc 2 1, 3) := by decide +kernel
theorem dX6_compare_95 : decode cX6_compare 95 = .ok (.goto (-74), 3) := by decide +kernel
theorem dX6_compare_98 : decode cX6_compare 98 = .ok (.return_, 1) := by decide +kernel
theorem dX6_feedOne_0 : decode cX6_feedOne 0 = .ok (.bipush 24, 2) := by decide +kernel
theorem dX6_feedOne_2 : decode cX6_feedOne 2 = .ok (.istore_n 2, 1) := by decide +kernel
theorem dX6_feedOne_3 : decode cX6_feedOne 3 = .ok (.iload_n 2, 1) := by decide +kernel
theorem dX6_feedOne_4 : decode cX6_feedOne 4 = .ok (.ifCond .lt 44, 3) := by decide +kernel
theorem dX6_feedOne_7 : decode cX6_feedOne 7 = .ok (.aload_n 0, 1) := by decide +kernel
theorem dX6_feedOne_8 : decode cX6_feedOne 8 = .ok (.getfield 210, 3) := by decide +kernel
theorem dX6_feedOne_11 : decode cX6_feedOne 11 = .ok (.bipush 96, 2) := by decide +kernel
theorem dX6_feedOne_13 : decode cX6_feedOne 13 = .ok (.if_icmp .ge 35, 3) := by decide +kernel
theorem dX6_feedOne_16 : decode cX6_feedOne 16 = .ok (.aload_n 0, 1) := by decide +kernel
theorem dX6_feedOne_17 : decode cX6_feedOne 17 = .ok (.getfield 38, 3) := by decide +kernel
theorem dX6_feedOne_20 : decode cX6_feedOne 20 = .ok (.aload_n 0, 1) := by decide +kernel
theorem dX6_feedOne_21 : decode cX6_feedOne 21 = .ok (.getfield 210, 3) := by decide +kernel
theorem dX6_feedOne_24 : decode cX6_feedOne 24 = .ok (.iload_n 1, 1) := by decide +kernel
theorem dX6_feedOne_25 : decode cX6_feedOne 25 = .ok (.iload_n 2, 1) := by decide +kernel
theorem dX6_feedOne_26 : decode cX6_feedOne 26 = .ok (.iushr, 1) := by decide +kernel
theorem dX6_feedOne_27 : decode cX6_feedOne 27 = .ok (.sipush 255, 3) := by decide +kernel
theorem dX6_feedOne_30 : decode cX6_feedOne 30 = .ok (.iand, 1) := by decide +kernel
theorem dX6_feedOne_31 : decode cX6_feedOne 31 = .ok (.iastore, 1) := by decide +kernel
theorem dX6_feedOne_32 : decode cX6_feedOne 32 = .ok (.aload_n 0, 1) := by decide +kernel
theorem dX6_feedOne_33 : decode cX6_feedOne 33 = .ok (.dup, 1) := by decide +kernel
theorem dX6_feedOne_34 : decode cX6_feedOne 34 = .ok (.getfield 210, 3) := by decide +kernel
theorem dX6_feedOne_37 : decode cX6_feedOne 37 = .ok (.iconst 1, 1) := by decide +kernel
theorem dX6_feedOne_38 : decode cX6_feedOne 38 = .ok (.iadd, 1) := by decide +kernel
theorem dX6_feedOne_39 : decode cX6_feedOne 39 = .ok (.putfield 210, 3) := by decide +kernel
theorem dX6_feedOne_42 : decode cX6_feedOne 42 = .ok (.iinc 2 (-8), 3) := by decide +kernel
theorem dX6_feedOne_45 : decode cX6_feedOne 45 = .ok (.goto (-42), 3) := by decide +kernel
theorem dX6_feedOne_48 : decode cX6_feedOne 48 = .ok (.return_, 1) := by decide +kernel
theorem dX6_sheetAt_0 : decode cX6_sheetAt 0 = .ok (.iload_n 1, 1) := by decide +kernel
theorem dX6_sheetAt_1 : decode cX6_sheetAt 1 = .ok (.ifCond .lt 21, 3) := by decide +kernel
theorem dX6_sheetAt_4 : decode cX6_sheetAt 4 = .ok (.iload_n 1, 1) := by decide +kernel
theorem dX6_sheetAt_5 : decode cX6_sheetAt 5 = .ok (.aload_n 0, 1) := by decide +kernel
theorem dX6_sheetAt_6 : decode cX6_sheetAt 6 = .ok (.getfield 44, 3) := by decide +kernel
theorem dX6_sheetAt_9 : decode cX6_sheetAt 9 = .ok (.arraylength, 1) := by decide +kernel
theorem dX6_sheetAt_10 : decode cX6_sheetAt 10 = .ok (.if_icmp .ge 12, 3) := by decide +kernel
theorem dX6_sheetAt_13 : decode cX6_sheetAt 13 = .ok (.aload_n 0, 1) := by decide +kernel
theorem dX6_sheetAt_14 : decode cX6_sheetAt 14 = .ok (.getfield 44, 3) := by decide +kernel
theorem dX6_sheetAt_17 : decode cX6_sheetAt 17 = .ok (.iload_n 1, 1) := by decide +kernel
theorem dX6_sheetAt_18 : decode cX6_sheetAt 18 = .ok (.aaload, 1) := by decide +kernel
theorem dX6_sheetAt_19 : decode cX6_sheetAt 19 = .ok (.goto 4, 3) := by decide +kernel
theorem dX6_sheetAt_22 : decode cX6_sheetAt 22 = .ok (.aconst_null, 1) := by decide +kernel
theorem dX6_sheetAt_23 : decode cX6_sheetAt 23 = .ok (.areturn, 1) := by decide +kernel
theorem dX6_slotAt_0 : decode cX6_slotAt 0 = .ok (.iload_n 1, 1) := by decide +kernel
theorem dX6_slotAt_1 : decode cX6_slotAt 1 = .ok (.ifCond .lt 21, 3) := by decide +kernel
theorem dX6_slotAt_4 : decode cX6_slotAt 4 = .ok (.iload_n 1, 1) := by decide +kernel
theorem dX6_slotAt_5 : decode cX6_slotAt 5 = .ok (.aload_n 0, 1) := by decide +kernel
theorem dX6_slotAt_6 : decode cX6_slotAt 6 = .ok (.getfield 50, 3) := by decide +kernel
theorem dX6_slotAt_9 : decode cX6_slotAt 9 = .ok (.arraylength, 1) := by decide +kernel
theorem dX6_slotAt_10 : decode cX6_slotAt 10 = .ok (.if_icmp .ge 12, 3) := by decide +kernel
theorem dX6_slotAt_13 : decode cX6_slotAt 13 = .ok (.aload_n 0, 1) := by decide +kernel
theorem dX6_slotAt_14 : decode cX6_slotAt 14 = .ok (.getfield 50, 3) := by decide +kernel
theorem dX6_slotAt_17 : decode cX6_slotAt 17 = .ok (.iload_n 1, 1) := by decide +kernel
theorem dX6_slotAt_18 : decode cX6_slotAt 18 = .ok (.aaload, 1) := by decide +kernel
theorem dX6_slotAt_19 : decode cX6_slotAt 19 = .ok (.goto 4, 3) := by decide +kernel
theorem dX6_slotAt_22 : decode cX6_slotAt 22 = .ok (.aconst_null, 1) := by decide +kernel
theorem dX6_slotAt_23 : decode cX6_slotAt 23 = .ok (.areturn, 1) := by decide +kernel
theorem dX6_isKind_0 : decode cX6_isKind 0 = .ok (.iload_n 0, 1) := by decide +kernel
theorem dX6_isKind_1 : decode cX6_isKind 1 = .ok (.ifCond .lt 13, 3) := by decide +kernel
theorem dX6_isKind_4 : decode cX6_isKind 4 = .ok (.iload_n 0, 1) := by decide +kernel
theorem dX6_isKind_5 : decode cX6_isKind 5 = .ok (.bipush 6, 2) := by decide +kernel
theorem dX6_isKind_7 : decode cX6_isKind 7 = .ok (.if_icmp .ge 7, 3) := by decide +kernel
theorem dX6_isKind_10 : decode cX6_isKind 10 = .ok (.iconst 1, 1) := by decide +kernel
theorem dX6_isKind_11 : decode cX6_isKind 11 = .ok (.goto 4, 3) := by decide +kernel
theorem dX6_isKind_14 : decode cX6_isKind 14 = .ok (.iconst 0, 1) := by decide +kernel
theorem dX6_isKind_15 : decode cX6_isKind 15 = .ok (.ireturn, 1) := by decide +kernel
theorem dX6_isWithin_0 : decode cX6_isWithin 0 = .ok (.iload_n 0, 1) := by decide +kernel
theorem dX6_isWithin_1 : decode cX6_isWithin 1 = .ok (.ifCond .lt 12, 3) := by decide +kernel
theorem dX6_isWithin_4 : decode cX6_isWithin 4 = .ok (.iload_n 0, 1) := by decide +kernel
theorem dX6_isWithin_5 : decode cX6_isWithin 5 = .ok (.iload_n 1, 1) := by decide +kernel
theorem dX6_isWithin_6 : decode cX6_isWithin 6 = .ok (.if_icmp .gt 7, 3) := by decide +kernel
theorem dX6_isWithin_9 : decode cX6_isWithin 9 = .ok (.iconst 1, 1) := by decide +kernel
theorem dX6_isWithin_10 : decode cX6_isWithin 10 = .ok (.goto 4, 3) := by decide +kernel
theorem dX6_isWithin_13 : decode cX6_isWithin 13 = .ok (.iconst 0, 1) := by decide +kernel
theorem dX6_isWithin_14 : decode cX6_isWithin 14 = .ok (.ireturn, 1) := by decide +kernel
theorem dX6_heldWithin_0 : decode cX6_heldWithin 0 = .ok (.iconst 0, 1) := by decide +kernel
theorem dX6_heldWithin_1 : decode cX6_heldWithin 1 = .ok (.bipush 99, 2) := by decide +kernel
theorem dX6_heldWithin_3 : decode cX6_heldWithin 3 = .ok (.iload_n 0, 1) := by decide +kernel
theorem dX6_heldWithin_4 : decode cX6_heldWithin 4 = .ok (.invokestatic 125, 3) := by decide +kernel
theorem dX6_heldWithin_7 : decode cX6_heldWithin 7 = .ok (.invokestatic 324, 3) := by decide +kernel
theorem dX6_heldWithin_10 : decode cX6_heldWithin 10 = .ok (.ireturn, 1) := by decide +kernel
theorem dX6_replaced_0 : decode cX6_replaced 0 = .ok (.iload_n 1, 1) := by decide +kernel
theorem dX6_replaced_1 : decode cX6_replaced 1 = .ok (.ifCond .lt 9, 3) := by decide +kernel
theorem dX6_replaced_4 : decode cX6_replaced 4 = .ok (.iload_n 1, 1) := by decide +kernel
theorem dX6_replaced_5 : decode cX6_replaced 5 = .ok (.aload_n 0, 1) := by decide +kernel
theorem dX6_replaced_6 : decode cX6_replaced 6 = .ok (.arraylength, 1) := by decide +kernel
theorem dX6_replaced_7 : decode cX6_replaced 7 = .ok (.if_icmp .lt 6, 3) := by decide +kernel
theorem dX6_replaced_10 : decode cX6_replaced 10 = .ok (.ldc 70, 2) := by decide +kernel
theorem dX6_replaced_12 : decode cX6_replaced 12 = .ok (.ireturn, 1) := by decide +kernel
theorem dX6_replaced_13 : decode cX6_replaced 13 = .ok (.aload_n 0, 1) := by decide +kernel
theorem dX6_replaced_14 : decode cX6_replaced 14 = .ok (.iload_n 1, 1) := by decide +kernel
theorem dX6_replaced_15 : decode cX6_replaced 15 = .ok (.iaload, 1) := by decide +kernel
theorem dX6_replaced_16 : decode cX6_replaced 16 = .ok (.istore_n 3, 1) := by decide +kernel
theorem dX6_replaced_17 : decode cX6_replaced 17 = .ok (.aload_n 0, 1) := by decide +kernel
theorem dX6_replaced_18 : decode cX6_replaced 18 = .ok (.iload_n 1, 1) := by decide +kernel
theorem dX6_replaced_19 : decode cX6_replaced 19 = .ok (.iload_n 2, 1) := by decide +kernel
theorem dX6_replaced_20 : decode cX6_replaced 20 = .ok (.iastore, 1) := by decide +kernel
theorem dX6_replaced_21 : decode cX6_replaced 21 = .ok (.iload_n 3, 1) := by decide +kernel
theorem dX6_replaced_22 : decode cX6_replaced 22 = .ok (.ireturn, 1) := by decide +kernel
theorem dX6_isOf_0 : decode cX6_isOf 0 = .ok (.iload_n 0, 1) := by decide +kernel
theorem dX6_isOf_1 : decode cX6_isOf 1 = .ok (.istore_n 2, 1) := by decide +kernel
theorem dX6_isOf_2 : decode cX6_isOf 2 = .ok (.iconst 0, 1) := by decide +kernel
theorem dX6_isOf_3 : decode cX6_isOf 3 = .ok (.istore_n 3, 1) := by decide +kernel
theorem dX6_isOf_4 : decode cX6_isOf 4 = .ok (.iload_n 3, 1) := by decide +kernel
theorem dX6_isOf_5 : decode cX6_isOf 5 = .ok (.bipush 6, 2) := by decide +kernel
theorem dX6_isOf_7 : decode cX6_isOf 7 = .ok (.if_icmp .ge 29, 3) := by decide +kernel
theorem dX6_isOf_10 : decode cX6_isOf 10 = .ok (.iload_n 2, 1) := by decide +kernel
theorem dX6_isOf_11 : decode cX6_isOf 11 = .ok (.invokestatic 62, 3) := by decide +kernel
theorem dX6_isOf_14 : decode cX6_isOf 14 = .ok (.ifCond .eq 22, 3) := by decide +kernel
theorem dX6_isOf_17 : decode cX6_isOf 17 = .ok (.iload_n 2, 1) := by decide +kernel
theorem dX6_isOf_18 : decode cX6_isOf 18 = .ok (.iload_n 1, 1) := by decide +kernel
theorem dX6_isOf_19 : decode cX6_isOf 19 = .ok (.if_icmp .ne 5, 3) := by decide +kernel
theorem dX6_isOf_22 : decode cX6_isOf 22 = .ok (.iconst 1, 1) := by decide +kernel
theorem dX6_isOf_23 : decode cX6_isOf 23 = .ok (.ireturn, 1) := by decide +kernel
theorem dX6_isOf_24 : decode cX6_isOf 24 = .ok (.getstatic 327, 3) := by decide +kernel
theorem dX6_isOf_27 : decode cX6_isOf 27 = .ok (.iload_n 2, 1) := by decide +kernel
theorem dX6_isOf_28 : decode cX6_isOf 28 = .ok (.iaload, 1) := by decide +kernel
theorem dX6_isOf_29 : decode cX6_isOf 29 = .ok (.istore_n 2, 1) := by decide +kernel
theorem dX6_isOf_30 : decode cX6_isOf 30 = .ok (.iinc 3 1, 3) := by decide +kernel
theorem dX6_isOf_33 : decode cX6_isOf 33 = .ok (.goto (-29), 3) := by decide +kernel
theorem dX6_isOf_36 : decode cX6_isOf 36 = .ok (.iconst 0, 1) := by decide +kernel
theorem dX6_isOf_37 : decode cX6_isOf 37 = .ok (.ireturn, 1) := by decide +kernel
theorem dX6_worth_0 : decode cX6_worth 0 = .ok (.iload_n 0, 1) := by decide +kernel
theorem dX6_worth_1 : decode cX6_worth 1 = .ok (.tableswitch 60 1 5 #[35, 45, 39, 50, 58], 35) := by decide +kernel
theorem dX6_worth_36 : decode cX6_worth 36 = .ok (.iload_n 2, 1) := by decide +kernel
theorem dX6_worth_37 : decode cX6_worth 37 = .ok (.iload_n 1, 1) := by decide +kernel
theorem dX6_worth_38 : decode cX6_worth 38 = .ok (.iadd, 1) := by decide +kernel
theorem dX6_worth_39 : decode cX6_worth 39 = .ok (.ireturn, 1) := by decide +kernel
theorem dX6_worth_40 : decode cX6_worth 40 = .ok (.iload_n 2, 1) := by decide +kernel
theorem dX6_worth_41 : decode cX6_worth 41 = .ok (.iload_n 1, 1) := by decide +kernel
theorem dX6_worth_42 : decode cX6_worth 42 = .ok (.iadd, 1) := by decide +kernel
theorem dX6_worth_43 : decode cX6_worth 43 = .ok (.iconst 2, 1) := by decide +kernel
theorem dX6_worth_44 : decode cX6_worth 44 = .ok (.idiv, 1) := by decide +kernel
theorem dX6_worth_45 : decode cX6_worth 45 = .ok (.ireturn, 1) := by decide +kernel
theorem dX6_worth_46 : decode cX6_worth 46 = .ok (.bipush 99, 2) := by decide +kernel
theorem dX6_worth_48 : decode cX6_worth 48 = .ok (.iload_n 1, 1) := by decide +kernel
theorem dX6_worth_49 : decode cX6_worth 49 = .ok (.isub, 1) := by decide +kernel
theorem dX6_worth_50 : decode cX6_worth 50 = .ok (.ireturn, 1) := by decide +kernel
theorem dX6_worth_51 : decode cX6_worth 51 = .ok (.bipush 99, 2) := by decide +kernel
theorem dX6_worth_53 : decode cX6_worth 53 = .ok (.iload_n 1, 1) := by decide +kernel
theorem dX6_worth_54 : decode cX6_worth 54 = .ok (.isub, 1) := by decide +kernel
theorem dX6_worth_55 : decode cX6_worth 55 = .ok (.bipush 7, 2) := by decide +kernel
theorem dX6_worth_57 : decode cX6_worth 57 = .ok (.iadd, 1) := by decide +kernel
theorem dX6_worth_58 : decode cX6_worth 58 = .ok (.ireturn, 1) := by decide +kernel
theorem dX6_worth_59 : decode cX6_worth 59 = .ok (.iload_n 3, 1) := by decide +kernel
theorem dX6_worth_60 : decode cX6_worth 60 = .ok (.ireturn, 1) := by decide +kernel
theorem dX6_worth_61 : decode cX6_worth 61 = .ok (.iload_n 2, 1) := by decide +kernel
theorem dX6_worth_62 : decode cX6_worth 62 = .ok (.ireturn, 1) := by decide +kernel
theorem dJ11_isValidCodePoint_9a6ad_0 : decode cJ11_isValidCodePoint_9a6ad 0 = .ok (.iload_n 0, 1) := by decide +kernel
theorem dJ11_isValidCodePoint_9a6ad_1 : decode cJ11_isValidCodePoint_9a6ad 1 = .ok (.bipush 16, 2) := by decide +kernel
theorem dJ11_isValidCodePoint_9a6ad_3 : decode cJ11_isValidCodePoint_9a6ad 3 = .ok (.iushr, 1) := by decide +kernel
theorem dJ11_isValidCodePoint_9a6ad_4 : decode cJ11_isValidCodePoint_9a6ad 4 = .ok (.istore_n 1, 1) := by decide +kernel
theorem dJ11_isValidCodePoint_9a6ad_5 : decode cJ11_isValidCodePoint_9a6ad 5 = .ok (.iload_n 1, 1) := by decide +kernel
theorem dJ11_isValidCodePoint_9a6ad_6 : decode cJ11_isValidCodePoint_9a6ad 6 = .ok (.bipush 17, 2) := by decide +kernel
theorem dJ11_isValidCodePoint_9a6ad_8 : decode cJ11_isValidCodePoint_9a6ad 8 = .ok (.if_icmp .ge 7, 3) := by decide +kernel
theorem dJ11_isValidCodePoint_9a6ad_11 : decode cJ11_isValidCodePoint_9a6ad 11 = .ok (.iconst 1, 1) := by decide +kernel
theorem dJ11_isValidCodePoint_9a6ad_12 : decode cJ11_isValidCodePoint_9a6ad 12 = .ok (.goto 4, 3) := by decide +kernel
theorem dJ11_isValidCodePoint_9a6ad_15 : decode cJ11_isValidCodePoint_9a6ad 15 = .ok (.iconst 0, 1) := by decide +kernel
theorem dJ11_isValidCodePoint_9a6ad_16 : decode cJ11_isValidCodePoint_9a6ad 16 = .ok (.ireturn, 1) := by decide +kernel
theorem dJ11_highSurrogate_5068e_0 : decode cJ11_highSurrogate_5068e 0 = .ok (.iload_n 0, 1) := by decide +kernel
theorem dJ11_highSurrogate_5068e_1 : decode cJ11_highSurrogate_5068e 1 = .ok (.bipush 10, 2) := by decide +kernel
theorem dJ11_highSurrogate_5068e_3 : decode cJ11_highSurrogate_5068e 3 = .ok (.iushr, 1) := by decide +kernel
theorem dJ11_highSurrogate_5068e_4 : decode cJ11_highSurrogate_5068e 4 = .ok (.ldc 110, 2) := by decide +kernel
theorem dJ11_highSurrogate_5068e_6 : decode cJ11_highSurrogate_5068e 6 = .ok (.iadd, 1) := by decide +kernel
theorem dJ11_highSurrogate_5068e_7 : decode cJ11_highSurrogate_5068e 7 = .ok (.i2c, 1) := by decide +kernel
theorem dJ11_highSurrogate_5068e_8 : decode cJ11_highSurrogate_5068e 8 = .ok (.ireturn, 1) := by decide +kernel
theorem dJ11_lowSurrogate_5068e_0 : decode cJ11_lowSurrogate_5068e 0 = .ok (.iload_n 0, 1) := by decide +kernel
theorem dJ11_lowSurrogate_5068e_1 : decode cJ11_lowSurrogate_5068e 1 = .ok (.sipush 1023, 3) := by decide +kernel
theorem dJ11_lowSurrogate_5068e_4 : decode cJ11_lowSurrogate_5068e 4 = .ok (.iand, 1) := by decide +kernel
theorem dJ11_lowSurrogate_5068e_5 : decode cJ11_lowSurrogate_5068e 5 = .ok (.ldc 76, 2) := by decide +kernel
theorem dJ11_lowSurrogate_5068e_7 : decode cJ11_lowSurrogate_5068e 7 = .ok (.iadd, 1) := by decide +kernel
theorem dJ11_lowSurrogate_5068e_8 : decode cJ11_lowSurrogate_5068e 8 = .ok (.i2c, 1) := by decide +kernel
theorem dJ11_lowSurrogate_5068e_9 : decode cJ11_lowSurrogate_5068e 9 = .ok (.ireturn, 1) := by decide +kernel
theorem dJ6_bitCount_0f7a4_0 : decode cJ6_bitCount_0f7a4 0 = .ok (.iload_n 0, 1) := by decide +kernel
theorem dJ6_bitCount_0f7a4_1 : decode cJ6_bitCount_0f7a4 1 = .ok (.iload_n 0, 1) := by decide +kernel
theorem dJ6_bitCount_0f7a4_2 : decode cJ6_bitCount_0f7a4 2 = .ok (.iconst 1, 1) := by decide +kernel
theorem dJ6_bitCount_0f7a4_3 : decode cJ6_bitCount_0f7a4 3 = .ok (.iushr, 1) := by decide +kernel
theorem dJ6_bitCount_0f7a4_4 : decode cJ6_bitCount_0f7a4 4 = .ok (.ldc_w 265, 3) := by decide +kernel
theorem dJ6_bitCount_0f7a4_7 : decode cJ6_bitCount_0f7a4 7 = .ok (.iand, 1) := by decide +kernel
theorem dJ6_bitCount_0f7a4_8 : decode cJ6_bitCount_0f7a4 8 = .ok (.isub, 1) := by decide +kernel
theorem dJ6_bitCount_0f7a4_9 : decode cJ6_bitCount_0f7a4 9 = .ok (.istore_n 0, 1) := by decide +kernel
theorem dJ6_bitCount_0f7a4_10 : decode cJ6_bitCount_0f7a4 10 = .ok (.iload_n 0, 1) := by decide +kernel
theorem dJ6_bitCount_0f7a4_11 : decode cJ6_bitCount_0f7a4 11 = .ok (.ldc_w 266, 3) := by decide +kernel
theorem dJ6_bitCount_0f7a4_14 : decode cJ6_bitCount_0f7a4 14 = .ok (.iand, 1) := by decide +kernel
theorem dJ6_bitCount_0f7a4_15 : decode cJ6_bitCount_0f7a4 15 = .ok (.iload_n 0, 1) := by decide +kernel
theorem dJ6_bitCount_0f7a4_16 : decode cJ6_bitCount_0f7a4 16 = .ok (.iconst 2, 1) := by decide +kernel
theorem dJ6_bitCount_0f7a4_17 : decode cJ6_bitCount_0f7a4 17 = .ok (.iushr, 1) := by decide +kernel
theorem dJ6_bitCount_0f7a4_18 : decode cJ6_bitCount_0f7a4 18 = .ok (.ldc_w 266, 3) := by decide +kernel
theorem dJ6_bitCount_0f7a4_21 : decode cJ6_bitCount_0f7a4 21 = .ok (.iand, 1) := by decide +kernel
theorem dJ6_bitCount_0f7a4_22 : decode cJ6_bitCount_0f7a4 22 = .ok (.iadd, 1) := by decide +kernel
theorem dJ6_bitCount_0f7a4_23 : decode cJ6_bitCount_0f7a4 23 = .ok (.istore_n 0, 1) := by decide +kernel
theorem dJ6_bitCount_0f7a4_24 : decode cJ6_bitCount_0f7a4 24 = .ok (.iload_n 0, 1) := by decide +kernel
theorem dJ6_bitCount_0f7a4_25 : decode cJ6_bitCount_0f7a4 25 = .ok (.iload_n 0, 1) := by decide +kernel
theorem dJ6_bitCount_0f7a4_26 : decode cJ6_bitCount_0f7a4 26 = .ok (.iconst 4, 1) := by decide +kernel
theorem dJ6_bitCount_0f7a4_27 : decode cJ6_bitCount_0f7a4 27 = .ok (.iushr, 1) := by decide +kernel
theorem dJ6_bitCount_0f7a4_28 : decode cJ6_bitCount_0f7a4 28 = .ok (.iadd, 1) := by decide +kernel
theorem dJ6_bitCount_0f7a4_29 : decode cJ6_bitCount_0f7a4 29 = .ok (.ldc_w 267, 3) := by decide +kernel
theorem dJ6_bitCount_0f7a4_32 : decode cJ6_bitCount_0f7a4 32 = .ok (.iand, 1) := by decide +kernel
theorem dJ6_bitCount_0f7a4_33 : decode cJ6_bitCount_0f7a4 33 = .ok (.istore_n 0, 1) := by decide +kernel
theorem dJ6_bitCount_0f7a4_34 : decode cJ6_bitCount_0f7a4 34 = .ok (.iload_n 0, 1) := by decide +kernel
theorem dJ6_bitCount_0f7a4_35 : decode cJ6_bitCount_0f7a4 35 = .ok (.iload_n 0, 1) := by decide +kernel
theorem dJ6_bitCount_0f7a4_36 : decode cJ6_bitCount_0f7a4 36 = .ok (.bipush 8, 2) := by decide +kernel
theorem dJ6_bitCount_0f7a4_38 : decode cJ6_bitCount_0f7a4 38 = .ok (.iushr, 1) := by decide +kernel
theorem dJ6_bitCount_0f7a4_39 : decode cJ6_bitCount_0f7a4 39 = .ok (.iadd, 1) := by decide +kernel
theorem dJ6_bitCount_0f7a4_40 : decode cJ6_bitCount_0f7a4 40 = .ok (.istore_n 0, 1) := by decide +kernel
theorem dJ6_bitCount_0f7a4_41 : decode cJ6_bitCount_0f7a4 41 = .ok (.iload_n 0, 1) := by decide +kernel
theorem dJ6_bitCount_0f7a4_42 : decode cJ6_bitCount_0f7a4 42 = .ok (.iload_n 0, 1) := by decide +kernel
theorem dJ6_bitCount_0f7a4_43 : decode cJ6_bitCount_0f7a4 43 = .ok (.bipush 16, 2) := by decide +kernel
theorem dJ6_bitCount_0f7a4_45 : decode cJ6_bitCount_0f7a4 45 = .ok (.iushr, 1) := by decide +kernel
theorem dJ6_bitCount_0f7a4_46 : decode cJ6_bitCount_0f7a4 46 = .ok (.iadd, 1) := by decide +kernel
theorem dJ6_bitCount_0f7a4_47 : decode cJ6_bitCount_0f7a4 47 = .ok (.istore_n 0, 1) := by decide +kernel
theorem dJ6_bitCount_0f7a4_48 : decode cJ6_bitCount_0f7a4 48 = .ok (.iload_n 0, 1) := by decide +kernel
theorem dJ6_bitCount_0f7a4_49 : decode cJ6_bitCount_0f7a4 49 = .ok (.bipush 63, 2) := by decide +kernel
theorem dJ6_bitCount_0f7a4_51 : decode cJ6_bitCount_0f7a4 51 = .ok (.iand, 1) := by decide +kernel
theorem dJ6_bitCount_0f7a4_52 : decode cJ6_bitCount_0f7a4 52 = .ok (.ireturn, 1) := by decide +kernel
theorem dJ9_abs_0f7a4_0 : decode cJ9_abs_0f7a4 0 = .ok (.iload_n 0, 1) := by decide +kernel
theorem dJ9_abs_0f7a4_1 : decode cJ9_abs_0f7a4 1 = .ok (.ifCond .ge 8, 3) := by decide +kernel
theorem dJ9_abs_0f7a4_4 : decode cJ9_abs_0f7a4 4 = .ok (.iload_n 0, 1) := by decide +kernel
theorem dJ9_abs_0f7a4_5 : decode cJ9_abs_0f7a4 5 = .ok (.ineg, 1) := by decide +kernel
theorem dJ9_abs_0f7a4_6 : decode cJ9_abs_0f7a4 6 = .ok (.goto 4, 3) := by decide +kernel
theorem dJ9_abs_0f7a4_9 : decode cJ9_abs_0f7a4 9 = .ok (.iload_n 0, 1) := by decide +kernel
theorem dJ9_abs_0f7a4_10 : decode cJ9_abs_0f7a4 10 = .ok (.ireturn, 1) := by decide +kernel
theorem dJ9_max_7cf53_0 : decode cJ9_max_7cf53 0 = .ok (.iload_n 0, 1) := by decide +kernel
theorem dJ9_max_7cf53_1 : decode cJ9_max_7cf53 1 = .ok (.iload_n 1, 1) := by decide +kernel
theorem dJ9_max_7cf53_2 : decode cJ9_max_7cf53 2 = .ok (.if_icmp .lt 7, 3) := by decide +kernel
theorem dJ9_max_7cf53_5 : decode cJ9_max_7cf53 5 = .ok (.iload_n 0, 1) := by decide +kernel
theorem dJ9_max_7cf53_6 : decode cJ9_max_7cf53 6 = .ok (.goto 4, 3) := by decide +kernel
theorem dJ9_max_7cf53_9 : decode cJ9_max_7cf53 9 = .ok (.iload_n 1, 1) := by decide +kernel
theorem dJ9_max_7cf53_10 : decode cJ9_max_7cf53 10 = .ok (.ireturn, 1) := by decide +kernel
theorem dJ9_min_7cf53_0 : decode cJ9_min_7cf53 0 = .ok (.iload_n 0, 1) := by decide +kernel
theorem dJ9_min_7cf53_1 : decode cJ9_min_7cf53 1 = .ok (.iload_n 1, 1) := by decide +kernel
theorem dJ9_min_7cf53_2 : decode cJ9_min_7cf53 2 = .ok (.if_icmp .gt 7, 3) := by decide +kernel
theorem dJ9_min_7cf53_5 : decode cJ9_min_7cf53 5 = .ok (.iload_n 0, 1) := by decide +kernel
theorem dJ9_min_7cf53_6 : decode cJ9_min_7cf53 6 = .ok (.goto 4, 3) := by decide +kernel
theorem dJ9_min_7cf53_9 : decode cJ9_min_7cf53 9 = .ok (.iload_n 1, 1) := by decide +kernel
theorem dJ9_min_7cf53_10 : decode cJ9_min_7cf53 10 = .ok (.ireturn, 1) := by decide +kernel
theorem dJ0_length_8abf5_0 : decode cJ0_length_8abf5 0 = .ok (.aload_n 0, 1) := by decide +kernel
theorem dJ0_length_8abf5_1 : decode cJ0_length_8abf5 1 = .ok (.getfield 9, 3) := by decide +kernel
theorem dJ0_length_8abf5_4 : decode cJ0_length_8abf5 4 = .ok (.arraylength, 1) := by decide +kernel
theorem dJ0_length_8abf5_5 : decode cJ0_length_8abf5 5 = .ok (.aload_n 0, 1) := by decide +kernel
theorem dJ0_length_8abf5_6 : decode cJ0_length_8abf5 6 = .ok (.invokevirtual 335, 3) := by decide +kernel
theorem dJ0_length_8abf5_9 : decode cJ0_length_8abf5 9 = .ok (.ishr, 1) := by decide +kernel
theorem dJ0_length_8abf5_10 : decode cJ0_length_8abf5 10 = .ok (.ireturn, 1) := by decide +kernel
theorem dJ0_indexOf_0f7a4_0 : decode cJ0_indexOf_0f7a4 0 = .ok (.aload_n 0, 1) := by decide +kernel
theorem dJ0_indexOf_0f7a4_1 : decode cJ0_indexOf_0f7a4 1 = .ok (.iload_n 1, 1) := by decide +kernel
theorem dJ0_indexOf_0f7a4_2 : decode cJ0_indexOf_0f7a4 2 = .ok (.iconst 0, 1) := by decide +kernel
theorem dJ0_indexOf_0f7a4_3 : decode cJ0_indexOf_0f7a4 3 = .ok (.invokevirtual 633, 3) := by decide +kernel
theorem dJ0_indexOf_0f7a4_6 : decode cJ0_indexOf_0f7a4 6 = .ok (.ireturn, 1) := by decide +kernel
theorem dJ0_indexOf_7cf53_0 : decode cJ0_indexOf_7cf53 0 = .ok (.aload_n 0, 1) := by decide +kernel
theorem dJ0_indexOf_7cf53_1 : decode cJ0_indexOf_7cf53 1 = .ok (.invokevirtual 492, 3) := by decide +kernel
theorem dJ0_indexOf_7cf53_4 : decode cJ0_indexOf_7cf53 4 = .ok (.ifCond .eq 19, 3) := by decide +kernel
theorem dJ0_indexOf_7cf53_7 : decode cJ0_indexOf_7cf53 7 = .ok (.aload_n 0, 1) := by decide +kernel
theorem dJ0_indexOf_7cf53_8 : decode cJ0_indexOf_7cf53 8 = .ok (.getfield 9, 3) := by decide +kernel
theorem dJ0_indexOf_7cf53_11 : decode cJ0_indexOf_7cf53 11 = .ok (.iload_n 1, 1) := by decide +kernel
theorem dJ0_indexOf_7cf53_12 : decode cJ0_indexOf_7cf53 12 = .ok (.iload_n 2, 1) := by decide +kernel
theorem dJ0_indexOf_7cf53_13 : decode cJ0_indexOf_7cf53 13 = .ok (.aload_n 0, 1) := by decide +kernel
theorem dJ0_indexOf_7cf53_14 : decode cJ0_indexOf_7cf53 14 = .ok (.invokevirtual 505, 3) := by decide +kernel
theorem dJ0_indexOf_7cf53_17 : decode cJ0_indexOf_7cf53 17 = .ok (.invokestatic 637, 3) := by decide +kernel
theorem dJ0_indexOf_7cf53_20 : decode cJ0_indexOf_7cf53 20 = .ok (.goto 16, 3) := by decide +kernel
theorem dJ0_indexOf_7cf53_23 : decode cJ0_indexOf_7cf53 23 = .ok (.aload_n 0, 1) := by decide +kernel
theorem dJ0_indexOf_7cf53_24 : decode cJ0_indexOf_7cf53 24 = .ok (.getfield 9, 3) := by decide +kernel
theorem dJ0_indexOf_7cf53_27 : decode cJ0_indexOf_7cf53 27 = .ok (.iload_n 1, 1) := by decide +kernel
theorem dJ0_indexOf_7cf53_28 : decode cJ0_indexOf_7cf53 28 = .ok (.iload_n 2, 1) := by decide +kernel
theorem dJ0_indexOf_7cf53_29 : decode cJ0_indexOf_7cf53 29 = .ok (.aload_n 0, 1) := by decide +kernel
theorem dJ0_indexOf_7cf53_30 : decode cJ0_indexOf_7cf53 30 = .ok (.invokevirtual 505, 3) := by decide +kernel
theorem dJ0_indexOf_7cf53_33 : decode cJ0_indexOf_7cf53 33 = .ok (.invokestatic 640, 3) := by decide +kernel
theorem dJ0_indexOf_7cf53_36 : decode cJ0_indexOf_7cf53 36 = .ok (.ireturn, 1) := by decide +kernel
theorem dJ0_coder_7d493_0 : decode cJ0_coder_7d493 0 = .ok (.getstatic 38, 3) := by decide +kernel
theorem dJ0_coder_7d493_3 : decode cJ0_coder_7d493 3 = .ok (.ifCond .eq 10, 3) := by decide +kernel
theorem dJ0_coder_7d493_6 : decode cJ0_coder_7d493 6 = .ok (.aload_n 0, 1) := by decide +kernel
theorem dJ0_coder_7d493_7 : decode cJ0_coder_7d493 7 = .ok (.getfield 15, 3) := by decide +kernel
theorem dJ0_coder_7d493_10 : decode cJ0_coder_7d493 10 = .ok (.goto 4, 3) := by decide +kernel
theorem dJ0_coder_7d493_13 : decode cJ0_coder_7d493 13 = .ok (.iconst 1, 1) := by decide +kernel
theorem dJ0_coder_7d493_14 : decode cJ0_coder_7d493 14 = .ok (.ireturn, 1) := by decide +kernel
theorem dJ0_isLatin1_aae02_0 : decode cJ0_isLatin1_aae02 0 = .ok (.getstatic 38, 3) := by decide +kernel
theorem dJ0_isLatin1_aae02_3 : decode cJ0_isLatin1_aae02 3 = .ok (.ifCond .eq 14, 3) := by decide +kernel
theorem dJ0_isLatin1_aae02_6 : decode cJ0_isLatin1_aae02 6 = .ok (.aload_n 0, 1) := by decide +kernel
theorem dJ0_isLatin1_aae02_7 : decode cJ0_isLatin1_aae02 7 = .ok (.getfield 15, 3) := by decide +kernel
theorem dJ0_isLatin1_aae02_10 : decode cJ0_isLatin1_aae02 10 = .ok (.ifCond .ne 7, 3) := by decide +kernel
theorem dJ0_isLatin1_aae02_13 : decode cJ0_isLatin1_aae02 13 = .ok (.iconst 1, 1) := by decide +kernel
theorem dJ0_isLatin1_aae02_14 : decode cJ0_isLatin1_aae02 14 = .ok (.goto 4, 3) := by decide +kernel
theorem dJ0_isLatin1_aae02_17 : decode cJ0_isLatin1_aae02 17 = .ok (.iconst 0, 1) := by decide +kernel
theorem dJ0_isLatin1_aae02_18 : decode cJ0_isLatin1_aae02 18 = .ok (.ireturn, 1) := by decide +kernel
theorem dJ0_checkBoundsBeginEnd_23922_0 : decode cJ0_checkBoundsBeginEnd_23922 0 = .ok (.iload_n 0, 1) := by decide +kernel
theorem dJ0_checkBoundsBeginEnd_23922_1 : decode cJ0_checkBoundsBeginEnd_23922 1 = .ok (.iload_n 1, 1) := by decide +kernel
theorem dJ0_checkBoundsBeginEnd_23922_2 : decode cJ0_checkBoundsBeginEnd_23922 2 = .ok (.iload_n 2, 1) := by decide +kernel
theorem dJ0_checkBoundsBeginEnd_23922_3 : decode cJ0_checkBoundsBeginEnd_23922 3 = .ok (.getstatic 1053, 3) := by decide +kernel
theorem dJ0_checkBoundsBeginEnd_23922_6 : decode cJ0_checkBoundsBeginEnd_23922 6 = .ok (.invokestatic 1062, 3) := by decide +kernel
theorem dJ0_checkBoundsBeginEnd_23922_9 : decode cJ0_checkBoundsBeginEnd_23922 9 = .ok (.pop, 1) := by decide +kernel
theorem dJ0_checkBoundsBeginEnd_23922_10 : decode cJ0_checkBoundsBeginEnd_23922 10 = .ok (.return_, 1) := by decide +kernel
theorem dJ1_canEncode_9a6ad_0 : decode cJ1_canEncode_9a6ad 0 = .ok (.iload_n 0, 1) := by decide +kernel
theorem dJ1_canEncode_9a6ad_1 : decode cJ1_canEncode_9a6ad 1 = .ok (.ifCond .lt 14, 3) := by decide +kernel
theorem dJ1_canEncode_9a6ad_4 : decode cJ1_canEncode_9a6ad 4 = .ok (.iload_n 0, 1) := by decide +kernel
theorem dJ1_canEncode_9a6ad_5 : decode cJ1_canEncode_9a6ad 5 = .ok (.sipush 255, 3) := by decide +kernel
theorem dJ1_canEncode_9a6ad_8 : decode cJ1_canEncode_9a6ad 8 = .ok (.if_icmp .gt 7, 3) := by decide +kernel
theorem dJ1_canEncode_9a6ad_11 : decode cJ1_canEncode_9a6ad 11 = .ok (.iconst 1, 1) := by decide +kernel
theorem dJ1_canEncode_9a6ad_12 : decode cJ1_canEncode_9a6ad 12 = .ok (.goto 4, 3) := by decide +kernel
theorem dJ1_canEncode_9a6ad_15 : decode cJ1_canEncode_9a6ad 15 = .ok (.iconst 0, 1) := by decide +kernel
theorem dJ1_canEncode_9a6ad_16 : decode cJ1_canEncode_9a6ad 16 = .ok (.ireturn, 1) := by decide +kernel
theorem dJ1_indexOf_4cfef_0 : decode cJ1_indexOf_4cfef 0 = .ok (.iload_n 1, 1) := by decide +kernel
theorem dJ1_indexOf_4cfef_1 : decode cJ1_indexOf_4cfef 1 = .ok (.invokestatic 88, 3) := by decide +kernel
theorem dJ1_indexOf_4cfef_4 : decode cJ1_indexOf_4cfef 4 = .ok (.ifCond .ne 5, 3) := by decide +kernel
theorem dJ1_indexOf_4cfef_7 : decode cJ1_indexOf_4cfef 7 = .ok (.iconst (-1), 1) := by decide +kernel
theorem dJ1_indexOf_4cfef_8 : decode cJ1_indexOf_4cfef 8 = .ok (.ireturn, 1) := by decide +kernel
theorem dJ1_indexOf_4cfef_9 : decode cJ1_indexOf_4cfef 9 = .ok (.iload_n 2, 1) := by decide +kernel
theorem dJ1_indexOf_4cfef_10 : decode cJ1_indexOf_4cfef 10 = .ok (.iconst 0, 1) := by decide +kernel
theorem dJ1_indexOf_4cfef_11 : decode cJ1_indexOf_4cfef 11 = .ok (.invokestatic 92, 3) := by decide +kernel
theorem dJ1_indexOf_4cfef_14 : decode cJ1_indexOf_4cfef 14 = .ok (.istore_n 2, 1) := by decide +kernel
theorem dJ1_indexOf_4cfef_15 : decode cJ1_indexOf_4cfef 15 = .ok (.iload_n 3, 1) := by decide +kernel
theorem dJ1_indexOf_4cfef_16 : decode cJ1_indexOf_4cfef 16 = .ok (.aload_n 0, 1) := by decide +kernel
theorem dJ1_indexOf_4cfef_17 : decode cJ1_indexOf_4cfef 17 = .ok (.arraylength, 1) := by decide +kernel
theorem dJ1_indexOf_4cfef_18 : decode cJ1_indexOf_4cfef 18 = .ok (.invokestatic 38, 3) := by decide +kernel
theorem dJ1_indexOf_4cfef_21 : decode cJ1_indexOf_4cfef 21 = .ok (.istore_n 3, 1) := by decide +kernel
theorem dJ1_indexOf_4cfef_22 : decode cJ1_indexOf_4cfef 22 = .ok (.iload_n 2, 1) := by decide +kernel
theorem dJ1_indexOf_4cfef_23 : decode cJ1_indexOf_4cfef 23 = .ok (.iload_n 3, 1) := by decide +kernel
theorem dJ1_indexOf_4cfef_24 : decode cJ1_indexOf_4cfef 24 = .ok (.if_icmp .lt 5, 3) := by decide +kernel
theorem dJ1_indexOf_4cfef_27 : decode cJ1_indexOf_4cfef 27 = .ok (.iconst (-1), 1) := by decide +kernel
theorem dJ1_indexOf_4cfef_28 : decode cJ1_indexOf_4cfef 28 = .ok (.ireturn, 1) := by decide +kernel
theorem dJ1_indexOf_4cfef_29 : decode cJ1_indexOf_4cfef 29 = .ok (.aload_n 0, 1) := by decide +kernel
theorem dJ1_indexOf_4cfef_30 : decode cJ1_indexOf_4cfef 30 = .ok (.iload_n 1, 1) := by decide +kernel
theorem dJ1_indexOf_4cfef_31 : decode cJ1_indexOf_4cfef 31 = .ok (.iload_n 2, 1) := by decide +kernel
theorem dJ1_indexOf_4cfef_32 : decode cJ1_indexOf_4cfef 32 = .ok (.iload_n 3, 1) := by decide +kernel
theorem dJ1_indexOf_4cfef_33 : decode cJ1_indexOf_4cfef 33 = .ok (.invokestatic 95, 3) := by decide +kernel
theorem dJ1_indexOf_4cfef_36 : decode cJ1_indexOf_4cfef 36 = .ok (.ireturn, 1) := by decide +kernel
theorem dJ1_indexOfChar_4cfef_0 : decode cJ1_indexOfChar_4cfef 0 = .ok (.iload_n 1, 1) := by decide +kernel
theorem dJ1_indexOfChar_4cfef_1 : decode cJ1_indexOfChar_4cfef 1 = .ok (.i2b, 1) := by decide +kernel
theorem dJ1_indexOfChar_4cfef_2 : decode cJ1_indexOfChar_4cfef 2 = .ok (.istore 4, 2) := by decide +kernel
theorem dJ1_indexOfChar_4cfef_4 : decode cJ1_indexOfChar_4cfef 4 = .ok (.iload_n 2, 1) := by decide +kernel
theorem dJ1_indexOfChar_4cfef_5 : decode cJ1_indexOfChar_4cfef 5 = .ok (.istore 5, 2) := by decide +kernel
theorem dJ1_indexOfChar_4cfef_7 : decode cJ1_indexOfChar_4cfef 7 = .ok (.iload 5, 2) := by decide +kernel
theorem dJ1_indexOfChar_4cfef_9 : decode cJ1_indexOfChar_4cfef 9 = .ok (.iload_n 3, 1) := by decide +kernel
theorem dJ1_indexOfChar_4cfef_10 : decode cJ1_indexOfChar_4cfef 10 = .ok (.if_icmp .ge 21, 3) := by decide +kernel
theorem dJ1_indexOfChar_4cfef_13 : decode cJ1_indexOfChar_4cfef 13 = .ok (.aload_n 0, 1) := by decide +kernel
theorem dJ1_indexOfChar_4cfef_14 : decode cJ1_indexOfChar_4cfef 14 = .ok (.iload 5, 2) := by decide +kernel
theorem dJ1_indexOfChar_4cfef_16 : decode cJ1_indexOfChar_4cfef 16 = .ok (.baload, 1) := by decide +kernel
theorem dJ1_indexOfChar_4cfef_17 : decode cJ1_indexOfChar_4cfef 17 = .ok (.iload 4, 2) := by decide +kernel
theorem dJ1_indexOfChar_4cfef_19 : decode cJ1_indexOfChar_4cfef 19 = .ok (.if_icmp .ne 6, 3) := by decide +kernel
theorem dJ1_indexOfChar_4cfef_22 : decode cJ1_indexOfChar_4cfef 22 = .ok (.iload 5, 2) := by decide +kernel
theorem dJ1_indexOfChar_4cfef_24 : decode cJ1_indexOfChar_4cfef 24 = .ok (.ireturn, 1) := by decide +kernel
theorem dJ1_indexOfChar_4cfef_25 : decode cJ1_indexOfChar_4cfef 25 = .ok (.iinc 5 1, 3) := by decide +kernel
theorem dJ1_indexOfChar_4cfef_28 : decode cJ1_indexOfChar_4cfef 28 = .ok (.goto (-21), 3) := by decide +kernel
theorem dJ1_indexOfChar_4cfef_31 : decode cJ1_indexOfChar_4cfef 31 = .ok (.iconst (-1), 1) := by decide +kernel
theorem dJ1_indexOfChar_4cfef_32 : decode cJ1_indexOfChar_4cfef 32 = .ok (.ireturn, 1) := by decide +kernel
theorem dJ2_getChar_3b067_0 : decode cJ2_getChar_3b067 0 = .ok (.getstatic 44, 3) := by decide +kernel
theorem dJ2_getChar_3b067_3 : decode cJ2_getChar_3b067 3 = .ok (.ifCond .ne 25, 3) := by decide +kernel
theorem dJ2_getChar_3b067_6 : decode cJ2_getChar_3b067 6 = .ok (.iload_n 1, 1) := by decide +kernel
theorem dJ2_getChar_3b067_7 : decode cJ2_getChar_3b067 7 = .ok (.ifCond .lt 11, 3) := by decide +kernel
theorem dJ2_getChar_3b067_10 : decode cJ2_getChar_3b067 10 = .ok (.iload_n 1, 1) := by decide +kernel
theorem dJ2_getChar_3b067_11 : decode cJ2_getChar_3b067 11 = .ok (.aload_n 0, 1) := by decide +kernel
theorem dJ2_getChar_3b067_12 : decode cJ2_getChar_3b067 12 = .ok (.invokestatic 48, 3) := by decide +kernel
theorem dJ2_getChar_3b067_15 : decode cJ2_getChar_3b067 15 = .ok (.if_icmp .lt 13, 3) := by decide +kernel
theorem dJ2_getChar_3b067_18 : decode cJ2_getChar_3b067 18 = .ok (.new 52, 3) := by decide +kernel
theorem dJ2_getChar_3b067_21 : decode cJ2_getChar_3b067 21 = .ok (.dup, 1) := by decide +kernel
theorem dJ2_getChar_3b067_22 : decode cJ2_getChar_3b067 22 = .ok (.ldc 54, 2) := by decide +kernel
theorem dJ2_getChar_3b067_24 : decode cJ2_getChar_3b067 24 = .ok (.invokespecial 56, 3) := by decide +kernel
theorem dJ2_getChar_3b067_27 : decode cJ2_getChar_3b067 27 = .ok (.athrow, 1) := by decide +kernel
theorem dJ2_getChar_3b067_28 : decode cJ2_getChar_3b067 28 = .ok (.iload_n 1, 1) := by decide +kernel
theorem dJ2_getChar_3b067_29 : decode cJ2_getChar_3b067 29 = .ok (.iconst 1, 1) := by decide +kernel
theorem dJ2_getChar_3b067_30 : decode cJ2_getChar_3b067 30 = .ok (.ishl, 1) := by decide +kernel
theorem dJ2_getChar_3b067_31 : decode cJ2_getChar_3b067 31 = .ok (.istore_n 1, 1) := by decide +kernel
theorem dJ2_getChar_3b067_32 : decode cJ2_getChar_3b067 32 = .ok (.aload_n 0, 1) := by decide +kernel
theorem dJ2_getChar_3b067_33 : decode cJ2_getChar_3b067 33 = .ok (.iload_n 1, 1) := by decide +kernel
theorem dJ2_getChar_3b067_34 : decode cJ2_getChar_3b067 34 = .ok (.iinc 1 1, 3) := by decide +kernel
theorem dJ2_getChar_3b067_37 : decode cJ2_getChar_3b067 37 = .ok (.baload, 1) := by decide +kernel
theorem dJ2_getChar_3b067_38 : decode cJ2_getChar_3b067 38 = .ok (.sipush 255, 3) := by decide +kernel
theorem dJ2_getChar_3b067_41 : decode cJ2_getChar_3b067 41 = .ok (.iand, 1) := by decide +kernel
theorem dJ2_getChar_3b067_42 : decode cJ2_getChar_3b067 42 = .ok (.getstatic 59, 3) := by decide +kernel
theorem dJ2_getChar_3b067_45 : decode cJ2_getChar_3b067 45 = .ok (.ishl, 1) := by decide +kernel
theorem dJ2_getChar_3b067_46 : decode cJ2_getChar_3b067 46 = .ok (.aload_n 0, 1) := by decide +kernel
theorem dJ2_getChar_3b067_47 : decode cJ2_getChar_3b067 47 = .ok (.iload_n 1, 1) := by decide +kernel
theorem dJ2_getChar_3b067_48 : decode cJ2_getChar_3b067 48 = .ok (.baload, 1) := by decide +kernel
theorem dJ2_getChar_3b067_49 : decode cJ2_getChar_3b067 49 = .ok (.sipush 255, 3) := by decide +kernel
theorem dJ2_getChar_3b067_52 : decode cJ2_getChar_3b067 52 = .ok (.iand, 1) := by decide +kernel
theorem dJ2_getChar_3b067_53 : decode cJ2_getChar_3b067 53 = .ok (.getstatic 63, 3) := by decide +kernel
theorem dJ2_getChar_3b067_56 : decode cJ2_getChar_3b067 56 = .ok (.ishl, 1) := by decide +kernel
theorem dJ2_getChar_3b067_57 : decode cJ2_getChar_3b067 57 = .ok (.ior, 1) := by decide +kernel
theorem dJ2_getChar_3b067_58 : decode cJ2_getChar_3b067 58 = .ok (.i2c, 1) := by decide +kernel
theorem dJ2_getChar_3b067_59 : decode cJ2_getChar_3b067 59 = .ok (.ireturn, 1) := by decide +kernel
theorem dJ2_length_9d52b_0 : decode cJ2_length_9d52b 0 = .ok (.aload_n 0, 1) := by decide +kernel
theorem dJ2_length_9d52b_1 : decode cJ2_length_9d52b 1 = .ok (.arraylength, 1) := by decide +kernel
theorem dJ2_length_9d52b_2 : decode cJ2_length_9d52b 2 = .ok (.iconst 1, 1) := by decide +kernel
theorem dJ2_length_9d52b_3 : decode cJ2_length_9d52b 3 = .ok (.ishr, 1) := by decide +kernel
theorem dJ2_length_9d52b_4 : decode cJ2_length_9d52b 4 = .ok (.ireturn, 1) := by decide +kernel
theorem dJ2_indexOf_4cfef_0 : decode cJ2_indexOf_4cfef 0 = .ok (.iload_n 2, 1) := by decide +kernel
theorem dJ2_indexOf_4cfef_1 : decode cJ2_indexOf_4cfef 1 = .ok (.iconst 0, 1) := by decide +kernel
theorem dJ2_indexOf_4cfef_2 : decode cJ2_indexOf_4cfef 2 = .ok (.invokestatic 224, 3) := by decide +kernel
theorem dJ2_indexOf_4cfef_5 : decode cJ2_indexOf_4cfef 5 = .ok (.istore_n 2, 1) := by decide +kernel
theorem dJ2_indexOf_4cfef_6 : decode cJ2_indexOf_4cfef 6 = .ok (.iload_n 3, 1) := by decide +kernel
theorem dJ2_indexOf_4cfef_7 : decode cJ2_indexOf_4cfef 7 = .ok (.aload_n 0, 1) := by decide +kernel
theorem dJ2_indexOf_4cfef_8 : decode cJ2_indexOf_4cfef 8 = .ok (.arraylength, 1) := by decide +kernel
theorem dJ2_indexOf_4cfef_9 : decode cJ2_indexOf_4cfef 9 = .ok (.iconst 1, 1) := by decide +kernel
theorem dJ2_indexOf_4cfef_10 : decode cJ2_indexOf_4cfef 10 = .ok (.ishr, 1) := by decide +kernel
theorem dJ2_indexOf_4cfef_11 : decode cJ2_indexOf_4cfef 11 = .ok (.invokestatic 183, 3) := by decide +kernel
theorem dJ2_indexOf_4cfef_14 : decode cJ2_indexOf_4cfef 14 = .ok (.istore_n 3, 1) := by decide +kernel
theorem dJ2_indexOf_4cfef_15 : decode cJ2_indexOf_4cfef 15 = .ok (.iload_n 2, 1) := by decide +kernel
theorem dJ2_indexOf_4cfef_16 : decode cJ2_indexOf_4cfef 16 = .ok (.iload_n 3, 1) := by decide +kernel
theorem dJ2_indexOf_4cfef_17 : decode cJ2_indexOf_4cfef 17 = .ok (.if_icmp .lt 5, 3) := by decide +kernel
theorem dJ2_indexOf_4cfef_20 : decode cJ2_indexOf_4cfef 20 = .ok (.iconst (-1), 1) := by decide +kernel
theorem dJ2_indexOf_4cfef_21 : decode cJ2_indexOf_4cfef 21 = .ok (.ireturn, 1) := by decide +kernel
theorem dJ2_indexOf_4cfef_22 : decode cJ2_indexOf_4cfef 22 = .ok (.iload_n 1, 1) := by decide +kernel
theorem dJ2_indexOf_4cfef_23 : decode cJ2_indexOf_4cfef 23 = .ok (.ldc 227, 2) := by decide +kernel
theorem dJ2_indexOf_4cfef_25 : decode cJ2_indexOf_4cfef 25 = .ok (.if_icmp .ge 11, 3) := by decide +kernel
theorem dJ2_indexOf_4cfef_28 : decode cJ2_indexOf_4cfef 28 = .ok (.aload_n 0, 1) := by decide +kernel
theorem dJ2_indexOf_4cfef_29 : decode cJ2_indexOf_4cfef 29 = .ok (.iload_n 1, 1) := by decide +kernel
theorem dJ2_indexOf_4cfef_30 : decode cJ2_indexOf_4cfef 30 = .ok (.iload_n 2, 1) := by decide +kernel
theorem dJ2_indexOf_4cfef_31 : decode cJ2_indexOf_4cfef 31 = .ok (.iload_n 3, 1) := by decide +kernel
theorem dJ2_indexOf_4cfef_32 : decode cJ2_indexOf_4cfef 32 = .ok (.invokestatic 228, 3) := by decide +kernel
theorem dJ2_indexOf_4cfef_35 : decode cJ2_indexOf_4cfef 35 = .ok (.ireturn, 1) := by decide +kernel
theorem dJ2_indexOf_4cfef_36 : decode cJ2_indexOf_4cfef 36 = .ok (.aload_n 0, 1) := by decide +kernel
theorem dJ2_indexOf_4cfef_37 : decode cJ2_indexOf_4cfef 37 = .ok (.iload_n 1, 1) := by decide +kernel
theorem dJ2_indexOf_4cfef_38 : decode cJ2_indexOf_4cfef 38 = .ok (.iload_n 2, 1) := by decide +kernel
theorem dJ2_indexOf_4cfef_39 : decode cJ2_indexOf_4cfef 39 = .ok (.iload_n 3, 1) := by decide +kernel
theorem dJ2_indexOf_4cfef_40 : decode cJ2_indexOf_4cfef 40 = .ok (.invokestatic 232, 3) := by decide +kernel
theorem dJ2_indexOf_4cfef_43 : decode cJ2_indexOf_4cfef 43 = .ok (.ireturn, 1) := by decide +kernel
theorem dJ2_indexOfChar_4cfef_0 : decode cJ2_indexOfChar_4cfef 0 = .ok (.iload_n 2, 1) := by decide +kernel
theorem dJ2_indexOfChar_4cfef_1 : decode cJ2_indexOfChar_4cfef 1 = .ok (.iload_n 3, 1) := by decide +kernel
theorem dJ2_indexOfChar_4cfef_2 : decode cJ2_indexOfChar_4cfef 2 = .ok (.aload_n 0, 1) := by decide +kernel
theorem dJ2_indexOfChar_4cfef_3 : decode cJ2_indexOfChar_4cfef 3 = .ok (.invokestatic 96, 3) := by decide +kernel
theorem dJ2_indexOfChar_4cfef_6 : decode cJ2_indexOfChar_4cfef 6 = .ok (.aload_n 0, 1) := by decide +kernel
theorem dJ2_indexOfChar_4cfef_7 : decode cJ2_indexOfChar_4cfef 7 = .ok (.iload_n 1, 1) := by decide +kernel
theorem dJ2_indexOfChar_4cfef_8 : decode cJ2_indexOfChar_4cfef 8 = .ok (.iload_n 2, 1) := by decide +kernel
theorem dJ2_indexOfChar_4cfef_9 : decode cJ2_indexOfChar_4cfef 9 = .ok (.iload_n 3, 1) := by decide +kernel
theorem dJ2_indexOfChar_4cfef_10 : decode cJ2_indexOfChar_4cfef 10 = .ok (.invokestatic 244, 3) := by decide +kernel
theorem dJ2_indexOfChar_4cfef_13 : decode cJ2_indexOfChar_4cfef 13 = .ok (.ireturn, 1) := by decide +kernel
theorem dJ2_indexOfCharUnsafe_4cfef_0 : decode cJ2_indexOfCharUnsafe_4cfef 0 = .ok (.iload_n 2, 1) := by decide +kernel
theorem dJ2_indexOfCharUnsafe_4cfef_1 : decode cJ2_indexOfCharUnsafe_4cfef 1 = .ok (.istore 4, 2) := by decide +kernel
theorem dJ2_indexOfCharUnsafe_4cfef_3 : decode cJ2_indexOfCharUnsafe_4cfef 3 = .ok (.iload 4, 2) := by decide +kernel
theorem dJ2_indexOfCharUnsafe_4cfef_5 : decode cJ2_indexOfCharUnsafe_4cfef 5 = .ok (.iload_n 3, 1) := by decide +kernel
theorem dJ2_indexOfCharUnsafe_4cfef_6 : decode cJ2_indexOfCharUnsafe_4cfef 6 = .ok (.if_icmp .ge 22, 3) := by decide +kernel
theorem dJ2_indexOfCharUnsafe_4cfef_9 : decode cJ2_indexOfCharUnsafe_4cfef 9 = .ok (.aload_n 0, 1) := by decide +kernel
theorem dJ2_indexOfCharUnsafe_4cfef_10 : decode cJ2_indexOfCharUnsafe_4cfef 10 = .ok (.iload 4, 2) := by decide +kernel
theorem dJ2_indexOfCharUnsafe_4cfef_12 : decode cJ2_indexOfCharUnsafe_4cfef 12 = .ok (.invokestatic 71, 3) := by decide +kernel
theorem dJ2_indexOfCharUnsafe_4cfef_15 : decode cJ2_indexOfCharUnsafe_4cfef 15 = .ok (.iload_n 1, 1) := by decide +kernel
theorem dJ2_indexOfCharUnsafe_4cfef_16 : decode cJ2_indexOfCharUnsafe_4cfef 16 = .ok (.if_icmp .ne 6, 3) := by decide +kernel
theorem dJ2_indexOfCharUnsafe_4cfef_19 : decode cJ2_indexOfCharUnsafe_4cfef 19 = .ok (.iload 4, 2) := by decide +kernel
theorem dJ2_indexOfCharUnsafe_4cfef_21 : decode cJ2_indexOfCharUnsafe_4cfef 21 = .ok (.ireturn, 1) := by decide +kernel
theorem dJ2_indexOfCharUnsafe_4cfef_22 : decode cJ2_indexOfCharUnsafe_4cfef 22 = .ok (.iinc 4 1, 3) := by decide +kernel
theorem dJ2_indexOfCharUnsafe_4cfef_25 : decode cJ2_indexOfCharUnsafe_4cfef 25 = .ok (.goto (-22), 3) := by decide +kernel
theorem dJ2_indexOfCharUnsafe_4cfef_28 : decode cJ2_indexOfCharUnsafe_4cfef 28 = .ok (.iconst (-1), 1) := by decide +kernel
theorem dJ2_indexOfCharUnsafe_4cfef_29 : decode cJ2_indexOfCharUnsafe_4cfef 29 = .ok (.ireturn, 1) := by decide +kernel
theorem dJ2_indexOfSupplementary_4cfef_0 : decode cJ2_indexOfSupplementary_4cfef 0 = .ok (.iload_n 1, 1) := by decide +kernel
theorem dJ2_indexOfSupplementary_4cfef_1 : decode cJ2_indexOfSupplementary_4cfef 1 = .ok (.invokestatic 164, 3) := by decide +kernel
theorem dJ2_indexOfSupplementary_4cfef_4 : decode cJ2_indexOfSupplementary_4cfef 4 = .ok (.ifCond .eq 65, 3) := by decide +kernel
theorem dJ2_indexOfSupplementary_4cfef_7 : decode cJ2_indexOfSupplementary_4cfef 7 = .ok (.iload_n 1, 1) := by decide +kernel
theorem dJ2_indexOfSupplementary_4cfef_8 : decode cJ2_indexOfSupplementary_4cfef 8 = .ok (.invokestatic 157, 3) := by decide +kernel
theorem dJ2_indexOfSupplementary_4cfef_11 : decode cJ2_indexOfSupplementary_4cfef 11 = .ok (.istore 4, 2) := by decide +kernel
theorem dJ2_indexOfSupplementary_4cfef_13 : decode cJ2_indexOfSupplementary_4cfef 13 = .ok (.iload_n 1, 1) := by decide +kernel
theorem dJ2_indexOfSupplementary_4cfef_14 : decode cJ2_indexOfSupplementary_4cfef 14 = .ok (.invokestatic 161, 3) := by decide +kernel
theorem dJ2_indexOfSupplementary_4cfef_17 : decode cJ2_indexOfSupplementary_4cfef 17 = .ok (.istore 5, 2) := by decide +kernel
theorem dJ2_indexOfSupplementary_4cfef_19 : decode cJ2_indexOfSupplementary_4cfef 19 = .ok (.iload_n 2, 1) := by decide +kernel
theorem dJ2_indexOfSupplementary_4cfef_20 : decode cJ2_indexOfSupplementary_4cfef 20 = .ok (.iload_n 3, 1) := by decide +kernel
theorem dJ2_indexOfSupplementary_4cfef_21 : decode cJ2_indexOfSupplementary_4cfef 21 = .ok (.aload_n 0, 1) := by decide +kernel
theorem dJ2_indexOfSupplementary_4cfef_22 : decode cJ2_indexOfSupplementary_4cfef 22 = .ok (.invokestatic 96, 3) := by decide +kernel
theorem dJ2_indexOfSupplementary_4cfef_25 : decode cJ2_indexOfSupplementary_4cfef 25 = .ok (.iload_n 2, 1) := by decide +kernel
theorem dJ2_indexOfSupplementary_4cfef_26 : decode cJ2_indexOfSupplementary_4cfef 26 = .ok (.istore 6, 2) := by decide +kernel
theorem dJ2_indexOfSupplementary_4cfef_28 : decode cJ2_indexOfSupplementary_4cfef 28 = .ok (.iload 6, 2) := by decide +kernel
theorem dJ2_indexOfSupplementary_4cfef_30 : decode cJ2_indexOfSupplementary_4cfef 30 = .ok (.iload_n 3, 1) := by decide +kernel
theorem dJ2_indexOfSupplementary_4cfef_31 : decode cJ2_indexOfSupplementary_4cfef 31 = .ok (.iconst 1, 1) := by decide +kernel
theorem dJ2_indexOfSupplementary_4cfef_32 : decode cJ2_indexOfSupplementary_4cfef 32 = .ok (.isub, 1) := by decide +kernel
theorem dJ2_indexOfSupplementary_4cfef_33 : decode cJ2_indexOfSupplementary_4cfef 33 = .ok (.if_icmp .ge 36, 3) := by decide +kernel
theorem dJ2_indexOfSupplementary_4cfef_36 : decode cJ2_indexOfSupplementary_4cfef 36 = .ok (.aload_n 0, 1) := by decide +kernel
theorem dJ2_indexOfSupplementary_4cfef_37 : decode cJ2_indexOfSupplementary_4cfef 37 = .ok (.iload 6, 2) := by decide +kernel
theorem dJ2_indexOfSupplementary_4cfef_39 : decode cJ2_indexOfSupplementary_4cfef 39 = .ok (.invokestatic 71, 3) := by decide +kernel
theorem dJ2_indexOfSupplementary_4cfef_42 : decode cJ2_indexOfSupplementary_4cfef 42 = .ok (.iload 4, 2) := by decide +kernel
theorem dJ2_indexOfSupplementary_4cfef_44 : decode cJ2_indexOfSupplementary_4cfef 44 = .ok (.if_icmp .ne 19, 3) := by decide +kernel
theorem dJ2_indexOfSupplementary_4cfef_47 : decode cJ2_indexOfSupplementary_4cfef 47 = .ok (.aload_n 0, 1) := by decide +kernel
theorem dJ2_indexOfSupplementary_4cfef_48 : decode cJ2_indexOfSupplementary_4cfef 48 = .ok (.iload 6, 2) := by decide +kernel
theorem dJ2_indexOfSupplementary_4cfef_50 : decode cJ2_indexOfSupplementary_4cfef 50 = .ok (.iconst 1, 1) := by decide +kernel
theorem dJ2_indexOfSupplementary_4cfef_51 : decode cJ2_indexOfSupplementary_4cfef 51 = .ok (.iadd, 1) := by decide +kernel
theorem dJ2_indexOfSupplementary_4cfef_52 : decode cJ2_indexOfSupplementary_4cfef 52 = .ok (.invokestatic 71, 3) := by decide +kernel
theorem dJ2_indexOfSupplementary_4cfef_55 : decode cJ2_indexOfSupplementary_4cfef 55 = .ok (.iload 5, 2) := by decide +kernel
theorem dJ2_indexOfSupplementary_4cfef_57 : decode cJ2_indexOfSupplementary_4cfef 57 = .ok (.if_icmp .ne 6, 3) := by decide +kernel
theorem dJ2_indexOfSupplementary_4cfef_60 : decode cJ2_indexOfSupplementary_4cfef 60 = .ok (.iload 6, 2) := by decide +kernel
theorem dJ2_indexOfSupplementary_4cfef_62 : decode cJ2_indexOfSupplementary_4cfef 62 = .ok (.ireturn, 1) := by decide +kernel
theorem dJ2_indexOfSupplementary_4cfef_63 : decode cJ2_indexOfSupplementary_4cfef 63 = .ok (.iinc 6 1, 3) := by decide +kernel
theorem dJ2_indexOfSupplementary_4cfef_66 : decode cJ2_indexOfSupplementary_4cfef 66 = .ok (.goto (-38), 3) := by decide +kernel
theorem dJ2_indexOfSupplementary_4cfef_69 : decode cJ2_indexOfSupplementary_4cfef 69 = .ok (.iconst (-1), 1) := by decide +kernel
theorem dJ2_indexOfSupplementary_4cfef_70 : decode cJ2_indexOfSupplementary_4cfef 70 = .ok (.ireturn, 1) := by decide +kernel
theorem dJ2_checkBoundsBeginEnd_d044e_0 : decode cJ2_checkBoundsBeginEnd_d044e 0 = .ok (.iload_n 0, 1) := by decide +kernel
theorem dJ2_checkBoundsBeginEnd_d044e_1 : decode cJ2_checkBoundsBeginEnd_d044e 1 = .ok (.iload_n 1, 1) := by decide +kernel
theorem dJ2_checkBoundsBeginEnd_d044e_2 : decode cJ2_checkBoundsBeginEnd_d044e 2 = .ok (.aload_n 2, 1) := by decide +kernel
theorem dJ2_checkBoundsBeginEnd_d044e_3 : decode cJ2_checkBoundsBeginEnd_d044e 3 = .ok (.invokestatic 48, 3) := by decide +kernel
theorem dJ2_checkBoundsBeginEnd_d044e_6 : decode cJ2_checkBoundsBeginEnd_d044e 6 = .ok (.invokestatic 241, 3) := by decide +kernel
theorem dJ2_checkBoundsBeginEnd_d044e_9 : decode cJ2_checkBoundsBeginEnd_d044e 9 = .ok (.return_, 1) := by decide +kernel
theorem dJ7_fill_53178_0 : decode cJ7_fill_53178 0 = .ok (.iconst 0, 1) := by decide +kernel
theorem dJ7_fill_53178_1 : decode cJ7_fill_53178 1 = .ok (.istore_n 2, 1) := by decide +kernel
theorem dJ7_fill_53178_2 : decode cJ7_fill_53178 2 = .ok (.aload_n 0, 1) := by decide +kernel
theorem dJ7_fill_53178_3 : decode cJ7_fill_53178 3 = .ok (.arraylength, 1) := by decide +kernel
theorem dJ7_fill_53178_4 : decode cJ7_fill_53178 4 = .ok (.istore_n 3, 1) := by decide +kernel
theorem dJ7_fill_53178_5 : decode cJ7_fill_53178 5 = .ok (.iload_n 2, 1) := by decide +kernel
theorem dJ7_fill_53178_6 : decode cJ7_fill_53178 6 = .ok (.iload_n 3, 1) := by decide +kernel
theorem dJ7_fill_53178_7 : decode cJ7_fill_53178 7 = .ok (.if_icmp .ge 13, 3) := by decide +kernel
theorem dJ7_fill_53178_10 : decode cJ7_fill_53178 10 = .ok (.aload_n 0, 1) := by decide +kernel
theorem dJ7_fill_53178_11 : decode cJ7_fill_53178 11 = .ok (.iload_n 2, 1) := by decide +kernel
theorem dJ7_fill_53178_12 : decode cJ7_fill_53178 12 = .ok (.iload_n 1, 1) := by decide +kernel
theorem dJ7_fill_53178_13 : decode cJ7_fill_53178 13 = .ok (.iastore, 1) := by decide +kernel
theorem dJ7_fill_53178_14 : decode cJ7_fill_53178 14 = .ok (.iinc 2 1, 3) := by decide +kernel
theorem dJ7_fill_53178_17 : decode cJ7_fill_53178 17 = .ok (.goto (-12), 3) := by decide +kernel
theorem dJ7_fill_53178_20 : decode cJ7_fill_53178 20 = .ok (.return_, 1) := by decide +kernel
theorem dJ7_copyOf_59c91_0 : decode cJ7_copyOf_59c91 0 = .ok (.iload_n 1, 1) := by decide +kernel
theorem dJ7_copyOf_59c91_1 : decode cJ7_copyOf_59c91 1 = .ok (.aload_n 0, 1) := by decide +kernel
theorem dJ7_copyOf_59c91_2 : decode cJ7_copyOf_59c91 2 = .ok (.arraylength, 1) := by decide +kernel
theorem dJ7_copyOf_59c91_3 : decode cJ7_copyOf_59c91 3 = .ok (.if_icmp .ne 11, 3) := by decide +kernel
theorem dJ7_copyOf_59c91_6 : decode cJ7_copyOf_59c91 6 = .ok (.aload_n 0, 1) := by decide +kernel
theorem dJ7_copyOf_59c91_7 : decode cJ7_copyOf_59c91 7 = .ok (.invokevirtual 316, 3) := by decide +kernel
theorem dJ7_copyOf_59c91_10 : decode cJ7_copyOf_59c91 10 = .ok (.checkcast 317, 3) := by decide +kernel
theorem dJ7_copyOf_59c91_13 : decode cJ7_copyOf_59c91 13 = .ok (.areturn, 1) := by decide +kernel
theorem dJ7_copyOf_59c91_14 : decode cJ7_copyOf_59c91 14 = .ok (.iload_n 1, 1) := by decide +kernel
theorem dJ7_copyOf_59c91_15 : decode cJ7_copyOf_59c91 15 = .ok (.newarray .int, 2) := by decide +kernel
theorem dJ7_copyOf_59c91_17 : decode cJ7_copyOf_59c91 17 = .ok (.astore_n 2, 1) := by decide +kernel
theorem dJ7_copyOf_59c91_18 : decode cJ7_copyOf_59c91 18 = .ok (.aload_n 0, 1) := by decide +kernel
theorem dJ7_copyOf_59c91_19 : decode cJ7_copyOf_59c91 19 = .ok (.iconst 0, 1) := by decide +kernel
theorem dJ7_copyOf_59c91_20 : decode cJ7_copyOf_59c91 20 = .ok (.aload_n 2, 1) := by decide +kernel
theorem dJ7_copyOf_59c91_21 : decode cJ7_copyOf_59c91 21 = .ok (.iconst 0, 1) := by decide +kernel
theorem dJ7_copyOf_59c91_22 : decode cJ7_copyOf_59c91 22 = .ok (.aload_n 0, 1) := by decide +kernel
theorem dJ7_copyOf_59c91_23 : decode cJ7_copyOf_59c91 23 = .ok (.arraylength, 1) := by decide +kernel
theorem dJ7_copyOf_59c91_24 : decode cJ7_copyOf_59c91 24 = .ok (.iload_n 1, 1) := by decide +kernel
theorem dJ7_copyOf_59c91_25 : decode cJ7_copyOf_59c91 25 = .ok (.invokestatic 304, 3) := by decide +kernel
theorem dJ7_copyOf_59c91_28 : decode cJ7_copyOf_59c91 28 = .ok (.invokestatic 150, 3) := by decide +kernel
theorem dJ7_copyOf_59c91_31 : decode cJ7_copyOf_59c91 31 = .ok (.aload_n 2, 1) := by decide +kernel
theorem dJ7_copyOf_59c91_32 : decode cJ7_copyOf_59c91 32 = .ok (.areturn, 1) := by decide +kernel
theorem dJ3_checkFromToIndex_8c36e_0 : decode cJ3_checkFromToIndex_8c36e 0 = .ok (.iload_n 0, 1) := by decide +kernel
theorem dJ3_checkFromToIndex_8c36e_1 : decode cJ3_checkFromToIndex_8c36e 1 = .ok (.ifCond .lt 13, 3) := by decide +kernel
theorem dJ3_checkFromToIndex_8c36e_4 : decode cJ3_checkFromToIndex_8c36e 4 = .ok (.iload_n 0, 1) := by decide +kernel
theorem dJ3_checkFromToIndex_8c36e_5 : decode cJ3_checkFromToIndex_8c36e 5 = .ok (.iload_n 1, 1) := by decide +kernel
theorem dJ3_checkFromToIndex_8c36e_6 : decode cJ3_checkFromToIndex_8c36e 6 = .ok (.if_icmp .gt 8, 3) := by decide +kernel
theorem dJ3_checkFromToIndex_8c36e_9 : decode cJ3_checkFromToIndex_8c36e 9 = .ok (.iload_n 1, 1) := by decide +kernel
theorem dJ3_checkFromToIndex_8c36e_10 : decode cJ3_checkFromToIndex_8c36e 10 = .ok (.iload_n 2, 1) := by decide +kernel
theorem dJ3_checkFromToIndex_8c36e_11 : decode cJ3_checkFromToIndex_8c36e 11 = .ok (.if_icmp .le 11, 3) := by decide +kernel
theorem dJ3_checkFromToIndex_8c36e_14 : decode cJ3_checkFromToIndex_8c36e 14 = .ok (.aload_n 3, 1) := by decide +kernel
theorem dJ3_checkFromToIndex_8c36e_15 : decode cJ3_checkFromToIndex_8c36e 15 = .ok (.iload_n 0, 1) := by decide +kernel
theorem dJ3_checkFromToIndex_8c36e_16 : decode cJ3_checkFromToIndex_8c36e 16 = .ok (.iload_n 1, 1) := by decide +kernel
theorem dJ3_checkFromToIndex_8c36e_17 : decode cJ3_checkFromToIndex_8c36e 17 = .ok (.iload_n 2, 1) := by decide +kernel
theorem dJ3_checkFromToIndex_8c36e_18 : decode cJ3_checkFromToIndex_8c36e 18 = .ok (.invokestatic 99, 3) := by decide +kernel
theorem dJ3_checkFromToIndex_8c36e_21 : decode cJ3_checkFromToIndex_8c36e 21 = .ok (.athrow, 1) := by decide +kernel
theorem dJ3_checkFromToIndex_8c36e_22 : decode cJ3_checkFromToIndex_8c36e 22 = .ok (.iload_n 0, 1) := by decide +kernel
theorem dJ3_checkFromToIndex_8c36e_23 : decode cJ3_checkFromToIndex_8c36e 23 = .ok (.ireturn, 1) := by decide +kernel
