theorem dX10_init_0 : decode cX10_init 0 = .ok (.aload_n 0, 1) := by decide +kernel
theorem dX10_init_1 : decode cX10_init 1 = .ok (.invokespecial 1, 3) := by decide +kernel
theorem dX10_init_4 : decode cX10_init 4 = .ok (.aload_n 0, 1) := by decide +kernel
theorem dX10_init_5 : decode cX10_init 5 = .ok (.bipush 8, 2) := by decide +kernel
theorem dX10_init_7 : decode cX10_init 7 = .ok (.newarray .int, 2) := by decide +kernel
theorem dX10_init_9 : decode cX10_init 9 = .ok (.putfield 7, 3) := by decide +kernel
theorem dX10_init_12 : decode cX10_init 12 = .ok (.aload_n 0, 1) := by decide +kernel
theorem dX10_init_13 : decode cX10_init 13 = .ok (.bipush 9, 2) := by decide +kernel
theorem dX10_init_15 : decode cX10_init 15 = .ok (.newarray .int, 2) := by decide +kernel
theorem dX10_init_17 : decode cX10_init 17 = .ok (.putfield 13, 3) := by decide +kernel
theorem dX10_init_20 : decode cX10_init 20 = .ok (.aload_n 0, 1) := by decide +kernel
theorem dX10_init_21 : decode cX10_init 21 = .ok (.bipush 8, 2) := by decide +kernel
theorem dX10_init_23 : decode cX10_init 23 = .ok (.newarray .int, 2) := by decide +kernel
theorem dX10_init_25 : decode cX10_init 25 = .ok (.putfield 16, 3) := by decide +kernel
theorem dX10_init_28 : decode cX10_init 28 = .ok (.aload_n 0, 1) := by decide +kernel
theorem dX10_init_29 : decode cX10_init 29 = .ok (.bipush 8, 2) := by decide +kernel
theorem dX10_init_31 : decode cX10_init 31 = .ok (.newarray .int, 2) := by decide +kernel
theorem dX10_init_33 : decode cX10_init 33 = .ok (.putfield 19, 3) := by decide +kernel
theorem dX10_init_36 : decode cX10_init 36 = .ok (.aload_n 0, 1) := by decide +kernel
theorem dX10_init_37 : decode cX10_init 37 = .ok (.bipush 14, 2) := by decide +kernel
theorem dX10_init_39 : decode cX10_init 39 = .ok (.newarray .int, 2) := by decide +kernel
theorem dX10_init_41 : decode cX10_init 41 = .ok (.putfield 22, 3) := by decide +kernel
theorem dX10_init_44 : decode cX10_init 44 = .ok (.aload_n 0, 1) := by decide +kernel
theorem dX10_init_45 : decode cX10_init 45 = .ok (.bipush 14, 2) := by decide +kernel
theorem dX10_init_47 : decode cX10_init 47 = .ok (.newarray .int, 2) := by decide +kernel
theorem dX10_init_49 : decode cX10_init 49 = .ok (.putfield 25, 3) := by decide +kernel
theorem dX10_init_52 : decode cX10_init 52 = .ok (.aload_n 0, 1) := by decide +kernel
theorem dX10_init_53 : decode cX10_init 53 = .ok (.bipush 14, 2) := by decide +kernel
theorem dX10_init_55 : decode cX10_init 55 = .ok (.newarray .int, 2) := by decide +kernel
theorem dX10_init_57 : decode cX10_init 57 = .ok (.putfield 28, 3) := by decide +kernel
theorem dX10_init_60 : decode cX10_init 60 = .ok (.aload_n 0, 1) := by decide +kernel
theorem dX10_init_61 : decode cX10_init 61 = .ok (.bipush 14, 2) := by decide +kernel
theorem dX10_init_63 : decode cX10_init 63 = .ok (.newarray .int, 2) := by decide +kernel
theorem dX10_init_65 : decode cX10_init 65 = .ok (.putfield 31, 3) := by decide +kernel
theorem dX10_init_68 : decode cX10_init 68 = .ok (.aload_n 0, 1) := by decide +kernel
theorem dX10_init_69 : decode cX10_init 69 = .ok (.bipush 14, 2) := by decide +kernel
theorem dX10_init_71 : decode cX10_init 71 = .ok (.newarray .int, 2) := by decide +kernel
theorem dX10_init_73 : decode cX10_init 73 = .ok (.putfield 34, 3) := by decide +kernel
theorem dX10_init_76 : decode cX10_init 76 = .ok (.aload_n 0, 1) := by decide +kernel
theorem dX10_init_77 : decode cX10_init 77 = .ok (.sipush 196, 3) := by decide +kernel
theorem dX10_init_80 : decode cX10_init 80 = .ok (.newarray .int, 2) := by decide +kernel
theorem dX10_init_82 : decode cX10_init 82 = .ok (.putfield 37, 3) := by decide +kernel
theorem dX10_init_85 : decode cX10_init 85 = .ok (.aload_n 0, 1) := by decide +kernel
theorem dX10_init_86 : decode cX10_init 86 = .ok (.bipush 14, 2) := by decide +kernel
theorem dX10_init_88 : decode cX10_init 88 = .ok (.newarray .long, 2) := by decide +kernel
theorem dX10_init_90 : decode cX10_init 90 = .ok (.putfield 40, 3) := by decide +kernel
theorem dX10_init_93 : decode cX10_init 93 = .ok (.aload_n 0, 1) := by decide +kernel
theorem dX10_init_94 : decode cX10_init 94 = .ok (.sipush 676, 3) := by decide +kernel
theorem dX10_init_97 : decode cX10_init 97 = .ok (.newarray .boolean, 2) := by decide +kernel
theorem dX10_init_99 : decode cX10_init 99 = .ok (.putfield 44, 3) := by decide +kernel
theorem dX10_init_102 : decode cX10_init 102 = .ok (.aload_n 0, 1) := by decide +kernel
theorem dX10_init_103 : decode cX10_init 103 = .ok (.bipush 14, 2) := by decide +kernel
theorem dX10_init_105 : decode cX10_init 105 = .ok (.putfield 48, 3) := by decide +kernel
theorem dX10_init_108 : decode cX10_init 108 = .ok (.aload_n 0, 1) := by decide +kernel
theorem dX10_init_109 : decode cX10_init 109 = .ok (.bipush 50, 2) := by decide +kernel
theorem dX10_init_111 : decode cX10_init 111 = .ok (.putfield 52, 3) := by decide +kernel
theorem dX10_init_114 : decode cX10_init 114 = .ok (.aload_n 0, 1) := by decide +kernel
theorem dX10_init_115 : decode cX10_init 115 = .ok (.bipush 70, 2) := by decide +kernel
theorem dX10_init_117 : decode cX10_init 117 = .ok (.putfield 55, 3) := by decide +kernel
theorem dX10_init_120 : decode cX10_init 120 = .ok (.aload_n 0, 1) := by decide +kernel
theorem dX10_init_121 : decode cX10_init 121 = .ok (.bipush 100, 2) := by decide +kernel
theorem dX10_init_123 : decode cX10_init 123 = .ok (.putfield 58, 3) := by decide +kernel
theorem dX10_init_126 : decode cX10_init 126 = .ok (.aload_n 0, 1) := by decide +kernel
theorem dX10_init_127 : decode cX10_init 127 = .ok (.iconst 2, 1) := by decide +kernel
theorem dX10_init_128 : decode cX10_init 128 = .ok (.putfield 61, 3) := by decide +kernel
theorem dX10_init_131 : decode cX10_init 131 = .ok (.aload_n 0, 1) := by decide +kernel
theorem dX10_init_132 : decode cX10_init 132 = .ok (.bipush 9, 2) := by decide +kernel
theorem dX10_init_134 : decode cX10_init 134 = .ok (.newarray .int, 2) := by decide +kernel
theorem dX10_init_136 : decode cX10_init 136 = .ok (.putfield 64, 3) := by decide +kernel
theorem dX10_init_139 : decode cX10_init 139 = .ok (.aload_n 0, 1) := by decide +kernel
theorem dX10_init_140 : decode cX10_init 140 = .ok (.bipush 9, 2) := by decide +kernel
theorem dX10_init_142 : decode cX10_init 142 = .ok (.newarray .int, 2) := by decide +kernel
theorem dX10_init_144 : decode cX10_init 144 = .ok (.putfield 67, 3) := by decide +kernel
theorem dX10_init_147 : decode cX10_init 147 = .ok (.aload_n 0, 1) := by decide +kernel
theorem dX10_init_148 : decode cX10_init 148 = .ok (.bipush 14, 2) := by decide +kernel
theorem dX10_init_150 : decode cX10_init 150 = .ok (.newarray .int, 2) := by decide +kernel
theorem dX10_init_152 : decode cX10_init 152 = .ok (.putfield 70, 3) := by decide +kernel
theorem dX10_init_155 : decode cX10_init 155 = .ok (.aload_n 0, 1) := by decide +kernel
theorem dX10_init_156 : decode cX10_init 156 = .ok (.bipush 14, 2) := by decide +kernel
theorem dX10_init_158 : decode cX10_init 158 = .ok (.newarray .int, 2) := by decide +kernel
theorem dX10_init_160 : decode cX10_init 160 = .ok (.putfield 73, 3) := by decide +kernel
theorem dX10_init_163 : decode cX10_init 163 = .ok (.aload_n 0, 1) := by decide +kernel
theorem dX10_init_164 : decode cX10_init 164 = .ok (.bipush 15, 2) := by decide +kernel
theorem dX10_init_166 : decode cX10_init 166 = .ok (.newarray .int, 2) := by decide +kernel
theorem dX10_init_168 : decode cX10_init 168 = .ok (.putfield 76, 3) := by decide +kernel
theorem dX10_init_171 : decode cX10_init 171 = .ok (.aload_n 0, 1) := by decide +kernel
theorem dX10_init_172 : decode cX10_init 172 = .ok (.bipush 15, 2) := by decide +kernel
theorem dX10_init_174 : decode cX10_init 174 = .ok (.newarray .int, 2) := by decide +kernel
theorem dX10_init_176 : decode cX10_init 176 = .ok (.putfield 79, 3) := by decide +kernel
theorem dX10_init_179 : decode cX10_init 179 = .ok (.aload_n 0, 1) := by decide +kernel
theorem dX10_init_180 : decode cX10_init 180 = .ok (.ldc 82, 2) := by decide +kernel
theorem dX10_init_182 : decode cX10_init 182 = .ok (.newarray .byte, 2) := by decide +kernel
theorem dX10_init_184 : decode cX10_init 184 = .ok (.putfield 83, 3) := by decide +kernel
theorem dX10_init_187 : decode cX10_init 187 = .ok (.aload_n 0, 1) := by decide +kernel
theorem dX10_init_188 : decode cX10_init 188 = .ok (.sipush 3000, 3) := by decide +kernel
theorem dX10_init_191 : decode cX10_init 191 = .ok (.newarray .int, 2) := by decide +kernel
theorem dX10_init_193 : decode cX10_init 193 = .ok (.putfield 87, 3) := by decide +kernel
theorem dX10_init_196 : decode cX10_init 196 = .ok (.aload_n 0, 1) := by decide +kernel
theorem dX10_init_197 : decode cX10_init 197 = .ok (.bipush 14, 2) := by decide +kernel
theorem dX10_init_199 : decode cX10_init 199 = .ok (.newarray .int, 2) := by decide +kernel
theorem dX10_init_201 : decode cX10_init 201 = .ok (.putfield 90, 3) := by decide +kernel
theorem dX10_init_204 : decode cX10_init 204 = .ok (.aload_n 0, 1) := by decide +kernel
theorem dX10_init_205 : decode cX10_init 205 = .ok (.bipush 14, 2) := by decide +kernel
theorem dX10_init_207 : decode cX10_init 207 = .ok (.newarray .int, 2) := by decide +kernel
theorem dX10_init_209 : decode cX10_init 209 = .ok (.putfield 93, 3) := by decide +kernel
theorem dX10_init_212 : decode cX10_init 212 = .ok (.iconst 0, 1) := by decide +kernel
theorem dX10_init_213 : decode cX10_init 213 = .ok (.istore_n 1, 1) := by decide +kernel
theorem dX10_init_214 : decode cX10_init 214 = .ok (.iload_n 1, 1) := by decide +kernel
theorem dX10_init_215 : decode cX10_init 215 = .ok (.bipush 26, 2) := by decide +kernel
theorem dX10_init_217 : decode cX10_init 217 = .ok (.if_icmp .ge 19, 3) := by decide +kernel
theorem dX10_init_220 : decode cX10_init 220 = .ok (.aload_n 0, 1) := by decide +kernel
theorem dX10_init_221 : decode cX10_init 221 = .ok (.getfield 44, 3) := by decide +kernel
theorem dX10_init_224 : decode cX10_init 224 = .ok (.bipush 27, 2) := by decide +kernel
theorem dX10_init_226 : decode cX10_init 226 = .ok (.iload_n 1, 1) := by decide +kernel
theorem dX10_init_227 : decode cX10_init 227 = .ok (.imul, 1) := by decide +kernel
theorem dX10_init_228 : decode cX10_init 228 = .ok (.iconst 1, 1) := by decide +kernel
theorem dX10_init_229 : decode cX10_init 229 = .ok (.bastore, 1) := by decide +kernel
theorem dX10_init_230 : decode cX10_init 230 = .ok (.iinc 1 1, 3) := by decide +kernel
theorem dX10_init_233 : decode cX10_init 233 = .ok (.goto (-19), 3) := by decide +kernel
theorem dX10_init_236 : decode cX10_init 236 = .ok (.return_, 1) := by decide +kernel
theorem dX10_isName_0 : decode cX10_isName 0 = .ok (.iconst 0, 1) := by decide +kernel
theorem dX10_isName_1 : decode cX10_isName 1 = .ok (.istore_n 2, 1) := by decide +kernel
theorem dX10_isName_2 : decode cX10_isName 2 = .ok (.bipush 56, 2) := by decide +kernel
theorem dX10_isName_4 : decode cX10_isName 4 = .ok (.istore_n 3, 1) := by decide +kernel
theorem dX10_isName_5 : decode cX10_isName 5 = .ok (.iload_n 3, 1) := by decide +kernel
theorem dX10_isName_6 : decode cX10_isName 6 = .ok (.ifCond .lt 49, 3) := by decide +kernel
theorem dX10_isName_9 : decode cX10_isName 9 = .ok (.lload_n 0, 1) := by decide +kernel
theorem dX10_isName_10 : decode cX10_isName 10 = .ok (.iload_n 3, 1) := by decide +kernel
theorem dX10_isName_11 : decode cX10_isName 11 = .ok (.lshr, 1) := by decide +kernel
theorem dX10_isName_12 : decode cX10_isName 12 = .ok (.ldc2_w 96, 3) := by decide +kernel
theorem dX10_isName_15 : decode cX10_isName 15 = .ok (.land, 1) := by decide +kernel
theorem dX10_isName_16 : decode cX10_isName 16 = .ok (.l2i, 1) := by decide +kernel
theorem dX10_isName_17 : decode cX10_isName 17 = .ok (.istore 4, 2) := by decide +kernel
theorem dX10_isName_19 : decode cX10_isName 19 = .ok (.iload 4, 2) := by decide +kernel
theorem dX10_isName_21 : decode cX10_isName 21 = .ok (.ifCond .ne 10, 3) := by decide +kernel
theorem dX10_isName_24 : decode cX10_isName 24 = .ok (.iload_n 2, 1) := by decide +kernel
theorem dX10_isName_25 : decode cX10_isName 25 = .ok (.ifCond .ne 6, 3) := by decide +kernel
theorem dX10_isName_28 : decode cX10_isName 28 = .ok (.goto 21, 3) := by decide +kernel
theorem dX10_isName_31 : decode cX10_isName 31 = .ok (.iconst 1, 1) := by decide +kernel
theorem dX10_isName_32 : decode cX10_isName 32 = .ok (.istore_n 2, 1) := by decide +kernel
theorem dX10_isName_33 : decode cX10_isName 33 = .ok (.iload 4, 2) := by decide +kernel
theorem dX10_isName_35 : decode cX10_isName 35 = .ok (.bipush 97, 2) := by decide +kernel
theorem dX10_isName_37 : decode cX10_isName 37 = .ok (.if_icmp .lt 10, 3) := by decide +kernel
theorem dX10_isName_40 : decode cX10_isName 40 = .ok (.iload 4, 2) := by decide +kernel
theorem dX10_isName_42 : decode cX10_isName 42 = .ok (.bipush 122, 2) := by decide +kernel
theorem dX10_isName_44 : decode cX10_isName 44 = .ok (.if_icmp .le 5, 3) := by decide +kernel
theorem dX10_isName_47 : decode cX10_isName 47 = .ok (.iconst 0, 1) := by decide +kernel
theorem dX10_isName_48 : decode cX10_isName 48 = .ok (.ireturn, 1) := by decide +kernel
theorem dX10_isName_49 : decode cX10_isName 49 = .ok (.iinc 3 (-8), 3) := by decide +kernel
theorem dX10_isName_52 : decode cX10_isName 52 = .ok (.goto (-47), 3) := by decide +kernel
theorem dX10_isName_55 : decode cX10_isName 55 = .ok (.iconst 1, 1) := by decide +kernel
theorem dX10_isName_56 : decode cX10_isName 56 = .ok (.ireturn, 1) := by decide +kernel
theorem dX10_sizeOf_0 : decode cX10_sizeOf 0 = .ok (.iconst 0, 1) := by decide +kernel
theorem dX10_sizeOf_1 : decode cX10_sizeOf 1 = .ok (.istore_n 2, 1) := by decide +kernel
theorem dX10_sizeOf_2 : decode cX10_sizeOf 2 = .ok (.iload_n 2, 1) := by decide +kernel
theorem dX10_sizeOf_3 : decode cX10_sizeOf 3 = .ok (.bipush 8, 2) := by decide +kernel
theorem dX10_sizeOf_5 : decode cX10_sizeOf 5 = .ok (.if_icmp .ge 20, 3) := by decide +kernel
theorem dX10_sizeOf_8 : decode cX10_sizeOf 8 = .ok (.lload_n 0, 1) := by decide +kernel
theorem dX10_sizeOf_9 : decode cX10_sizeOf 9 = .ok (.bipush 8, 2) := by decide +kernel
theorem dX10_sizeOf_11 : decode cX10_sizeOf 11 = .ok (.iload_n 2, 1) := by decide +kernel
theorem dX10_sizeOf_12 : decode cX10_sizeOf 12 = .ok (.imul, 1) := by decide +kernel
theorem dX10_sizeOf_13 : decode cX10_sizeOf 13 = .ok (.lushr, 1) := by decide +kernel
theorem dX10_sizeOf_14 : decode cX10_sizeOf 14 = .ok (.lconst 0, 1) := by decide +kernel
theorem dX10_sizeOf_15 : decode cX10_sizeOf 15 = .ok (.lcmp, 1) := by decide +kernel
theorem dX10_sizeOf_16 : decode cX10_sizeOf 16 = .ok (.ifCond .eq 9, 3) := by decide +kernel
theorem dX10_sizeOf_19 : decode cX10_sizeOf 19 = .ok (.iinc 2 1, 3) := by decide +kernel
theorem dX10_sizeOf_22 : decode cX10_sizeOf 22 = .ok (.goto (-20), 3) := by decide +kernel
theorem dX10_sizeOf_25 : decode cX10_sizeOf 25 = .ok (.iload_n 2, 1) := by decide +kernel
theorem dX10_sizeOf_26 : decode cX10_sizeOf 26 = .ok (.ireturn, 1) := by decide +kernel
theorem dX10_letter_0 : decode cX10_letter 0 = .ok (.lload_n 0, 1) := by decide +kernel
theorem dX10_letter_1 : decode cX10_letter 1 = .ok (.bipush 8, 2) := by decide +kernel
theorem dX10_letter_3 : decode cX10_letter 3 = .ok (.lload_n 0, 1) := by decide +kernel
theorem dX10_letter_4 : decode cX10_letter 4 = .ok (.invokestatic 98, 3) := by decide +kernel
theorem dX10_letter_7 : decode cX10_letter 7 = .ok (.iconst 1, 1) := by decide +kernel
theorem dX10_letter_8 : decode cX10_letter 8 = .ok (.isub, 1) := by decide +kernel
theorem dX10_letter_9 : decode cX10_letter 9 = .ok (.iload_n 2, 1) := by decide +kernel
theorem dX10_letter_10 : decode cX10_letter 10 = .ok (.isub, 1) := by decide +kernel
theorem dX10_letter_11 : decode cX10_letter 11 = .ok (.imul, 1) := by decide +kernel
theorem dX10_letter_12 : decode cX10_letter 12 = .ok (.lshr, 1) := by decide +kernel
theorem dX10_letter_13 : decode cX10_letter 13 = .ok (.ldc2_w 96, 3) := by decide +kernel
theorem dX10_letter_16 : decode cX10_letter 16 = .ok (.land, 1) := by decide +kernel
theorem dX10_letter_17 : decode cX10_letter 17 = .ok (.l2i, 1) := by decide +kernel
theorem dX10_letter_18 : decode cX10_letter 18 = .ok (.bipush 97, 2) := by decide +kernel
theorem dX10_letter_20 : decode cX10_letter 20 = .ok (.isub, 1) := by decide +kernel
theorem dX10_letter_21 : decode cX10_letter 21 = .ok (.ireturn, 1) := by decide +kernel
theorem dX10_apart_0 : decode cX10_apart 0 = .ok (.lload_n 1, 1) := by decide +kernel
theorem dX10_apart_1 : decode cX10_apart 1 = .ok (.invokestatic 98, 3) := by decide +kernel
theorem dX10_apart_4 : decode cX10_apart 4 = .ok (.istore 5, 2) := by decide +kernel
theorem dX10_apart_6 : decode cX10_apart 6 = .ok (.lload_n 3, 1) := by decide +kernel
theorem dX10_apart_7 : decode cX10_apart 7 = .ok (.invokestatic 98, 3) := by decide +kernel
theorem dX10_apart_10 : decode cX10_apart 10 = .ok (.istore 6, 2) := by decide +kernel
theorem dX10_apart_12 : decode cX10_apart 12 = .ok (.iload 5, 2) := by decide +kernel
theorem dX10_apart_14 : decode cX10_apart 14 = .ok (.ifCond .eq 8, 3) := by decide +kernel
theorem dX10_apart_17 : decode cX10_apart 17 = .ok (.iload 6, 2) := by decide +kernel
theorem dX10_apart_19 : decode cX10_apart 19 = .ok (.ifCond .ne 5, 3) := by decide +kernel
theorem dX10_apart_22 : decode cX10_apart 22 = .ok (.iconst 0, 1) := by decide +kernel
theorem dX10_apart_23 : decode cX10_apart 23 = .ok (.ireturn, 1) := by decide +kernel
theorem dX10_apart_24 : decode cX10_apart 24 = .ok (.iconst 0, 1) := by decide +kernel
theorem dX10_apart_25 : decode cX10_apart 25 = .ok (.istore 7, 2) := by decide +kernel
theorem dX10_apart_27 : decode cX10_apart 27 = .ok (.iload 7, 2) := by decide +kernel
theorem dX10_apart_29 : decode cX10_apart 29 = .ok (.iload 6, 2) := by decide +kernel
theorem dX10_apart_31 : decode cX10_apart 31 = .ok (.if_icmp .gt 18, 3) := by decide +kernel
theorem dX10_apart_34 : decode cX10_apart 34 = .ok (.aload_n 0, 1) := by decide +kernel
theorem dX10_apart_35 : decode cX10_apart 35 = .ok (.getfield 64, 3) := by decide +kernel
theorem dX10_apart_38 : decode cX10_apart 38 = .ok (.iload 7, 2) := by decide +kernel
theorem dX10_apart_40 : decode cX10_apart 40 = .ok (.iload 7, 2) := by decide +kernel
theorem dX10_apart_42 : decode cX10_apart 42 = .ok (.iastore, 1) := by decide +kernel
theorem dX10_apart_43 : decode cX10_apart 43 = .ok (.iinc 7 1, 3) := by decide +kernel
theorem dX10_apart_46 : decode cX10_apart 46 = .ok (.goto (-19), 3) := by decide +kernel
theorem dX10_apart_49 : decode cX10_apart 49 = .ok (.iconst 1, 1) := by decide +kernel
theorem dX10_apart_50 : decode cX10_apart 50 = .ok (.istore 7, 2) := by decide +kernel
theorem dX10_apart_52 : decode cX10_apart 52 = .ok (.iload 7, 2) := by decide +kernel
theorem dX10_apart_54 : decode cX10_apart 54 = .ok (.iload 5, 2) := by decide +kernel
theorem dX10_apart_56 : decode cX10_apart 56 = .ok (.if_icmp .gt 177, 3) := by decide +kernel
theorem dX10_apart_59 : decode cX10_apart 59 = .ok (.aload_n 0, 1) := by decide +kernel
theorem dX10_apart_60 : decode cX10_apart 60 = .ok (.getfield 67, 3) := by decide +kernel
theorem dX10_apart_63 : decode cX10_apart 63 = .ok (.iconst 0, 1) := by decide +kernel
theorem dX10_apart_64 : decode cX10_apart 64 = .ok (.iload 7, 2) := by decide +kernel
theorem dX10_apart_66 : decode cX10_apart 66 = .ok (.iastore, 1) := by decide +kernel
theorem dX10_apart_67 : decode cX10_apart 67 = .ok (.iconst 1, 1) := by decide +kernel
theorem dX10_apart_68 : decode cX10_apart 68 = .ok (.istore 8, 2) := by decide +kernel
theorem dX10_apart_70 : decode cX10_apart 70 = .ok (.iload 8, 2) := by decide +kernel
theorem dX10_apart_72 : decode cX10_apart 72 = .ok (.iload 6, 2) := by decide +kernel
theorem dX10_apart_74 : decode cX10_apart 74 = .ok (.if_icmp .gt 123, 3) := by decide +kernel
theorem dX10_apart_77 : decode cX10_apart 77 = .ok (.aload_n 0, 1) := by decide +kernel
theorem dX10_apart_78 : decode cX10_apart 78 = .ok (.getfield 64, 3) := by decide +kernel
theorem dX10_apart_81 : decode cX10_apart 81 = .ok (.iload 8, 2) := by decide +kernel
theorem dX10_apart_83 : decode cX10_apart 83 = .ok (.iconst 1, 1) := by decide +kernel
theorem dX10_apart_84 : decode cX10_apart 84 = .ok (.isub, 1) := by decide +kernel
theorem dX10_apart_85 : decode cX10_apart 85 = .ok (.iaload, 1) := by decide +kernel
theorem dX10_apart_86 : decode cX10_apart 86 = .ok (.aload_n 0, 1) := by decide +kernel
theorem dX10_apart_87 : decode cX10_apart 87 = .ok (.getfield 44, 3) := by decide +kernel
theorem dX10_apart_90 : decode cX10_apart 90 = .ok (.bipush 26, 2) := by decide +kernel
theorem dX10_apart_92 : decode cX10_apart 92 = .ok (.lload_n 1, 1) := by decide +kernel
theorem dX10_apart_93 : decode cX10_apart 93 = .ok (.iload 7, 2) := by decide +kernel
theorem dX10_apart_95 : decode cX10_apart 95 = .ok (.iconst 1, 1) := by decide +kernel
theorem dX10_apart_96 : decode cX10_apart 96 = .ok (.isub, 1) := by decide +kernel
theorem dX10_apart_97 : decode cX10_apart 97 = .ok (.invokestatic 102, 3) := by decide +kernel
theorem dX10_apart_100 : decode cX10_apart 100 = .ok (.imul, 1) := by decide +kernel
theorem dX10_apart_101 : decode cX10_apart 101 = .ok (.lload_n 3, 1) := by decide +kernel
theorem dX10_apart_102 : decode cX10_apart 102 = .ok (.iload 8, 2) := by decide +kernel
theorem dX10_apart_104 : decode cX10_apart 104 = .ok (.iconst 1, 1) := by decide +kernel
theorem dX10_apart_105 : decode cX10_apart 105 = .ok (.isub, 1) := by decide +kernel
theorem dX10_apart_106 : decode cX10_apart 106 = .ok (.invokestatic 102, 3) := by decide +kernel
theorem dX10_apart_109 : decode cX10_apart 109 = .ok (.iadd, 1) := by decide +kernel
theorem dX10_apart_110 : decode cX10_apart 110 = .ok (.baload, 1) := by decide +kernel
theorem dX10_apart_111 : decode cX10_apart 111 = .ok (.ifCond .eq 7, 3) := by decide +kernel
theorem dX10_apart_114 : decode cX10_apart 114 = .ok (.iconst 0, 1) := by decide +kernel
theorem dX10_apart_115 : decode cX10_apart 115 = .ok (.goto 4, 3) := by decide +kernel
theorem dX10_apart_118 : decode cX10_apart 118 = .ok (.iconst 1, 1) := by decide +kernel
theorem dX10_apart_119 : decode cX10_apart 119 = .ok (.iadd, 1) := by decide +kernel
theorem dX10_apart_120 : decode cX10_apart 120 = .ok (.istore 9, 2) := by decide +kernel
theorem dX10_apart_122 : decode cX10_apart 122 = .ok (.aload_n 0, 1) := by decide +kernel
theorem dX10_apart_123 : decode cX10_apart 123 = .ok (.getfield 64, 3) := by decide +kernel
theorem dX10_apart_126 : decode cX10_apart 126 = .ok (.iload 8, 2) := by decide +kernel
theorem dX10_apart_128 : decode cX10_apart 128 = .ok (.iaload, 1) := by decide +kernel
theorem dX10_apart_129 : decode cX10_apart 129 = .ok (.iconst 1, 1) := by decide +kernel
theorem dX10_apart_130 : decode cX10_apart 130 = .ok (.iadd, 1) := by decide +kernel
theorem dX10_apart_131 : decode cX10_apart 131 = .ok (.iload 9, 2) := by decide +kernel
theorem dX10_apart_133 : decode cX10_apart 133 = .ok (.if_icmp .ge 15, 3) := by decide +kernel
theorem dX10_apart_136 : decode cX10_apart 136 = .ok (.aload_n 0, 1) := by decide +kernel
theorem dX10_apart_137 : decode cX10_apart 137 = .ok (.getfield 64, 3) := by decide +kernel
theorem dX10_apart_140 : decode cX10_apart 140 = .ok (.iload 8, 2) := by decide +kernel
theorem dX10_apart_142 : decode cX10_apart 142 = .ok (.iaload, 1) := by decide +kernel
theorem dX10_apart_143 : decode cX10_apart 143 = .ok (.iconst 1, 1) := by decide +kernel
theorem dX10_apart_144 : decode cX10_apart 144 = .ok (.iadd, 1) := by decide +kernel
theorem dX10_apart_145 : decode cX10_apart 145 = .ok (.goto 5, 3) := by decide +kernel
theorem dX10_apart_148 : decode cX10_apart 148 = .ok (.iload 9, 2) := by decide +kernel
theorem dX10_apart_150 : decode cX10_apart 150 = .ok (.istore 9, 2) := by decide +kernel
theorem dX10_apart_152 : decode cX10_apart 152 = .ok (.aload_n 0, 1) := by decide +kernel
theorem dX10_apart_153 : decode cX10_apart 153 = .ok (.getfield 67, 3) := by decide +kernel
theorem dX10_apart_156 : decode cX10_apart 156 = .ok (.iload 8, 2) := by decide +kernel
theorem dX10_apart_158 : decode cX10_apart 158 = .ok (.aload_n 0, 1) := by decide +kernel
theorem dX10_apart_159 : decode cX10_apart 159 = .ok (.getfield 67, 3) := by decide +kernel
theorem dX10_apart_162 : decode cX10_apart 162 = .ok (.iload 8, 2) := by decide +kernel
theorem dX10_apart_164 : decode cX10_apart 164 = .ok (.iconst 1, 1) := by decide +kernel
theorem dX10_apart_165 : decode cX10_apart 165 = .ok (.isub, 1) := by decide +kernel
theorem dX10_apart_166 : decode cX10_apart 166 = .ok (.iaload, 1) := by decide +kernel
theorem dX10_apart_167 : decode cX10_apart 167 = .ok (.iconst 1, 1) := by decide +kernel
theorem dX10_apart_168 : decode cX10_apart 168 = .ok (.iadd, 1) := by decide +kernel
theorem dX10_apart_169 : decode cX10_apart 169 = .ok (.iload 9, 2) := by decide +kernel
theorem dX10_apart_171 : decode cX10_apart 171 = .ok (.if_icmp .ge 17, 3) := by decide +kernel
theorem dX10_apart_174 : decode cX10_apart 174 = .ok (.aload_n 0, 1) := by decide +kernel
theorem dX10_apart_175 : decode cX10_apart 175 = .ok (.getfield 67, 3) := by decide +kernel
theorem dX10_apart_178 : decode cX10_apart 178 = .ok (.iload 8, 2) := by decide +kernel
theorem dX10_apart_180 : decode cX10_apart 180 = .ok (.iconst 1, 1) := by decide +kernel
theorem dX10_apart_181 : decode cX10_apart 181 = .ok (.isub, 1) := by decide +kernel
theorem dX10_apart_182 : decode cX10_apart 182 = .ok (.iaload, 1) := by decide +kernel
theorem dX10_apart_183 : decode cX10_apart 183 = .ok (.iconst 1, 1) := by decide +kernel
theorem dX10_apart_184 : decode cX10_apart 184 = .ok (.iadd, 1) := by decide +kernel
theorem dX10_apart_185 : decode cX10_apart 185 = .ok (.goto 5, 3) := by decide +kernel
theorem dX10_apart_188 : decode cX10_apart 188 = .ok (.iload 9, 2) := by decide +kernel
theorem dX10_apart_190 : decode cX10_apart 190 = .ok (.iastore, 1) := by decide +kernel
theorem dX10_apart_191 : decode cX10_apart 191 = .ok (.iinc 8 1, 3) := by decide +kernel
theorem dX10_apart_194 : decode cX10_apart 194 = .ok (.goto (-124), 3) := by decide +kernel
theorem dX10_apart_197 : decode cX10_apart 197 = .ok (.iconst 0, 1) := by decide +kernel
theorem dX10_apart_198 : decode cX10_apart 198 = .ok (.istore 8, 2) := by decide +kernel
theorem dX10_apart_200 : decode cX10_apart 200 = .ok (.iload 8, 2) := by decide +kernel
theorem dX10_apart_202 : decode cX10_apart 202 = .ok (.iload 6, 2) := by decide +kernel
theorem dX10_apart_204 : decode cX10_apart 204 = .ok (.if_icmp .gt 23, 3) := by decide +kernel
theorem dX10_apart_207 : decode cX10_apart 207 = .ok (.aload_n 0, 1) := by decide +kernel
theorem dX10_apart_208 : decode cX10_apart 208 = .ok (.getfield 64, 3) := by decide +kernel
theorem dX10_apart_211 : decode cX10_apart 211 = .ok (.iload 8, 2) := by decide +kernel
theorem dX10_apart_213 : decode cX10_apart 213 = .ok (.aload_n 0, 1) := by decide +kernel
theorem dX10_apart_214 : decode cX10_apart 214 = .ok (.getfield 67, 3) := by decide +kernel
theorem dX10_apart_217 : decode cX10_apart 217 = .ok (.iload 8, 2) := by decide +kernel
theorem dX10_apart_219 : decode cX10_apart 219 = .ok (.iaload, 1) := by decide +kernel
theorem dX10_apart_220 : decode cX10_apart 220 = .ok (.iastore, 1) := by decide +kernel
theorem dX10_apart_221 : decode cX10_apart 221 = .ok (.iinc 8 1, 3) := by decide +kernel
theorem dX10_apart_224 : decode cX10_apart 224 = .ok (.goto (-24), 3) := by decide +kernel
theorem dX10_apart_227 : decode cX10_apart 227 = .ok (.iinc 7 1, 3) := by decide +kernel
theorem dX10_apart_230 : decode cX10_apart 230 = .ok (.goto (-178), 3) := by decide +kernel
theorem dX10_apart_233 : decode cX10_apart 233 = .ok (.aload_n 0, 1) := by decide +kernel
theorem dX10_apart_234 : decode cX10_apart 234 = .ok (.getfield 64, 3) := by decide +kernel
theorem dX10_apart_237 : decode cX10_apart 237 = .ok (.iload 6, 2) := by decide +kernel
theorem dX10_apart_239 : decode cX10_apart 239 = .ok (.iaload, 1) := by decide +kernel
theorem dX10_apart_240 : decode cX10_apart 240 = .ok (.ireturn, 1) := by decide +kernel
theorem dX10_far_0 : decode cX10_far 0 = .ok (.lload_n 1, 1) := by decide +kernel
theorem dX10_far_1 : decode cX10_far 1 = .ok (.invokestatic 106, 3) := by decide +kernel
theorem dX10_far_4 : decode cX10_far 4 = .ok (.ifCond .eq 19, 3) := by decide +kernel
theorem dX10_far_7 : decode cX10_far 7 = .ok (.lload_n 3, 1) := by decide +kernel
theorem dX10_far_8 : decode cX10_far 8 = .ok (.invokestatic 106, 3) := by decide +kernel
theorem dX10_far_11 : decode cX10_far 11 = .ok (.ifCond .eq 12, 3) := by decide +kernel
theorem dX10_far_14 : decode cX10_far 14 = .ok (.aload_n 0, 1) := by decide +kernel
theorem dX10_far_15 : decode cX10_far 15 = .ok (.lload_n 1, 1) := by decide +kernel
theorem dX10_far_16 : decode cX10_far 16 = .ok (.lload_n 3, 1) := by decide +kernel
theorem dX10_far_17 : decode cX10_far 17 = .ok (.invokevirtual 110, 3) := by decide +kernel
theorem dX10_far_20 : decode cX10_far 20 = .ok (.goto 4, 3) := by decide +kernel
theorem dX10_far_23 : decode cX10_far 23 = .ok (.iconst (-1), 1) := by decide +kernel
theorem dX10_far_24 : decode cX10_far 24 = .ok (.ireturn, 1) := by decide +kernel
theorem dX10_fits_0 : decode cX10_fits 0 = .ok (.iload_n 1, 1) := by decide +kernel
theorem dX10_fits_1 : decode cX10_fits 1 = .ok (.ifCond .lt 34, 3) := by decide +kernel
theorem dX10_fits_4 : decode cX10_fits 4 = .ok (.iload_n 1, 1) := by decide +kernel
theorem dX10_fits_5 : decode cX10_fits 5 = .ok (.sipush 3000, 3) := by decide +kernel
theorem dX10_fits_8 : decode cX10_fits 8 = .ok (.if_icmp .gt 27, 3) := by decide +kernel
theorem dX10_fits_11 : decode cX10_fits 11 = .ok (.aload_n 0, 1) := by decide +kernel
theorem dX10_fits_12 : decode cX10_fits 12 = .ok (.getfield 114, 3) := by decide +kernel
theorem dX10_fits_15 : decode cX10_fits 15 = .ok (.bipush 8, 2) := by decide +kernel
theorem dX10_fits_17 : decode cX10_fits 17 = .ok (.if_icmp .ge 18, 3) := by decide +kernel
theorem dX10_fits_20 : decode cX10_fits 20 = .ok (.aload_n 0, 1) := by decide +kernel
theorem dX10_fits_21 : decode cX10_fits 21 = .ok (.getfield 117, 3) := by decide +kernel
theorem dX10_fits_24 : decode cX10_fits 24 = .ok (.iload_n 2, 1) := by decide +kernel
theorem dX10_fits_25 : decode cX10_fits 25 = .ok (.iadd, 1) := by decide +kernel
theorem dX10_fits_26 : decode cX10_fits 26 = .ok (.bipush 14, 2) := by decide +kernel
theorem dX10_fits_28 : decode cX10_fits 28 = .ok (.if_icmp .gt 7, 3) := by decide +kernel
theorem dX10_fits_31 : decode cX10_fits 31 = .ok (.iconst 1, 1) := by decide +kernel
theorem dX10_fits_32 : decode cX10_fits 32 = .ok (.goto 4, 3) := by decide +kernel
theorem dX10_fits_35 : decode cX10_fits 35 = .ok (.iconst 0, 1) := by decide +kernel
theorem dX10_fits_36 : decode cX10_fits 36 = .ok (.ireturn, 1) := by decide +kernel
theorem dX10_isSex_0 : decode cX10_isSex 0 = .ok (.iload_n 0, 1) := by decide +kernel
theorem dX10_isSex_1 : decode cX10_isSex 1 = .ok (.ifCond .lt 12, 3) := by decide +kernel
theorem dX10_isSex_4 : decode cX10_isSex 4 = .ok (.iload_n 0, 1) := by decide +kernel
theorem dX10_isSex_5 : decode cX10_isSex 5 = .ok (.iconst 2, 1) := by decide +kernel
theorem dX10_isSex_6 : decode cX10_isSex 6 = .ok (.if_icmp .gt 7, 3) := by decide +kernel
theorem dX10_isSex_9 : decode cX10_isSex 9 = .ok (.iconst 1, 1) := by decide +kernel
theorem dX10_isSex_10 : decode cX10_isSex 10 = .ok (.goto 4, 3) := by decide +kernel
theorem dX10_isSex_13 : decode cX10_isSex 13 = .ok (.iconst 0, 1) := by decide +kernel
theorem dX10_isSex_14 : decode cX10_isSex 14 = .ok (.ireturn, 1) := by decide +kernel
theorem dX10_isAge_0 : decode cX10_isAge 0 = .ok (.iload_n 0, 1) := by decide +kernel
theorem dX10_isAge_1 : decode cX10_isAge 1 = .ok (.iconst (-1), 1) := by decide +kernel
theorem dX10_isAge_2 : decode cX10_isAge 2 = .ok (.if_icmp .lt 13, 3) := by decide +kernel
theorem dX10_isAge_5 : decode cX10_isAge 5 = .ok (.iload_n 0, 1) := by decide +kernel
theorem dX10_isAge_6 : decode cX10_isAge 6 = .ok (.bipush 120, 2) := by decide +kernel
theorem dX10_isAge_8 : decode cX10_isAge 8 = .ok (.if_icmp .gt 7, 3) := by decide +kernel
theorem dX10_isAge_11 : decode cX10_isAge 11 = .ok (.iconst 1, 1) := by decide +kernel
theorem dX10_isAge_12 : decode cX10_isAge 12 = .ok (.goto 4, 3) := by decide +kernel
theorem dX10_isAge_15 : decode cX10_isAge 15 = .ok (.iconst 0, 1) := by decide +kernel
theorem dX10_isAge_16 : decode cX10_isAge 16 = .ok (.ireturn, 1) := by decide +kernel
theorem dX10_open_0 : decode cX10_open 0 = .ok (.aload_n 0, 1) := by decide +kernel
theorem dX10_open_1 : decode cX10_open 1 = .ok (.getfield 7, 3) := by decide +kernel
theorem dX10_open_4 : decode cX10_open 4 = .ok (.aload_n 0, 1) := by decide +kernel
theorem dX10_open_5 : decode cX10_open 5 = .ok (.getfield 114, 3) := by decide +kernel
theorem dX10_open_8 : decode cX10_open 8 = .ok (.iload_n 1, 1) := by decide +kernel
theorem dX10_open_9 : decode cX10_open 9 = .ok (.iastore, 1) := by decide +kernel
theorem dX10_open_10 : decode cX10_open 10 = .ok (.aload_n 0, 1) := by decide +kernel
theorem dX10_open_11 : decode cX10_open 11 = .ok (.getfield 13, 3) := by decide +kernel
theorem dX10_open_14 : decode cX10_open 14 = .ok (.aload_n 0, 1) := by decide +kernel
theorem dX10_open_15 : decode cX10_open 15 = .ok (.getfield 114, 3) := by decide +kernel
theorem dX10_open_18 : decode cX10_open 18 = .ok (.aload_n 0, 1) := by decide +kernel
theorem dX10_open_19 : decode cX10_open 19 = .ok (.getfield 117, 3) := by decide +kernel
theorem dX10_open_22 : decode cX10_open 22 = .ok (.iastore, 1) := by decide +kernel
theorem dX10_open_23 : decode cX10_open 23 = .ok (.aload_n 0, 1) := by decide +kernel
theorem dX10_open_24 : decode cX10_open 24 = .ok (.getfield 16, 3) := by decide +kernel
theorem dX10_open_27 : decode cX10_open 27 = .ok (.aload_n 0, 1) := by decide +kernel
theorem dX10_open_28 : decode cX10_open 28 = .ok (.getfield 114, 3) := by decide +kernel
theorem dX10_open_31 : decode cX10_open 31 = .ok (.iconst (-1), 1) := by decide +kernel
theorem dX10_open_32 : decode cX10_open 32 = .ok (.iastore, 1) := by decide +kernel
theorem dX10_open_33 : decode cX10_open 33 = .ok (.aload_n 0, 1) := by decide +kernel
theorem dX10_open_34 : decode cX10_open 34 = .ok (.getfield 19, 3) := by decide +kernel
theorem dX10_open_37 : decode cX10_open 37 = .ok (.aload_n 0, 1) := by decide +kernel
theorem dX10_open_38 : decode cX10_open 38 = .ok (.getfield 114, 3) := by decide +kernel
theorem dX10_open_41 : decode cX10_open 41 = .ok (.iload_n 2, 1) := by decide +kernel
theorem dX10_open_42 : decode cX10_open 42 = .ok (.iastore, 1) := by decide +kernel
theorem dX10_open_43 : decode cX10_open 43 = .ok (.aload_n 0, 1) := by decide +kernel
theorem dX10_open_44 : decode cX10_open 44 = .ok (.dup, 1) := by decide +kernel
theorem dX10_open_45 : decode cX10_open 45 = .ok (.getfield 114, 3) := by decide +kernel
theorem dX10_open_48 : decode cX10_open 48 = .ok (.iconst 1, 1) := by decide +kernel
theorem dX10_open_49 : decode cX10_open 49 = .ok (.iadd, 1) := by decide +kernel
theorem dX10_open_50 : decode cX10_open 50 = .ok (.putfield 114, 3) := by decide +kernel
theorem dX10_open_53 : decode cX10_open 53 = .ok (.aload_n 0, 1) := by decide +kernel
theorem dX10_open_54 : decode cX10_open 54 = .ok (.getfield 13, 3) := by decide +kernel
theorem dX10_open_57 : decode cX10_open 57 = .ok (.aload_n 0, 1) := by decide +kernel
theorem dX10_open_58 : decode cX10_open 58 = .ok (.getfield 114, 3) := by decide +kernel
theorem dX10_open_61 : decode cX10_open 61 = .ok (.aload_n 0, 1) := by decide +kernel
theorem dX10_open_62 : decode cX10_open 62 = .ok (.getfield 117, 3) := by decide +kernel
theorem dX10_open_65 : decode cX10_open 65 = .ok (.iastore, 1) := by decide +kernel
theorem dX10_open_66 : decode cX10_open 66 = .ok (.aload_n 0, 1) := by decide +kernel
theorem dX10_open_67 : decode cX10_open 67 = .ok (.iconst 0, 1) := by decide +kernel
theorem dX10_open_68 : decode cX10_open 68 = .ok (.putfield 120, 3) := by decide +kernel
theorem dX10_open_71 : decode cX10_open 71 = .ok (.aload_n 0, 1) := by decide +kernel
theorem dX10_open_72 : decode cX10_open 72 = .ok (.getfield 114, 3) := by decide +kernel
theorem dX10_open_75 : decode cX10_open 75 = .ok (.iconst 1, 1) := by decide +kernel
theorem dX10_open_76 : decode cX10_open 76 = .ok (.isub, 1) := by decide +kernel
theorem dX10_open_77 : decode cX10_open 77 = .ok (.ireturn, 1) := by decide +kernel
theorem dX10_add_0 : decode cX10_add 0 = .ok (.aload_n 0, 1) := by decide +kernel
theorem dX10_add_1 : decode cX10_add 1 = .ok (.getfield 22, 3) := by decide +kernel
theorem dX10_add_4 : decode cX10_add 4 = .ok (.aload_n 0, 1) := by decide +kernel
theorem dX10_add_5 : decode cX10_add 5 = .ok (.getfield 117, 3) := by decide +kernel
theorem dX10_add_8 : decode cX10_add 8 = .ok (.aload_n 0, 1) := by decide +kernel
theorem dX10_add_9 : decode cX10_add 9 = .ok (.getfield 114, 3) := by decide +kernel
theorem dX10_add_12 : decode cX10_add 12 = .ok (.iconst 1, 1) := by decide +kernel
theorem dX10_add_13 : decode cX10_add 13 = .ok (.isub, 1) := by decide +kernel
theorem dX10_add_14 : decode cX10_add 14 = .ok (.iastore, 1) := by decide +kernel
theorem dX10_add_15 : decode cX10_add 15 = .ok (.aload_n 0, 1) := by decide +kernel
theorem dX10_add_16 : decode cX10_add 16 = .ok (.getfield 31, 3) := by decide +kernel
theorem dX10_add_19 : decode cX10_add 19 = .ok (.aload_n 0, 1) := by decide +kernel
theorem dX10_add_20 : decode cX10_add 20 = .ok (.getfield 117, 3) := by decide +kernel
theorem dX10_add_23 : decode cX10_add 23 = .ok (.iload_n 1, 1) := by decide +kernel
theorem dX10_add_24 : decode cX10_add 24 = .ok (.iastore, 1) := by decide +kernel
theorem dX10_add_25 : decode cX10_add 25 = .ok (.aload_n 0, 1) := by decide +kernel
theorem dX10_add_26 : decode cX10_add 26 = .ok (.getfield 25, 3) := by decide +kernel
theorem dX10_add_29 : decode cX10_add 29 = .ok (.aload_n 0, 1) := by decide +kernel
theorem dX10_add_30 : decode cX10_add 30 = .ok (.getfield 117, 3) := by decide +kernel
theorem dX10_add_33 : decode cX10_add 33 = .ok (.iload_n 2, 1) := by decide +kernel
theorem dX10_add_34 : decode cX10_add 34 = .ok (.iastore, 1) := by decide +kernel
theorem dX10_add_35 : decode cX10_add 35 = .ok (.aload_n 0, 1) := by decide +kernel
theorem dX10_add_36 : decode cX10_add 36 = .ok (.getfield 28, 3) := by decide +kernel
theorem dX10_add_39 : decode cX10_add 39 = .ok (.aload_n 0, 1) := by decide +kernel
theorem dX10_add_40 : decode cX10_add 40 = .ok (.getfield 117, 3) := by decide +kernel
theorem dX10_add_43 : decode cX10_add 43 = .ok (.iload_n 3, 1) := by decide +kernel
theorem dX10_add_44 : decode cX10_add 44 = .ok (.iastore, 1) := by decide +kernel
theorem dX10_add_45 : decode cX10_add 45 = .ok (.aload_n 0, 1) := by decide +kernel
theorem dX10_add_46 : decode cX10_add 46 = .ok (.getfield 40, 3) := by decide +kernel
theorem dX10_add_49 : decode cX10_add 49 = .ok (.aload_n 0, 1) := by decide +kernel
theorem dX10_add_50 : decode cX10_add 50 = .ok (.getfield 117, 3) := by decide +kernel
theorem dX10_add_53 : decode cX10_add 53 = .ok (.lload 4, 2) := by decide +kernel
theorem dX10_add_55 : decode cX10_add 55 = .ok (.lastore, 1) := by decide +kernel
theorem dX10_add_56 : decode cX10_add 56 = .ok (.aload_n 0, 1) := by decide +kernel
theorem dX10_add_57 : decode cX10_add 57 = .ok (.getfield 34, 3) := by decide +kernel
theorem dX10_add_60 : decode cX10_add 60 = .ok (.aload_n 0, 1) := by decide +kernel
theorem dX10_add_61 : decode cX10_add 61 = .ok (.getfield 117, 3) := by decide +kernel
theorem dX10_add_64 : decode cX10_add 64 = .ok (.iload 6, 2) := by decide +kernel
theorem dX10_add_66 : decode cX10_add 66 = .ok (.iastore, 1) := by decide +kernel
theorem dX10_add_67 : decode cX10_add 67 = .ok (.aload_n 0, 1) := by decide +kernel
theorem dX10_add_68 : decode cX10_add 68 = .ok (.dup, 1) := by decide +kernel
theorem dX10_add_69 : decode cX10_add 69 = .ok (.getfield 117, 3) := by decide +kernel
theorem dX10_add_72 : decode cX10_add 72 = .ok (.iconst 1, 1) := by decide +kernel
theorem dX10_add_73 : decode cX10_add 73 = .ok (.iadd, 1) := by decide +kernel
theorem dX10_add_74 : decode cX10_add 74 = .ok (.putfield 117, 3) := by decide +kernel
theorem dX10_add_77 : decode cX10_add 77 = .ok (.aload_n 0, 1) := by decide +kernel
theorem dX10_add_78 : decode cX10_add 78 = .ok (.getfield 13, 3) := by decide +kernel
theorem dX10_add_81 : decode cX10_add 81 = .ok (.aload_n 0, 1) := by decide +kernel
theorem dX10_add_82 : decode cX10_add 82 = .ok (.getfield 114, 3) := by decide +kernel
theorem dX10_add_85 : decode cX10_add 85 = .ok (.aload_n 0, 1) := by decide +kernel
theorem dX10_add_86 : decode cX10_add 86 = .ok (.getfield 117, 3) := by decide +kernel
theorem dX10_add_89 : decode cX10_add 89 = .ok (.iastore, 1) := by decide +kernel
theorem dX10_add_90 : decode cX10_add 90 = .ok (.return_, 1) := by decide +kernel
theorem dX10_birth_0 : decode cX10_birth 0 = .ok (.aload_n 0, 1) := by decide +kernel
theorem dX10_birth_1 : decode cX10_birth 1 = .ok (.iload_n 1, 1) := by decide +kernel
theorem dX10_birth_2 : decode cX10_birth 2 = .ok (.iconst 3, 1) := by decide +kernel
theorem dX10_birth_3 : decode cX10_birth 3 = .ok (.invokevirtual 124, 3) := by decide +kernel
theorem dX10_birth_6 : decode cX10_birth 6 = .ok (.ifCond .eq 33, 3) := by decide +kernel
theorem dX10_birth_9 : decode cX10_birth 9 = .ok (.iload_n 2, 1) := by decide +kernel
theorem dX10_birth_10 : decode cX10_birth 10 = .ok (.invokestatic 128, 3) := by decide +kernel
theorem dX10_birth_13 : decode cX10_birth 13 = .ok (.ifCond .eq 26, 3) := by decide +kernel
theorem dX10_birth_16 : decode cX10_birth 16 = .ok (.lload_n 3, 1) := by decide +kernel
theorem dX10_birth_17 : decode cX10_birth 17 = .ok (.invokestatic 106, 3) := by decide +kernel
theorem dX10_birth_20 : decode cX10_birth 20 = .ok (.ifCond .eq 19, 3) := by decide +kernel
theorem dX10_birth_23 : decode cX10_birth 23 = .ok (.lload 5, 2) := by decide +kernel
theorem dX10_birth_25 : decode cX10_birth 25 = .ok (.invokestatic 106, 3) := by decide +kernel
theorem dX10_birth_28 : decode cX10_birth 28 = .ok (.ifCond .eq 11, 3) := by decide +kernel
theorem dX10_birth_31 : decode cX10_birth 31 = .ok (.lload 7, 2) := by decide +kernel
theorem dX10_birth_33 : decode cX10_birth 33 = .ok (.invokestatic 106, 3) := by decide +kernel
theorem dX10_birth_36 : decode cX10_birth 36 = .ok (.ifCond .ne 5, 3) := by decide +kernel
theorem dX10_birth_39 : decode cX10_birth 39 = .ok (.iconst (-1), 1) := by decide +kernel
theorem dX10_birth_40 : decode cX10_birth 40 = .ok (.ireturn, 1) := by decide +kernel
theorem dX10_birth_41 : decode cX10_birth 41 = .ok (.aload_n 0, 1) := by decide +kernel
theorem dX10_birth_42 : decode cX10_birth 42 = .ok (.iload_n 1, 1) := by decide +kernel
theorem dX10_birth_43 : decode cX10_birth 43 = .ok (.iconst 0, 1) := by decide +kernel
theorem dX10_birth_44 : decode cX10_birth 44 = .ok (.invokevirtual 132, 3) := by decide +kernel
theorem dX10_birth_47 : decode cX10_birth 47 = .ok (.istore 9, 2) := by decide +kernel
theorem dX10_birth_49 : decode cX10_birth 49 = .ok (.aload_n 0, 1) := by decide +kernel
theorem dX10_birth_50 : decode cX10_birth 50 = .ok (.iconst 0, 1) := by decide +kernel
theorem dX10_birth_51 : decode cX10_birth 51 = .ok (.iload_n 2, 1) := by decide +kernel
theorem dX10_birth_52 : decode cX10_birth 52 = .ok (.iconst (-1), 1) := by decide +kernel
theorem dX10_birth_53 : decode cX10_birth 53 = .ok (.lload_n 3, 1) := by decide +kernel
theorem dX10_birth_54 : decode cX10_birth 54 = .ok (.iconst (-1), 1) := by decide +kernel
theorem dX10_birth_55 : decode cX10_birth 55 = .ok (.invokevirtual 136, 3) := by decide +kernel
theorem dX10_birth_58 : decode cX10_birth 58 = .ok (.aload_n 0, 1) := by decide +kernel
theorem dX10_birth_59 : decode cX10_birth 59 = .ok (.iconst 1, 1) := by decide +kernel
theorem dX10_birth_60 : decode cX10_birth 60 = .ok (.iconst 1, 1) := by decide +kernel
theorem dX10_birth_61 : decode cX10_birth 61 = .ok (.iconst (-1), 1) := by decide +kernel
theorem dX10_birth_62 : decode cX10_birth 62 = .ok (.lload 5, 2) := by decide +kernel
theorem dX10_birth_64 : decode cX10_birth 64 = .ok (.iconst (-1), 1) := by decide +kernel
theorem dX10_birth_65 : decode cX10_birth 65 = .ok (.invokevirtual 136, 3) := by decide +kernel
theorem dX10_birth_68 : decode cX10_birth 68 = .ok (.aload_n 0, 1) := by decide +kernel
theorem dX10_birth_69 : decode cX10_birth 69 = .ok (.iconst 2, 1) := by decide +kernel
theorem dX10_birth_70 : decode cX10_birth 70 = .ok (.iconst 2, 1) := by decide +kernel
theorem dX10_birth_71 : decode cX10_birth 71 = .ok (.iconst (-1), 1) := by decide +kernel
theorem dX10_birth_72 : decode cX10_birth 72 = .ok (.lload 7, 2) := by decide +kernel
theorem dX10_birth_74 : decode cX10_birth 74 = .ok (.iconst (-1), 1) := by decide +kernel
theorem dX10_birth_75 : decode cX10_birth 75 = .ok (.invokevirtual 136, 3) := by decide +kernel
theorem dX10_birth_78 : decode cX10_birth 78 = .ok (.iload 9, 2) := by decide +kernel
theorem dX10_birth_80 : decode cX10_birth 80 = .ok (.ireturn, 1) := by decide +kernel
theorem dX10_found_0 : decode cX10_found 0 = .ok (.aload_n 0, 1) := by decide +kernel
theorem dX10_found_1 : decode cX10_found 1 = .ok (.iload_n 1, 1) := by decide +kernel
theorem dX10_found_2 : decode cX10_found 2 = .ok (.iconst 1, 1) := by decide +kernel
theorem dX10_found_3 : decode cX10_found 3 = .ok (.invokevirtual 124, 3) := by decide +kernel
theorem dX10_found_6 : decode cX10_found 6 = .ok (.ifCond .eq 17, 3) := by decide +kernel
theorem dX10_found_9 : decode cX10_found 9 = .ok (.iload_n 2, 1) := by decide +kernel
theorem dX10_found_10 : decode cX10_found 10 = .ok (.invokestatic 128, 3) := by decide +kernel
theorem dX10_found_13 : decode cX10_found 13 = .ok (.ifCond .eq 10, 3) := by decide +kernel
theorem dX10_found_16 : decode cX10_found 16 = .ok (.lload_n 3, 1) := by decide +kernel
theorem dX10_found_17 : decode cX10_found 17 = .ok (.invokestatic 106, 3) := by decide +kernel
theorem dX10_found_20 : decode cX10_found 20 = .ok (.ifCond .ne 5, 3) := by decide +kernel
theorem dX10_found_23 : decode cX10_found 23 = .ok (.iconst (-1), 1) := by decide +kernel
theorem dX10_found_24 : decode cX10_found 24 = .ok (.ireturn, 1) := by decide +kernel
theorem dX10_found_25 : decode cX10_found 25 = .ok (.aload_n 0, 1) := by decide +kernel
theorem dX10_found_26 : decode cX10_found 26 = .ok (.iload_n 1, 1) := by decide +kernel
theorem dX10_found_27 : decode cX10_found 27 = .ok (.iconst 1, 1) := by decide +kernel
theorem dX10_found_28 : decode cX10_found 28 = .ok (.invokevirtual 132, 3) := by decide +kernel
theorem dX10_found_31 : decode cX10_found 31 = .ok (.istore 5, 2) := by decide +kernel
theorem dX10_found_33 : decode cX10_found 33 = .ok (.aload_n 0, 1) := by decide +kernel
theorem dX10_found_34 : decode cX10_found 34 = .ok (.iconst 0, 1) := by decide +kernel
theorem dX10_found_35 : decode cX10_found 35 = .ok (.iload_n 2, 1) := by decide +kernel
theorem dX10_found_36 : decode cX10_found 36 = .ok (.iconst (-1), 1) := by decide +kernel
theorem dX10_found_37 : decode cX10_found 37 = .ok (.lload_n 3, 1) := by decide +kernel
theorem dX10_found_38 : decode cX10_found 38 = .ok (.iconst (-1), 1) := by decide +kernel
theorem dX10_found_39 : decode cX10_found 39 = .ok (.invokevirtual 136, 3) := by decide +kernel
theorem dX10_found_42 : decode cX10_found 42 = .ok (.iload 5, 2) := by decide +kernel
theorem dX10_found_44 : decode cX10_found 44 = .ok (.ireturn, 1) := by decide +kernel
theorem dX10_wedding_0 : decode cX10_wedding 0 = .ok (.aload_n 0, 1) := by decide +kernel
theorem dX10_wedding_1 : decode cX10_wedding 1 = .ok (.iload_n 1, 1) := by decide +kernel
theorem dX10_wedding_2 : decode cX10_wedding 2 = .ok (.iconst 2, 1) := by decide +kernel
theorem dX10_wedding_3 : decode cX10_wedding 3 = .ok (.invokevirtual 124, 3) := by decide +kernel
theorem dX10_wedding_6 : decode cX10_wedding 6 = .ok (.ifCond .eq 18, 3) := by decide +kernel
theorem dX10_wedding_9 : decode cX10_wedding 9 = .ok (.lload_n 2, 1) := by decide +kernel
theorem dX10_wedding_10 : decode cX10_wedding 10 = .ok (.invokestatic 106, 3) := by decide +kernel
theorem dX10_wedding_13 : decode cX10_wedding 13 = .ok (.ifCond .eq 11, 3) := by decide +kernel
theorem dX10_wedding_16 : decode cX10_wedding 16 = .ok (.lload 4, 2) := by decide +kernel
theorem dX10_wedding_18 : decode cX10_wedding 18 = .ok (.invokestatic 106, 3) := by decide +kernel
theorem dX10_wedding_21 : decode cX10_wedding 21 = .ok (.ifCond .ne 5, 3) := by decide +kernel
theorem dX10_wedding_24 : decode cX10_wedding 24 = .ok (.iconst (-1), 1) := by decide +kernel
theorem dX10_wedding_25 : decode cX10_wedding 25 = .ok (.ireturn, 1) := by decide +kernel
theorem dX10_wedding_26 : decode cX10_wedding 26 = .ok (.aload_n 0, 1) := by decide +kernel
theorem dX10_wedding_27 : decode cX10_wedding 27 = .ok (.iload_n 1, 1) := by decide +kernel
theorem dX10_wedding_28 : decode cX10_wedding 28 = .ok (.iconst 2, 1) := by decide +kernel
theorem dX10_wedding_29 : decode cX10_wedding 29 = .ok (.invokevirtual 132, 3) := by decide +kernel
theorem dX10_wedding_32 : decode cX10_wedding 32 = .ok (.istore 6, 2) := by decide +kernel
theorem dX10_wedding_34 : decode cX10_wedding 34 = .ok (.aload_n 0, 1) := by decide +kernel
theorem dX10_wedding_35 : decode cX10_wedding 35 = .ok (.iconst 3, 1) := by decide +kernel
theorem dX10_wedding_36 : decode cX10_wedding 36 = .ok (.iconst 1, 1) := by decide +kernel
theorem dX10_wedding_37 : decode cX10_wedding 37 = .ok (.iconst (-1), 1) := by decide +kernel
theorem dX10_wedding_38 : decode cX10_wedding 38 = .ok (.lload_n 2, 1) := by decide +kernel
theorem dX10_wedding_39 : decode cX10_wedding 39 = .ok (.iconst (-1), 1) := by decide +kernel
theorem dX10_wedding_40 : decode cX10_wedding 40 = .ok (.invokevirtual 136, 3) := by decide +kernel
theorem dX10_wedding_43 : decode cX10_wedding 43 = .ok (.aload_n 0, 1) := by decide +kernel
theorem dX10_wedding_44 : decode cX10_wedding 44 = .ok (.iconst 4, 1) := by decide +kernel
theorem dX10_wedding_45 : decode cX10_wedding 45 = .ok (.iconst 2, 1) := by decide +kernel
theorem dX10_wedding_46 : decode cX10_wedding 46 = .ok (.iconst (-1), 1) := by decide +kernel
theorem dX10_wedding_47 : decode cX10_wedding 47 = .ok (.lload 4, 2) := by decide +kernel
theorem dX10_wedding_49 : decode cX10_wedding 49 = .ok (.iconst (-1), 1) := by decide +kernel
theorem dX10_wedding_50 : decode cX10_wedding 50 = .ok (.invokevirtual 136, 3) := by decide +kernel
theorem dX10_wedding_53 : decode cX10_wedding 53 = .ok (.iload 6, 2) := by decide +kernel
theorem dX10_wedding_55 : decode cX10_wedding 55 = .ok (.ireturn, 1) := by decide +kernel
theorem dX10_death_0 : decode cX10_death 0 = .ok (.aload_n 0, 1) := by decide +kernel
theorem dX10_death_1 : decode cX10_death 1 = .ok (.iload_n 1, 1) := by decide +kernel
theorem dX10_death_2 : decode cX10_death 2 = .ok (.iload_n 2, 1) := by decide +kernel
theorem dX10_death_3 : decode cX10_death 3 = .ok (.lload_n 3, 1) := by decide +kernel
theorem dX10_death_4 : decode cX10_death 4 = .ok (.iload 5, 2) := by decide +kernel
theorem dX10_death_6 : decode cX10_death 6 = .ok (.iconst 5, 1) := by decide +kernel
theorem dX10_death_7 : decode cX10_death 7 = .ok (.invokevirtual 140, 3) := by decide +kernel
theorem dX10_death_10 : decode cX10_death 10 = .ok (.ireturn, 1) := by decide +kernel
theorem dX10_list_0 : decode cX10_list 0 = .ok (.aload_n 0, 1) := by decide +kernel
theorem dX10_list_1 : decode cX10_list 1 = .ok (.iload_n 1, 1) := by decide +kernel
theorem dX10_list_2 : decode cX10_list 2 = .ok (.iload_n 2, 1) := by decide +kernel
theorem dX10_list_3 : decode cX10_list 3 = .ok (.lload_n 3, 1) := by decide +kernel
theorem dX10_list_4 : decode cX10_list 4 = .ok (.iload 5, 2) := by decide +kernel
theorem dX10_list_6 : decode cX10_list 6 = .ok (.bipush 6, 2) := by decide +kernel
theorem dX10_list_8 : decode cX10_list 8 = .ok (.invokevirtual 140, 3) := by decide +kernel
theorem dX10_list_11 : decode cX10_list 11 = .ok (.ireturn, 1) := by decide +kernel
theorem dX10_one_0 : decode cX10_one 0 = .ok (.aload_n 0, 1) := by decide +kernel
theorem dX10_one_1 : decode cX10_one 1 = .ok (.iload_n 1, 1) := by decide +kernel
theorem dX10_one_2 : decode cX10_one 2 = .ok (.iconst 1, 1) := by decide +kernel
theorem dX10_one_3 : decode cX10_one 3 = .ok (.invokevirtual 124, 3) := by decide +kernel
theorem dX10_one_6 : decode cX10_one 6 = .ok (.ifCond .eq 25, 3) := by decide +kernel
theorem dX10_one_9 : decode cX10_one 9 = .ok (.iload_n 2, 1) := by decide +kernel
theorem dX10_one_10 : decode cX10_one 10 = .ok (.invokestatic 128, 3) := by decide +kernel
theorem dX10_one_13 : decode cX10_one 13 = .ok (.ifCond .eq 18, 3) := by decide +kernel
theorem dX10_one_16 : decode cX10_one 16 = .ok (.lload_n 3, 1) := by decide +kernel
theorem dX10_one_17 : decode cX10_one 17 = .ok (.invokestatic 106, 3) := by decide +kernel
theorem dX10_one_20 : decode cX10_one 20 = .ok (.ifCond .eq 11, 3) := by decide +kernel
theorem dX10_one_23 : decode cX10_one 23 = .ok (.iload 5, 2) := by decide +kernel
theorem dX10_one_25 : decode cX10_one 25 = .ok (.invokestatic 144, 3) := by decide +kernel
theorem dX10_one_28 : decode cX10_one 28 = .ok (.ifCond .ne 5, 3) := by decide +kernel
theorem dX10_one_31 : decode cX10_one 31 = .ok (.iconst (-1), 1) := by decide +kernel
theorem dX10_one_32 : decode cX10_one 32 = .ok (.ireturn, 1) := by decide +kernel
theorem dX10_one_33 : decode cX10_one 33 = .ok (.aload_n 0, 1) := by decide +kernel
theorem dX10_one_34 : decode cX10_one 34 = .ok (.iload_n 1, 1) := by decide +kernel
theorem dX10_one_35 : decode cX10_one 35 = .ok (.iconst 3, 1) := by decide +kernel
theorem dX10_one_36 : decode cX10_one 36 = .ok (.invokevirtual 132, 3) := by decide +kernel
theorem dX10_one_39 : decode cX10_one 39 = .ok (.istore 7, 2) := by decide +kernel
theorem dX10_one_41 : decode cX10_one 41 = .ok (.aload_n 0, 1) := by decide +kernel
theorem dX10_one_42 : decode cX10_one 42 = .ok (.iload 6, 2) := by decide +kernel
theorem dX10_one_44 : decode cX10_one 44 = .ok (.iload_n 2, 1) := by decide +kernel
theorem dX10_one_45 : decode cX10_one 45 = .ok (.iload 5, 2) := by decide +kernel
theorem dX10_one_47 : decode cX10_one 47 = .ok (.lload_n 3, 1) := by decide +kernel
theorem dX10_one_48 : decode cX10_one 48 = .ok (.iconst (-1), 1) := by decide +kernel
theorem dX10_one_49 : decode cX10_one 49 = .ok (.invokevirtual 136, 3) := by decide +kernel
theorem dX10_one_52 : decode cX10_one 52 = .ok (.iload 7, 2) := by decide +kernel
theorem dX10_one_54 : decode cX10_one 54 = .ok (.ireturn, 1) := by decide +kernel
theorem dX10_witness_0 : decode cX10_witness 0 = .ok (.aload_n 0, 1) := by decide +kernel
theorem dX10_witness_1 : decode cX10_witness 1 = .ok (.iload_n 1, 1) := by decide +kernel
theorem dX10_witness_2 : decode cX10_witness 2 = .ok (.iload 5, 2) := by decide +kernel
theorem dX10_witness_4 : decode cX10_witness 4 = .ok (.iconst (-1), 1) := by decide +kernel
theorem dX10_witness_5 : decode cX10_witness 5 = .ok (.if_icmp .ne 7, 3) := by decide +kernel
theorem dX10_witness_8 : decode cX10_witness 8 = .ok (.iconst 1, 1) := by decide +kernel
theorem dX10_witness_9 : decode cX10_witness 9 = .ok (.goto 4, 3) := by decide +kernel
theorem dX10_witness_12 : decode cX10_witness 12 = .ok (.iconst 2, 1) := by decide +kernel
theorem dX10_witness_13 : decode cX10_witness 13 = .ok (.invokevirtual 124, 3) := by decide +kernel
theorem dX10_witness_16 : decode cX10_witness 16 = .ok (.ifCond .eq 39, 3) := by decide +kernel
theorem dX10_witness_19 : decode cX10_witness 19 = .ok (.iload_n 2, 1) := by decide +kernel
theorem dX10_witness_20 : decode cX10_witness 20 = .ok (.invokestatic 128, 3) := by decide +kernel
theorem dX10_witness_23 : decode cX10_witness 23 = .ok (.ifCond .eq 32, 3) := by decide +kernel
theorem dX10_witness_26 : decode cX10_witness 26 = .ok (.lload_n 3, 1) := by decide +kernel
theorem dX10_witness_27 : decode cX10_witness 27 = .ok (.invokestatic 106, 3) := by decide +kernel
theorem dX10_witness_30 : decode cX10_witness 30 = .ok (.ifCond .eq 25, 3) := by decide +kernel
theorem dX10_witness_33 : decode cX10_witness 33 = .ok (.iload 5, 2) := by decide +kernel
theorem dX10_witness_35 : decode cX10_witness 35 = .ok (.iconst (-1), 1) := by decide +kernel
theorem dX10_witness_36 : decode cX10_witness 36 = .ok (.if_icmp .eq 21, 3) := by decide +kernel
theorem dX10_witness_39 : decode cX10_witness 39 = .ok (.iload 5, 2) := by decide +kernel
theorem dX10_witness_41 : decode cX10_witness 41 = .ok (.invokestatic 128, 3) := by decide +kernel
theorem dX10_witness_44 : decode cX10_witness 44 = .ok (.ifCond .eq 11, 3) := by decide +kernel
theorem dX10_witness_47 : decode cX10_witness 47 = .ok (.lload 6, 2) := by decide +kernel
theorem dX10_witness_49 : decode cX10_witness 49 = .ok (.invokestatic 106, 3) := by decide +kernel
theorem dX10_witness_52 : decode cX10_witness 52 = .ok (.ifCond .ne 5, 3) := by decide +kernel
theorem dX10_witness_55 : decode cX10_witness 55 = .ok (.iconst (-1), 1) := by decide +kernel
theorem dX10_witness_56 : decode cX10_witness 56 = .ok (.ireturn, 1) := by decide +kernel
theorem dX10_witness_57 : decode cX10_witness 57 = .ok (.aload_n 0, 1) := by decide +kernel
theorem dX10_witness_58 : decode cX10_witness 58 = .ok (.iload_n 1, 1) := by decide +kernel
theorem dX10_witness_59 : decode cX10_witness 59 = .ok (.iconst 4, 1) := by decide +kernel
theorem dX10_witness_60 : decode cX10_witness 60 = .ok (.invokevirtual 132, 3) := by decide +kernel
theorem dX10_witness_63 : decode cX10_witness 63 = .ok (.istore 8, 2) := by decide +kernel
theorem dX10_witness_65 : decode cX10_witness 65 = .ok (.aload_n 0, 1) := by decide +kernel
theorem dX10_witness_66 : decode cX10_witness 66 = .ok (.bipush 7, 2) := by decide +kernel
theorem dX10_witness_68 : decode cX10_witness 68 = .ok (.iload_n 2, 1) := by decide +kernel
theorem dX10_witness_69 : decode cX10_witness 69 = .ok (.iconst (-1), 1) := by decide +kernel
theorem dX10_witness_70 : decode cX10_witness 70 = .ok (.lload_n 3, 1) := by decide +kernel
theorem dX10_witness_71 : decode cX10_witness 71 = .ok (.iconst (-1), 1) := by decide +kernel
theorem dX10_witness_72 : decode cX10_witness 72 = .ok (.invokevirtual 136, 3) := by decide +kernel
theorem dX10_witness_75 : decode cX10_witness 75 = .ok (.iload 5, 2) := by decide +kernel
theorem dX10_witness_77 : decode cX10_witness 77 = .ok (.iconst (-1), 1) := by decide +kernel
theorem dX10_witness_78 : decode cX10_witness 78 = .ok (.if_icmp .eq 15, 3) := by decide +kernel
theorem dX10_witness_81 : decode cX10_witness 81 = .ok (.aload_n 0, 1) := by decide +kernel
theorem dX10_witness_82 : decode cX10_witness 82 = .ok (.bipush 7, 2) := by decide +kernel
theorem dX10_witness_84 : decode cX10_witness 84 = .ok (.iload 5, 2) := by decide +kernel
theorem dX10_witness_86 : decode cX10_witness 86 = .ok (.iconst (-1), 1) := by decide +kernel
theorem dX10_witness_87 : decode cX10_witness 87 = .ok (.lload 6, 2) := by decide +kernel
theorem dX10_witness_89 : decode cX10_witness 89 = .ok (.iconst (-1), 1) := by decide +kernel
theorem dX10_witness_90 : decode cX10_witness 90 = .ok (.invokevirtual 136, 3) := by decide +kernel
theorem dX10_witness_93 : decode cX10_witness 93 = .ok (.iload 8, 2) := by decide +kernel
theorem dX10_witness_95 : decode cX10_witness 95 = .ok (.ireturn, 1) := by decide +kernel
theorem dX10_copy_0 : decode cX10_copy 0 = .ok (.iload_n 1, 1) := by decide +kernel
theorem dX10_copy_1 : decode cX10_copy 1 = .ok (.ifCond .lt 20, 3) := by decide +kernel
theorem dX10_copy_4 : decode cX10_copy 4 = .ok (.iload_n 1, 1) := by decide +kernel
theorem dX10_copy_5 : decode cX10_copy 5 = .ok (.aload_n 0, 1) := by decide +kernel
theorem dX10_copy_6 : decode cX10_copy 6 = .ok (.getfield 114, 3) := by decide +kernel
theorem dX10_copy_9 : decode cX10_copy 9 = .ok (.if_icmp .ge 12, 3) := by decide +kernel
theorem dX10_copy_12 : decode cX10_copy 12 = .ok (.aload_n 0, 1) := by decide +kernel
theorem dX10_copy_13 : decode cX10_copy 13 = .ok (.getfield 16, 3) := by decide +kernel
theorem dX10_copy_16 : decode cX10_copy 16 = .ok (.iload_n 1, 1) := by decide +kernel
theorem dX10_copy_17 : decode cX10_copy 17 = .ok (.iaload, 1) := by decide +kernel
theorem dX10_copy_18 : decode cX10_copy 18 = .ok (.ifCond .lt 5, 3) := by decide +kernel
theorem dX10_copy_21 : decode cX10_copy 21 = .ok (.iconst (-1), 1) := by decide +kernel
theorem dX10_copy_22 : decode cX10_copy 22 = .ok (.ireturn, 1) := by decide +kernel
theorem dX10_copy_23 : decode cX10_copy 23 = .ok (.aload_n 0, 1) := by decide +kernel
theorem dX10_copy_24 : decode cX10_copy 24 = .ok (.getfield 13, 3) := by decide +kernel
theorem dX10_copy_27 : decode cX10_copy 27 = .ok (.iload_n 1, 1) := by decide +kernel
theorem dX10_copy_28 : decode cX10_copy 28 = .ok (.iaload, 1) := by decide +kernel
theorem dX10_copy_29 : decode cX10_copy 29 = .ok (.istore 8, 2) := by decide +kernel
theorem dX10_copy_31 : decode cX10_copy 31 = .ok (.aload_n 0, 1) := by decide +kernel
theorem dX10_copy_32 : decode cX10_copy 32 = .ok (.getfield 13, 3) := by decide +kernel
theorem dX10_copy_35 : decode cX10_copy 35 = .ok (.iload_n 1, 1) := by decide +kernel
theorem dX10_copy_36 : decode cX10_copy 36 = .ok (.iconst 1, 1) := by decide +kernel
theorem dX10_copy_37 : decode cX10_copy 37 = .ok (.iadd, 1) := by decide +kernel
theorem dX10_copy_38 : decode cX10_copy 38 = .ok (.iaload, 1) := by decide +kernel
theorem dX10_copy_39 : decode cX10_copy 39 = .ok (.iload 8, 2) := by decide +kernel
theorem dX10_copy_41 : decode cX10_copy 41 = .ok (.isub, 1) := by decide +kernel
theorem dX10_copy_42 : decode cX10_copy 42 = .ok (.istore 9, 2) := by decide +kernel
theorem dX10_copy_44 : decode cX10_copy 44 = .ok (.aload_n 0, 1) := by decide +kernel
theorem dX10_copy_45 : decode cX10_copy 45 = .ok (.aload_n 0, 1) := by decide +kernel
theorem dX10_copy_46 : decode cX10_copy 46 = .ok (.getfield 7, 3) := by decide +kernel
theorem dX10_copy_49 : decode cX10_copy 49 = .ok (.iload_n 1, 1) := by decide +kernel
theorem dX10_copy_50 : decode cX10_copy 50 = .ok (.iaload, 1) := by decide +kernel
theorem dX10_copy_51 : decode cX10_copy 51 = .ok (.iload 9, 2) := by decide +kernel
theorem dX10_copy_53 : decode cX10_copy 53 = .ok (.invokevirtual 124, 3) := by decide +kernel
theorem dX10_copy_56 : decode cX10_copy 56 = .ok (.ifCond .eq 38, 3) := by decide +kernel
theorem dX10_copy_59 : decode cX10_copy 59 = .ok (.lload_n 2, 1) := by decide +kernel
theorem dX10_copy_60 : decode cX10_copy 60 = .ok (.invokestatic 106, 3) := by decide +kernel
theorem dX10_copy_63 : decode cX10_copy 63 = .ok (.ifCond .eq 31, 3) := by decide +kernel
theorem dX10_copy_66 : decode cX10_copy 66 = .ok (.iload 9, 2) := by decide +kernel
theorem dX10_copy_68 : decode cX10_copy 68 = .ok (.iconst 1, 1) := by decide +kernel
theorem dX10_copy_69 : decode cX10_copy 69 = .ok (.if_icmp .le 11, 3) := by decide +kernel
theorem dX10_copy_72 : decode cX10_copy 72 = .ok (.lload 4, 2) := by decide +kernel
theorem dX10_copy_74 : decode cX10_copy 74 = .ok (.invokestatic 106, 3) := by decide +kernel
theorem dX10_copy_77 : decode cX10_copy 77 = .ok (.ifCond .eq 17, 3) := by decide +kernel
theorem dX10_copy_80 : decode cX10_copy 80 = .ok (.iload 9, 2) := by decide +kernel
theorem dX10_copy_82 : decode cX10_copy 82 = .ok (.iconst 2, 1) := by decide +kernel
theorem dX10_copy_83 : decode cX10_copy 83 = .ok (.if_icmp .le 13, 3) := by decide +kernel
theorem dX10_copy_86 : decode cX10_copy 86 = .ok (.lload 6, 2) := by decide +kernel
theorem dX10_copy_88 : decode cX10_copy 88 = .ok (.invokestatic 106, 3) := by decide +kernel
theorem dX10_copy_91 : decode cX10_copy 91 = .ok (.ifCond .ne 5, 3) := by decide +kernel
theorem dX10_copy_94 : decode cX10_copy 94 = .ok (.iconst (-1), 1) := by decide +kernel
theorem dX10_copy_95 : decode cX10_copy 95 = .ok (.ireturn, 1) := by decide +kernel
theorem dX10_copy_96 : decode cX10_copy 96 = .ok (.aload_n 0, 1) := by decide +kernel
theorem dX10_copy_97 : decode cX10_copy 97 = .ok (.aload_n 0, 1) := by decide +kernel
theorem dX10_copy_98 : decode cX10_copy 98 = .ok (.getfield 7, 3) := by decide +kernel
theorem dX10_copy_101 : decode cX10_copy 101 = .ok (.iload_n 1, 1) := by decide +kernel
theorem dX10_copy_102 : decode cX10_copy 102 = .ok (.iaload, 1) := by decide +kernel
theorem dX10_copy_103 : decode cX10_copy 103 = .ok (.aload_n 0, 1) := by decide +kernel
theorem dX10_copy_104 : decode cX10_copy 104 = .ok (.getfield 19, 3) := by decide +kernel
theorem dX10_copy_107 : decode cX10_copy 107 = .ok (.iload_n 1, 1) := by decide +kernel
theorem dX10_copy_108 : decode cX10_copy 108 = .ok (.iaload, 1) := by decide +kernel
theorem dX10_copy_109 : decode cX10_copy 109 = .ok (.invokevirtual 132, 3) := by decide +kernel
theorem dX10_copy_112 : decode cX10_copy 112 = .ok (.istore 10, 2) := by decide +kernel
theorem dX10_copy_114 : decode cX10_copy 114 = .ok (.aload_n 0, 1) := by decide +kernel
theorem dX10_copy_115 : decode cX10_copy 115 = .ok (.getfield 16, 3) := by decide +kernel
theorem dX10_copy_118 : decode cX10_copy 118 = .ok (.iload 10, 2) := by decide +kernel
theorem dX10_copy_120 : decode cX10_copy 120 = .ok (.iload_n 1, 1) := by decide +kernel
theorem dX10_copy_121 : decode cX10_copy 121 = .ok (.iastore, 1) := by decide +kernel
theorem dX10_copy_122 : decode cX10_copy 122 = .ok (.iconst 0, 1) := by decide +kernel
theorem dX10_copy_123 : decode cX10_copy 123 = .ok (.istore 11, 2) := by decide +kernel
theorem dX10_copy_125 : decode cX10_copy 125 = .ok (.iload 11, 2) := by decide +kernel
theorem dX10_copy_127 : decode cX10_copy 127 = .ok (.iload 9, 2) := by decide +kernel
theorem dX10_copy_129 : decode cX10_copy 129 = .ok (.if_icmp .ge 70, 3) := by decide +kernel
theorem dX10_copy_132 : decode cX10_copy 132 = .ok (.aload_n 0, 1) := by decide +kernel
theorem dX10_copy_133 : decode cX10_copy 133 = .ok (.aload_n 0, 1) := by decide +kernel
theorem dX10_copy_134 : decode cX10_copy 134 = .ok (.getfield 31, 3) := by decide +kernel
theorem dX10_copy_137 : decode cX10_copy 137 = .ok (.iload 8, 2) := by decide +kernel
theorem dX10_copy_139 : decode cX10_copy 139 = .ok (.iload 11, 2) := by decide +kernel
theorem dX10_copy_141 : decode cX10_copy 141 = .ok (.iadd, 1) := by decide +kernel
theorem dX10_copy_142 : decode cX10_copy 142 = .ok (.iaload, 1) := by decide +kernel
theorem dX10_copy_143 : decode cX10_copy 143 = .ok (.aload_n 0, 1) := by decide +kernel
theorem dX10_copy_144 : decode cX10_copy 144 = .ok (.getfield 25, 3) := by decide +kernel
theorem dX10_copy_147 : decode cX10_copy 147 = .ok (.iload 8, 2) := by decide +kernel
theorem dX10_copy_149 : decode cX10_copy 149 = .ok (.iload 11, 2) := by decide +kernel
theorem dX10_copy_151 : decode cX10_copy 151 = .ok (.iadd, 1) := by decide +kernel
theorem dX10_copy_152 : decode cX10_copy 152 = .ok (.iaload, 1) := by decide +kernel
theorem dX10_copy_153 : decode cX10_copy 153 = .ok (.aload_n 0, 1) := by decide +kernel
theorem dX10_copy_154 : decode cX10_copy 154 = .ok (.getfield 28, 3) := by decide +kernel
theorem dX10_copy_157 : decode cX10_copy 157 = .ok (.iload 8, 2) := by decide +kernel
theorem dX10_copy_159 : decode cX10_copy 159 = .ok (.iload 11, 2) := by decide +kernel
theorem dX10_copy_161 : decode cX10_copy 161 = .ok (.iadd, 1) := by decide +kernel
theorem dX10_copy_162 : decode cX10_copy 162 = .ok (.iaload, 1) := by decide +kernel
theorem dX10_copy_163 : decode cX10_copy 163 = .ok (.iload 11, 2) := by decide +kernel
theorem dX10_copy_165 : decode cX10_copy 165 = .ok (.ifCond .ne 7, 3) := by decide +kernel
theorem dX10_copy_168 : decode cX10_copy 168 = .ok (.lload_n 2, 1) := by decide +kernel
theorem dX10_copy_169 : decode cX10_copy 169 = .ok (.goto 16, 3) := by decide +kernel
theorem dX10_copy_172 : decode cX10_copy 172 = .ok (.iload 11, 2) := by decide +kernel
theorem dX10_copy_174 : decode cX10_copy 174 = .ok (.iconst 1, 1) := by decide +kernel
theorem dX10_copy_175 : decode cX10_copy 175 = .ok (.if_icmp .ne 8, 3) := by decide +kernel
theorem dX10_copy_178 : decode cX10_copy 178 = .ok (.lload 4, 2) := by decide +kernel
theorem dX10_copy_180 : decode cX10_copy 180 = .ok (.goto 5, 3) := by decide +kernel
theorem dX10_copy_183 : decode cX10_copy 183 = .ok (.lload 6, 2) := by decide +kernel
theorem dX10_copy_185 : decode cX10_copy 185 = .ok (.iload 8, 2) := by decide +kernel
theorem dX10_copy_187 : decode cX10_copy 187 = .ok (.iload 11, 2) := by decide +kernel
theorem dX10_copy_189 : decode cX10_copy 189 = .ok (.iadd, 1) := by decide +kernel
theorem dX10_copy_190 : decode cX10_copy 190 = .ok (.invokevirtual 136, 3) := by decide +kernel
theorem dX10_copy_193 : decode cX10_copy 193 = .ok (.iinc 11 1, 3) := by decide +kernel
theorem dX10_copy_196 : decode cX10_copy 196 = .ok (.goto (-71), 3) := by decide +kernel
theorem dX10_copy_199 : decode cX10_copy 199 = .ok (.iload 10, 2) := by decide +kernel
theorem dX10_copy_201 : decode cX10_copy 201 = .ok (.ireturn, 1) := by decide +kernel
theorem dX10_drop_0 : decode cX10_drop 0 = .ok (.aload_n 0, 1) := by decide +kernel
theorem dX10_drop_1 : decode cX10_drop 1 = .ok (.getfield 114, 3) := by decide +kernel
theorem dX10_drop_4 : decode cX10_drop 4 = .ok (.ifCond .ne 5, 3) := by decide +kernel
theorem dX10_drop_7 : decode cX10_drop 7 = .ok (.iconst 0, 1) := by decide +kernel
theorem dX10_drop_8 : decode cX10_drop 8 = .ok (.ireturn, 1) := by decide +kernel
theorem dX10_drop_9 : decode cX10_drop 9 = .ok (.aload_n 0, 1) := by decide +kernel
theorem dX10_drop_10 : decode cX10_drop 10 = .ok (.dup, 1) := by decide +kernel
theorem dX10_drop_11 : decode cX10_drop 11 = .ok (.getfield 114, 3) := by decide +kernel
theorem dX10_drop_14 : decode cX10_drop 14 = .ok (.iconst 1, 1) := by decide +kernel
theorem dX10_drop_15 : decode cX10_drop 15 = .ok (.isub, 1) := by decide +kernel
theorem dX10_drop_16 : decode cX10_drop 16 = .ok (.putfield 114, 3) := by decide +kernel
theorem dX10_drop_19 : decode cX10_drop 19 = .ok (.aload_n 0, 1) := by decide +kernel
theorem dX10_drop_20 : decode cX10_drop 20 = .ok (.aload_n 0, 1) := by decide +kernel
theorem dX10_drop_21 : decode cX10_drop 21 = .ok (.getfield 13, 3) := by decide +kernel
theorem dX10_drop_24 : decode cX10_drop 24 = .ok (.aload_n 0, 1) := by decide +kernel
theorem dX10_drop_25 : decode cX10_drop 25 = .ok (.getfield 114, 3) := by decide +kernel
theorem dX10_drop_28 : decode cX10_drop 28 = .ok (.iaload, 1) := by decide +kernel
theorem dX10_drop_29 : decode cX10_drop 29 = .ok (.putfield 117, 3) := by decide +kernel
theorem dX10_drop_32 : decode cX10_drop 32 = .ok (.aload_n 0, 1) := by decide +kernel
theorem dX10_drop_33 : decode cX10_drop 33 = .ok (.iconst 0, 1) := by decide +kernel
theorem dX10_drop_34 : decode cX10_drop 34 = .ok (.putfield 120, 3) := by decide +kernel
theorem dX10_drop_37 : decode cX10_drop 37 = .ok (.iconst 1, 1) := by decide +kernel
theorem dX10_drop_38 : decode cX10_drop 38 = .ok (.ireturn, 1) := by decide +kernel
theorem dX10_laws_0 : decode cX10_laws 0 = .ok (.iload_n 1, 1) := by decide +kernel
theorem dX10_laws_1 : decode cX10_laws 1 = .ok (.ifCond .lt 57, 3) := by decide +kernel
theorem dX10_laws_4 : decode cX10_laws 4 = .ok (.iload_n 1, 1) := by decide +kernel
theorem dX10_laws_5 : decode cX10_laws 5 = .ok (.bipush 40, 2) := by decide +kernel
theorem dX10_laws_7 : decode cX10_laws 7 = .ok (.if_icmp .gt 51, 3) := by decide +kernel
theorem dX10_laws_10 : decode cX10_laws 10 = .ok (.iload_n 2, 1) := by decide +kernel
theorem dX10_laws_11 : decode cX10_laws 11 = .ok (.iload_n 1, 1) := by decide +kernel
theorem dX10_laws_12 : decode cX10_laws 12 = .ok (.if_icmp .lt 46, 3) := by decide +kernel
theorem dX10_laws_15 : decode cX10_laws 15 = .ok (.iload_n 2, 1) := by decide +kernel
theorem dX10_laws_16 : decode cX10_laws 16 = .ok (.bipush 80, 2) := by decide +kernel
theorem dX10_laws_18 : decode cX10_laws 18 = .ok (.if_icmp .gt 40, 3) := by decide +kernel
theorem dX10_laws_21 : decode cX10_laws 21 = .ok (.iload_n 3, 1) := by decide +kernel
theorem dX10_laws_22 : decode cX10_laws 22 = .ok (.iload_n 1, 1) := by decide +kernel
theorem dX10_laws_23 : decode cX10_laws 23 = .ok (.if_icmp .lt 35, 3) := by decide +kernel
theorem dX10_laws_26 : decode cX10_laws 26 = .ok (.iload_n 3, 1) := by decide +kernel
theorem dX10_laws_27 : decode cX10_laws 27 = .ok (.bipush 120, 2) := by decide +kernel
theorem dX10_laws_29 : decode cX10_laws 29 = .ok (.if_icmp .gt 29, 3) := by decide +kernel
theorem dX10_laws_32 : decode cX10_laws 32 = .ok (.iload 4, 2) := by decide +kernel
theorem dX10_laws_34 : decode cX10_laws 34 = .ok (.iconst 1, 1) := by decide +kernel
theorem dX10_laws_35 : decode cX10_laws 35 = .ok (.if_icmp .lt 23, 3) := by decide +kernel
theorem dX10_laws_38 : decode cX10_laws 38 = .ok (.iload 4, 2) := by decide +kernel
theorem dX10_laws_40 : decode cX10_laws 40 = .ok (.sipush 130, 3) := by decide +kernel
theorem dX10_laws_43 : decode cX10_laws 43 = .ok (.if_icmp .gt 15, 3) := by decide +kernel
theorem dX10_laws_46 : decode cX10_laws 46 = .ok (.iload 5, 2) := by decide +kernel
theorem dX10_laws_48 : decode cX10_laws 48 = .ok (.ifCond .lt 10, 3) := by decide +kernel
theorem dX10_laws_51 : decode cX10_laws 51 = .ok (.iload 5, 2) := by decide +kernel
theorem dX10_laws_53 : decode cX10_laws 53 = .ok (.bipush 20, 2) := by decide +kernel
theorem dX10_laws_55 : decode cX10_laws 55 = .ok (.if_icmp .le 5, 3) := by decide +kernel
theorem dX10_laws_58 : decode cX10_laws 58 = .ok (.iconst 0, 1) := by decide +kernel
theorem dX10_laws_59 : decode cX10_laws 59 = .ok (.ireturn, 1) := by decide +kernel
theorem dX10_laws_60 : decode cX10_laws 60 = .ok (.aload_n 0, 1) := by decide +kernel
theorem dX10_laws_61 : decode cX10_laws 61 = .ok (.iload_n 1, 1) := by decide +kernel
theorem dX10_laws_62 : decode cX10_laws 62 = .ok (.putfield 48, 3) := by decide +kernel
theorem dX10_laws_65 : decode cX10_laws 65 = .ok (.aload_n 0, 1) := by decide +kernel
theorem dX10_laws_66 : decode cX10_laws 66 = .ok (.iload_n 2, 1) := by decide +kernel
theorem dX10_laws_67 : decode cX10_laws 67 = .ok (.putfield 52, 3) := by decide +kernel
theorem dX10_laws_70 : decode cX10_laws 70 = .ok (.aload_n 0, 1) := by decide +kernel
theorem dX10_laws_71 : decode cX10_laws 71 = .ok (.iload_n 3, 1) := by decide +kernel
theorem dX10_laws_72 : decode cX10_laws 72 = .ok (.putfield 55, 3) := by decide +kernel
theorem dX10_laws_75 : decode cX10_laws 75 = .ok (.aload_n 0, 1) := by decide +kernel
theorem dX10_laws_76 : decode cX10_laws 76 = .ok (.iload 4, 2) := by decide +kernel
theorem dX10_laws_78 : decode cX10_laws 78 = .ok (.putfield 58, 3) := by decide +kernel
theorem dX10_laws_81 : decode cX10_laws 81 = .ok (.aload_n 0, 1) := by decide +kernel
theorem dX10_laws_82 : decode cX10_laws 82 = .ok (.iload 5, 2) := by decide +kernel
theorem dX10_laws_84 : decode cX10_laws 84 = .ok (.putfield 61, 3) := by decide +kernel
theorem dX10_laws_87 : decode cX10_laws 87 = .ok (.aload_n 0, 1) := by decide +kernel
theorem dX10_laws_88 : decode cX10_laws 88 = .ok (.iconst 0, 1) := by decide +kernel
theorem dX10_laws_89 : decode cX10_laws 89 = .ok (.putfield 120, 3) := by decide +kernel
theorem dX10_laws_92 : decode cX10_laws 92 = .ok (.iconst 1, 1) := by decide +kernel
theorem dX10_laws_93 : decode cX10_laws 93 = .ok (.ireturn, 1) := by decide +kernel
theorem dX10_sound_0 : decode cX10_sound 0 = .ok (.iload_n 1, 1) := by decide +kernel
theorem dX10_sound_1 : decode cX10_sound 1 = .ok (.ifCond .lt 28, 3) := by decide +kernel
theorem dX10_sound_4 : decode cX10_sound 4 = .ok (.iload_n 1, 1) := by decide +kernel
theorem dX10_sound_5 : decode cX10_sound 5 = .ok (.bipush 25, 2) := by decide +kernel
theorem dX10_sound_7 : decode cX10_sound 7 = .ok (.if_icmp .gt 22, 3) := by decide +kernel
theorem dX10_sound_10 : decode cX10_sound 10 = .ok (.iload_n 2, 1) := by decide +kernel
theorem dX10_sound_11 : decode cX10_sound 11 = .ok (.ifCond .lt 18, 3) := by decide +kernel
theorem dX10_sound_14 : decode cX10_sound 14 = .ok (.iload_n 2, 1) := by decide +kernel
theorem dX10_sound_15 : decode cX10_sound 15 = .ok (.bipush 25, 2) := by decide +kernel
theorem dX10_sound_17 : decode cX10_sound 17 = .ok (.if_icmp .gt 12, 3) := by decide +kernel
theorem dX10_sound_20 : decode cX10_sound 20 = .ok (.iload_n 1, 1) := by decide +kernel
theorem dX10_sound_21 : decode cX10_sound 21 = .ok (.iload_n 2, 1) := by decide +kernel
theorem dX10_sound_22 : decode cX10_sound 22 = .ok (.if_icmp .ne 9, 3) := by decide +kernel
theorem dX10_sound_25 : decode cX10_sound 25 = .ok (.iload_n 3, 1) := by decide +kernel
theorem dX10_sound_26 : decode cX10_sound 26 = .ok (.ifCond .ne 5, 3) := by decide +kernel
theorem dX10_sound_29 : decode cX10_sound 29 = .ok (.iconst 0, 1) := by decide +kernel
theorem dX10_sound_30 : decode cX10_sound 30 = .ok (.ireturn, 1) := by decide +kernel
theorem dX10_sound_31 : decode cX10_sound 31 = .ok (.aload_n 0, 1) := by decide +kernel
theorem dX10_sound_32 : decode cX10_sound 32 = .ok (.getfield 44, 3) := by decide +kernel
theorem dX10_sound_35 : decode cX10_sound 35 = .ok (.bipush 26, 2) := by decide +kernel
theorem dX10_sound_37 : decode cX10_sound 37 = .ok (.iload_n 1, 1) := by decide +kernel
theorem dX10_sound_38 : decode cX10_sound 38 = .ok (.imul, 1) := by decide +kernel
theorem dX10_sound_39 : decode cX10_sound 39 = .ok (.iload_n 2, 1) := by decide +kernel
theorem dX10_sound_40 : decode cX10_sound 40 = .ok (.iadd, 1) := by decide +kernel
theorem dX10_sound_41 : decode cX10_sound 41 = .ok (.iload_n 3, 1) := by decide +kernel
theorem dX10_sound_42 : decode cX10_sound 42 = .ok (.bastore, 1) := by decide +kernel
theorem dX10_sound_43 : decode cX10_sound 43 = .ok (.aload_n 0, 1) := by decide +kernel
theorem dX10_sound_44 : decode cX10_sound 44 = .ok (.getfield 44, 3) := by decide +kernel
theorem dX10_sound_47 : decode cX10_sound 47 = .ok (.bipush 26, 2) := by decide +kernel
theorem dX10_sound_49 : decode cX10_sound 49 = .ok (.iload_n 2, 1) := by decide +kernel
theorem dX10_sound_50 : decode cX10_sound 50 = .ok (.imul, 1) := by decide +kernel
theorem dX10_sound_51 : decode cX10_sound 51 = .ok (.iload_n 1, 1) := by decide +kernel
theorem dX10_sound_52 : decode cX10_sound 52 = .ok (.iadd, 1) := by decide +kernel
theorem dX10_sound_53 : decode cX10_sound 53 = .ok (.iload_n 3, 1) := by decide +kernel
theorem dX10_sound_54 : decode cX10_sound 54 = .ok (.bastore, 1) := by decide +kernel
theorem dX10_sound_55 : decode cX10_sound 55 = .ok (.aload_n 0, 1) := by decide +kernel
theorem dX10_sound_56 : decode cX10_sound 56 = .ok (.iconst 0, 1) := by decide +kernel
theorem dX10_sound_57 : decode cX10_sound 57 = .ok (.putfield 120, 3) := by decide +kernel
theorem dX10_sound_60 : decode cX10_sound 60 = .ok (.iconst 1, 1) := by decide +kernel
theorem dX10_sound_61 : decode cX10_sound 61 = .ok (.ireturn, 1) := by decide +kernel
theorem dX10_budget_0 : decode cX10_budget 0 = .ok (.iload_n 1, 1) := by decide +kernel
theorem dX10_budget_1 : decode cX10_budget 1 = .ok (.ifCond .lt 20, 3) := by decide +kernel
theorem dX10_budget_4 : decode cX10_budget 4 = .ok (.iload_n 1, 1) := by decide +kernel
theorem dX10_budget_5 : decode cX10_budget 5 = .ok (.sipush 300, 3) := by decide +kernel
theorem dX10_budget_8 : decode cX10_budget 8 = .ok (.if_icmp .gt 13, 3) := by decide +kernel
theorem dX10_budget_11 : decode cX10_budget 11 = .ok (.iload_n 2, 1) := by decide +kernel
theorem dX10_budget_12 : decode cX10_budget 12 = .ok (.ifCond .lt 9, 3) := by decide +kernel
theorem dX10_budget_15 : decode cX10_budget 15 = .ok (.iload_n 2, 1) := by decide +kernel
theorem dX10_budget_16 : decode cX10_budget 16 = .ok (.bipush 20, 2) := by decide +kernel
theorem dX10_budget_18 : decode cX10_budget 18 = .ok (.if_icmp .le 5, 3) := by decide +kernel
theorem dX10_budget_21 : decode cX10_budget 21 = .ok (.iconst 0, 1) := by decide +kernel
theorem dX10_budget_22 : decode cX10_budget 22 = .ok (.ireturn, 1) := by decide +kernel
theorem dX10_budget_23 : decode cX10_budget 23 = .ok (.aload_n 0, 1) := by decide +kernel
theorem dX10_budget_24 : decode cX10_budget 24 = .ok (.iload_n 1, 1) := by decide +kernel
theorem dX10_budget_25 : decode cX10_budget 25 = .ok (.putfield 147, 3) := by decide +kernel
theorem dX10_budget_28 : decode cX10_budget 28 = .ok (.aload_n 0, 1) := by decide +kernel
theorem dX10_budget_29 : decode cX10_budget 29 = .ok (.iload_n 2, 1) := by decide +kernel
theorem dX10_budget_30 : decode cX10_budget 30 = .ok (.putfield 150, 3) := by decide +kernel
theorem dX10_budget_33 : decode cX10_budget 33 = .ok (.aload_n 0, 1) := by decide +kernel
theorem dX10_budget_34 : decode cX10_budget 34 = .ok (.iconst 0, 1) := by decide +kernel
theorem dX10_budget_35 : decode cX10_budget 35 = .ok (.putfield 120, 3) := by decide +kernel
theorem dX10_budget_38 : decode cX10_budget 38 = .ok (.iconst 1, 1) := by decide +kernel
theorem dX10_budget_39 : decode cX10_budget 39 = .ok (.ireturn, 1) := by decide +kernel
theorem dX10_isRole_0 : decode cX10_isRole 0 = .ok (.iload_n 1, 1) := by decide +kernel
theorem dX10_isRole_1 : decode cX10_isRole 1 = .ok (.ifCond .lt 15, 3) := by decide +kernel
theorem dX10_isRole_4 : decode cX10_isRole 4 = .ok (.iload_n 1, 1) := by decide +kernel
theorem dX10_isRole_5 : decode cX10_isRole 5 = .ok (.aload_n 0, 1) := by decide +kernel
theorem dX10_isRole_6 : decode cX10_isRole 6 = .ok (.getfield 117, 3) := by decide +kernel
theorem dX10_isRole_9 : decode cX10_isRole 9 = .ok (.if_icmp .ge 7, 3) := by decide +kernel
theorem dX10_isRole_12 : decode cX10_isRole 12 = .ok (.iconst 1, 1) := by decide +kernel
theorem dX10_isRole_13 : decode cX10_isRole 13 = .ok (.goto 4, 3) := by decide +kernel
theorem dX10_isRole_16 : decode cX10_isRole 16 = .ok (.iconst 0, 1) := by decide +kernel
theorem dX10_isRole_17 : decode cX10_isRole 17 = .ok (.ireturn, 1) := by decide +kernel
theorem dX10_role_0 : decode cX10_role 0 = .ok (.aload_n 0, 1) := by decide +kernel
theorem dX10_role_1 : decode cX10_role 1 = .ok (.iload_n 1, 1) := by decide +kernel
theorem dX10_role_2 : decode cX10_role 2 = .ok (.invokevirtual 153, 3) := by decide +kernel
theorem dX10_role_5 : decode cX10_role 5 = .ok (.ifCond .ne 5, 3) := by decide +kernel
theorem dX10_role_8 : decode cX10_role 8 = .ok (.iconst (-1), 1) := by decide +kernel
theorem dX10_role_9 : decode cX10_role 9 = .ok (.ireturn, 1) := by decide +kernel
theorem dX10_role_10 : decode cX10_role 10 = .ok (.iload_n 2, 1) := by decide +kernel
theorem dX10_role_11 : decode cX10_role 11 = .ok (.tableswitch 84 0 5 #[37, 44, 56, 63, 70, 77], 37) := by decide +kernel
theorem dX10_role_48 : decode cX10_role 48 = .ok (.aload_n 0, 1) := by decide +kernel
theorem dX10_role_49 : decode cX10_role 49 = .ok (.getfield 22, 3) := by decide +kernel
theorem dX10_role_52 : decode cX10_role 52 = .ok (.iload_n 1, 1) := by decide +kernel
theorem dX10_role_53 : decode cX10_role 53 = .ok (.iaload, 1) := by decide +kernel
theorem dX10_role_54 : decode cX10_role 54 = .ok (.ireturn, 1) := by decide +kernel
theorem dX10_role_55 : decode cX10_role 55 = .ok (.aload_n 0, 1) := by decide +kernel
theorem dX10_role_56 : decode cX10_role 56 = .ok (.getfield 7, 3) := by decide +kernel
theorem dX10_role_59 : decode cX10_role 59 = .ok (.aload_n 0, 1) := by decide +kernel
theorem dX10_role_60 : decode cX10_role 60 = .ok (.getfield 22, 3) := by decide +kernel
theorem dX10_role_63 : decode cX10_role 63 = .ok (.iload_n 1, 1) := by decide +kernel
theorem dX10_role_64 : decode cX10_role 64 = .ok (.iaload, 1) := by decide +kernel
theorem dX10_role_65 : decode cX10_role 65 = .ok (.iaload, 1) := by decide +kernel
theorem dX10_role_66 : decode cX10_role 66 = .ok (.ireturn, 1) := by decide +kernel
theorem dX10_role_67 : decode cX10_role 67 = .ok (.aload_n 0, 1) := by decide +kernel
theorem dX10_role_68 : decode cX10_role 68 = .ok (.getfield 25, 3) := by decide +kernel
theorem dX10_role_71 : decode cX10_role 71 = .ok (.iload_n 1, 1) := by decide +kernel
theorem dX10_role_72 : decode cX10_role 72 = .ok (.iaload, 1) := by decide +kernel
theorem dX10_role_73 : decode cX10_role 73 = .ok (.ireturn, 1) := by decide +kernel
theorem dX10_role_74 : decode cX10_role 74 = .ok (.aload_n 0, 1) := by decide +kernel
theorem dX10_role_75 : decode cX10_role 75 = .ok (.getfield 28, 3) := by decide +kernel
theorem dX10_role_78 : decode cX10_role 78 = .ok (.iload_n 1, 1) := by decide +kernel
theorem dX10_role_79 : decode cX10_role 79 = .ok (.iaload, 1) := by decide +kernel
theorem dX10_role_80 : decode cX10_role 80 = .ok (.ireturn, 1) := by decide +kernel
theorem dX10_role_81 : decode cX10_role 81 = .ok (.aload_n 0, 1) := by decide +kernel
theorem dX10_role_82 : decode cX10_role 82 = .ok (.getfield 31, 3) := by decide +kernel
theorem dX10_role_85 : decode cX10_role 85 = .ok (.iload_n 1, 1) := by decide +kernel
theorem dX10_role_86 : decode cX10_role 86 = .ok (.iaload, 1) := by decide +kernel
theorem dX10_role_87 : decode cX10_role 87 = .ok (.ireturn, 1) := by decide +kernel
theorem dX10_role_88 : decode cX10_role 88 = .ok (.aload_n 0, 1) := by decide +kernel
theorem dX10_role_89 : decode cX10_role 89 = .ok (.getfield 34, 3) := by decide +kernel
theorem dX10_role_92 : decode cX10_role 92 = .ok (.iload_n 1, 1) := by decide +kernel
theorem dX10_role_93 : decode cX10_role 93 = .ok (.iaload, 1) := by decide +kernel
theorem dX10_role_94 : decode cX10_role 94 = .ok (.ireturn, 1) := by decide +kernel
theorem dX10_role_95 : decode cX10_role 95 = .ok (.iconst (-1), 1) := by decide +kernel
theorem dX10_role_96 : decode cX10_role 96 = .ok (.ireturn, 1) := by decide +kernel
theorem dX10_earliest_0 : decode cX10_earliest 0 = .ok (.aload_n 0, 1) := by decide +kernel
theorem dX10_earliest_1 : decode cX10_earliest 1 = .ok (.getfield 7, 3) := by decide +kernel
theorem dX10_earliest_4 : decode cX10_earliest 4 = .ok (.aload_n 0, 1) := by decide +kernel
theorem dX10_earliest_5 : decode cX10_earliest 5 = .ok (.getfield 22, 3) := by decide +kernel
theorem dX10_earliest_8 : decode cX10_earliest 8 = .ok (.iload_n 1, 1) := by decide +kernel
theorem dX10_earliest_9 : decode cX10_earliest 9 = .ok (.iaload, 1) := by decide +kernel
theorem dX10_earliest_10 : decode cX10_earliest 10 = .ok (.iaload, 1) := by decide +kernel
theorem dX10_earliest_11 : decode cX10_earliest 11 = .ok (.istore_n 2, 1) := by decide +kernel
theorem dX10_earliest_12 : decode cX10_earliest 12 = .ok (.aload_n 0, 1) := by decide +kernel
theorem dX10_earliest_13 : decode cX10_earliest 13 = .ok (.getfield 31, 3) := by decide +kernel
theorem dX10_earliest_16 : decode cX10_earliest 16 = .ok (.iload_n 1, 1) := by decide +kernel
theorem dX10_earliest_17 : decode cX10_earliest 17 = .ok (.iaload, 1) := by decide +kernel
theorem dX10_earliest_18 : decode cX10_earliest 18 = .ok (.tableswitch 121 0 6 #[42, 44, 51, 121, 121, 58, 87], 42) := by decide +kernel
theorem dX10_earliest_60 : decode cX10_earliest 60 = .ok (.iload_n 2, 1) := by decide +kernel
theorem dX10_earliest_61 : decode cX10_earliest 61 = .ok (.ireturn, 1) := by decide +kernel
theorem dX10_earliest_62 : decode cX10_earliest 62 = .ok (.iload_n 2, 1) := by decide +kernel
theorem dX10_earliest_63 : decode cX10_earliest 63 = .ok (.aload_n 0, 1) := by decide +kernel
theorem dX10_earliest_64 : decode cX10_earliest 64 = .ok (.getfield 52, 3) := by decide +kernel
theorem dX10_earliest_67 : decode cX10_earliest 67 = .ok (.isub, 1) := by decide +kernel
theorem dX10_earliest_68 : decode cX10_earliest 68 = .ok (.ireturn, 1) := by decide +kernel
theorem dX10_earliest_69 : decode cX10_earliest 69 = .ok (.iload_n 2, 1) := by decide +kernel
theorem dX10_earliest_70 : decode cX10_earliest 70 = .ok (.aload_n 0, 1) := by decide +kernel
theorem dX10_earliest_71 : decode cX10_earliest 71 = .ok (.getfield 55, 3) := by decide +kernel
theorem dX10_earliest_74 : decode cX10_earliest 74 = .ok (.isub, 1) := by decide +kernel
theorem dX10_earliest_75 : decode cX10_earliest 75 = .ok (.ireturn, 1) := by decide +kernel
theorem dX10_earliest_76 : decode cX10_earliest 76 = .ok (.aload_n 0, 1) := by decide +kernel
theorem dX10_earliest_77 : decode cX10_earliest 77 = .ok (.getfield 28, 3) := by decide +kernel
theorem dX10_earliest_80 : decode cX10_earliest 80 = .ok (.iload_n 1, 1) := by decide +kernel
theorem dX10_earliest_81 : decode cX10_earliest 81 = .ok (.iaload, 1) := by decide +kernel
theorem dX10_earliest_82 : decode cX10_earliest 82 = .ok (.ifCond .ge 12, 3) := by decide +kernel
theorem dX10_earliest_85 : decode cX10_earliest 85 = .ok (.iload_n 2, 1) := by decide +kernel
theorem dX10_earliest_86 : decode cX10_earliest 86 = .ok (.aload_n 0, 1) := by decide +kernel
theorem dX10_earliest_87 : decode cX10_earliest 87 = .ok (.getfield 58, 3) := by decide +kernel
theorem dX10_earliest_90 : decode cX10_earliest 90 = .ok (.isub, 1) := by decide +kernel
theorem dX10_earliest_91 : decode cX10_earliest 91 = .ok (.goto 13, 3) := by decide +kernel
theorem dX10_earliest_94 : decode cX10_earliest 94 = .ok (.iload_n 2, 1) := by decide +kernel
theorem dX10_earliest_95 : decode cX10_earliest 95 = .ok (.aload_n 0, 1) := by decide +kernel
theorem dX10_earliest_96 : decode cX10_earliest 96 = .ok (.getfield 28, 3) := by decide +kernel
theorem dX10_earliest_99 : decode cX10_earliest 99 = .ok (.iload_n 1, 1) := by decide +kernel
theorem dX10_earliest_100 : decode cX10_earliest 100 = .ok (.iaload, 1) := by decide +kernel
theorem dX10_earliest_101 : decode cX10_earliest 101 = .ok (.isub, 1) := by decide +kernel
theorem dX10_earliest_102 : decode cX10_earliest 102 = .ok (.iconst 1, 1) := by decide +kernel
theorem dX10_earliest_103 : decode cX10_earliest 103 = .ok (.isub, 1) := by decide +kernel
theorem dX10_earliest_104 : decode cX10_earliest 104 = .ok (.ireturn, 1) := by decide +kernel
theorem dX10_earliest_105 : decode cX10_earliest 105 = .ok (.aload_n 0, 1) := by decide +kernel
theorem dX10_earliest_106 : decode cX10_earliest 106 = .ok (.getfield 28, 3) := by decide +kernel
theorem dX10_earliest_109 : decode cX10_earliest 109 = .ok (.iload_n 1, 1) := by decide +kernel
theorem dX10_earliest_110 : decode cX10_earliest 110 = .ok (.iaload, 1) := by decide +kernel
theorem dX10_earliest_111 : decode cX10_earliest 111 = .ok (.ifCond .ge 12, 3) := by decide +kernel
theorem dX10_earliest_114 : decode cX10_earliest 114 = .ok (.iload_n 2, 1) := by decide +kernel
theorem dX10_earliest_115 : decode cX10_earliest 115 = .ok (.aload_n 0, 1) := by decide +kernel
theorem dX10_earliest_116 : decode cX10_earliest 116 = .ok (.getfield 58, 3) := by decide +kernel
theorem dX10_earliest_119 : decode cX10_earliest 119 = .ok (.isub, 1) := by decide +kernel
theorem dX10_earliest_120 : decode cX10_earliest 120 = .ok (.goto 18, 3) := by decide +kernel
theorem dX10_earliest_123 : decode cX10_earliest 123 = .ok (.iload_n 2, 1) := by decide +kernel
theorem dX10_earliest_124 : decode cX10_earliest 124 = .ok (.aload_n 0, 1) := by decide +kernel
theorem dX10_earliest_125 : decode cX10_earliest 125 = .ok (.getfield 28, 3) := by decide +kernel
theorem dX10_earliest_128 : decode cX10_earliest 128 = .ok (.iload_n 1, 1) := by decide +kernel
theorem dX10_earliest_129 : decode cX10_earliest 129 = .ok (.iaload, 1) := by decide +kernel
theorem dX10_earliest_130 : decode cX10_earliest 130 = .ok (.isub, 1) := by decide +kernel
theorem dX10_earliest_131 : decode cX10_earliest 131 = .ok (.iconst 1, 1) := by decide +kernel
theorem dX10_earliest_132 : decode cX10_earliest 132 = .ok (.isub, 1) := by decide +kernel
theorem dX10_earliest_133 : decode cX10_earliest 133 = .ok (.aload_n 0, 1) := by decide +kernel
theorem dX10_earliest_134 : decode cX10_earliest 134 = .ok (.getfield 61, 3) := by decide +kernel
theorem dX10_earliest_137 : decode cX10_earliest 137 = .ok (.isub, 1) := by decide +kernel
theorem dX10_earliest_138 : decode cX10_earliest 138 = .ok (.ireturn, 1) := by decide +kernel
theorem dX10_earliest_139 : decode cX10_earliest 139 = .ok (.iload_n 2, 1) := by decide +kernel
theorem dX10_earliest_140 : decode cX10_earliest 140 = .ok (.aload_n 0, 1) := by decide +kernel
theorem dX10_earliest_141 : decode cX10_earliest 141 = .ok (.getfield 58, 3) := by decide +kernel
theorem dX10_earliest_144 : decode cX10_earliest 144 = .ok (.isub, 1) := by decide +kernel
theorem dX10_earliest_145 : decode cX10_earliest 145 = .ok (.ireturn, 1) := by decide +kernel
theorem dX10_latest_0 : decode cX10_latest 0 = .ok (.aload_n 0, 1) := by decide +kernel
theorem dX10_latest_1 : decode cX10_latest 1 = .ok (.getfield 7, 3) := by decide +kernel
theorem dX10_latest_4 : decode cX10_latest 4 = .ok (.aload_n 0, 1) := by decide +kernel
theorem dX10_latest_5 : decode cX10_latest 5 = .ok (.getfield 22, 3) := by decide +kernel
theorem dX10_latest_8 : decode cX10_latest 8 = .ok (.iload_n 1, 1) := by decide +kernel
theorem dX10_latest_9 : decode cX10_latest 9 = .ok (.iaload, 1) := by decide +kernel
theorem dX10_latest_10 : decode cX10_latest 10 = .ok (.iaload, 1) := by decide +kernel
theorem dX10_latest_11 : decode cX10_latest 11 = .ok (.istore_n 2, 1) := by decide +kernel
theorem dX10_latest_12 : decode cX10_latest 12 = .ok (.aload_n 0, 1) := by decide +kernel
theorem dX10_latest_13 : decode cX10_latest 13 = .ok (.getfield 31, 3) := by decide +kernel
theorem dX10_latest_16 : decode cX10_latest 16 = .ok (.iload_n 1, 1) := by decide +kernel
theorem dX10_latest_17 : decode cX10_latest 17 = .ok (.iaload, 1) := by decide +kernel
theorem dX10_latest_18 : decode cX10_latest 18 = .ok (.lookupswitch 85 #[(0, 34), (5, 36), (6, 58)], 34) := by decide +kernel
theorem dX10_latest_52 : decode cX10_latest 52 = .ok (.iload_n 2, 1) := by decide +kernel
theorem dX10_latest_53 : decode cX10_latest 53 = .ok (.ireturn, 1) := by decide +kernel
theorem dX10_latest_54 : decode cX10_latest 54 = .ok (.aload_n 0, 1) := by decide +kernel
theorem dX10_latest_55 : decode cX10_latest 55 = .ok (.getfield 28, 3) := by decide +kernel
theorem dX10_latest_58 : decode cX10_latest 58 = .ok (.iload_n 1, 1) := by decide +kernel
theorem dX10_latest_59 : decode cX10_latest 59 = .ok (.iaload, 1) := by decide +kernel
theorem dX10_latest_60 : decode cX10_latest 60 = .ok (.ifCond .ge 7, 3) := by decide +kernel
theorem dX10_latest_63 : decode cX10_latest 63 = .ok (.iload_n 2, 1) := by decide +kernel
theorem dX10_latest_64 : decode cX10_latest 64 = .ok (.goto 11, 3) := by decide +kernel
theorem dX10_latest_67 : decode cX10_latest 67 = .ok (.iload_n 2, 1) := by decide +kernel
theorem dX10_latest_68 : decode cX10_latest 68 = .ok (.aload_n 0, 1) := by decide +kernel
theorem dX10_latest_69 : decode cX10_latest 69 = .ok (.getfield 28, 3) := by decide +kernel
theorem dX10_latest_72 : decode cX10_latest 72 = .ok (.iload_n 1, 1) := by decide +kernel
theorem dX10_latest_73 : decode cX10_latest 73 = .ok (.iaload, 1) := by decide +kernel
theorem dX10_latest_74 : decode cX10_latest 74 = .ok (.isub, 1) := by decide +kernel
theorem dX10_latest_75 : decode cX10_latest 75 = .ok (.ireturn, 1) := by decide +kernel
theorem dX10_latest_76 : decode cX10_latest 76 = .ok (.aload_n 0, 1) := by decide +kernel
theorem dX10_latest_77 : decode cX10_latest 77 = .ok (.getfield 28, 3) := by decide +kernel
theorem dX10_latest_80 : decode cX10_latest 80 = .ok (.iload_n 1, 1) := by decide +kernel
theorem dX10_latest_81 : decode cX10_latest 81 = .ok (.iaload, 1) := by decide +kernel
theorem dX10_latest_82 : decode cX10_latest 82 = .ok (.ifCond .ge 7, 3) := by decide +kernel
theorem dX10_latest_85 : decode cX10_latest 85 = .ok (.iload_n 2, 1) := by decide +kernel
theorem dX10_latest_86 : decode cX10_latest 86 = .ok (.goto 16, 3) := by decide +kernel
theorem dX10_latest_89 : decode cX10_latest 89 = .ok (.iload_n 2, 1) := by decide +kernel
theorem dX10_latest_90 : decode cX10_latest 90 = .ok (.aload_n 0, 1) := by decide +kernel
theorem dX10_latest_91 : decode cX10_latest 91 = .ok (.getfield 28, 3) := by decide +kernel
theorem dX10_latest_94 : decode cX10_latest 94 = .ok (.iload_n 1, 1) := by decide +kernel
theorem dX10_latest_95 : decode cX10_latest 95 = .ok (.iaload, 1) := by decide +kernel
theorem dX10_latest_96 : decode cX10_latest 96 = .ok (.isub, 1) := by decide +kernel
theorem dX10_latest_97 : decode cX10_latest 97 = .ok (.aload_n 0, 1) := by decide +kernel
theorem dX10_latest_98 : decode cX10_latest 98 = .ok (.getfield 61, 3) := by decide +kernel
theorem dX10_latest_101 : decode cX10_latest 101 = .ok (.iadd, 1) := by decide +kernel
theorem dX10_latest_102 : decode cX10_latest 102 = .ok (.ireturn, 1) := by decide +kernel
theorem dX10_latest_103 : decode cX10_latest 103 = .ok (.iload_n 2, 1) := by decide +kernel
theorem dX10_latest_104 : decode cX10_latest 104 = .ok (.aload_n 0, 1) := by decide +kernel
theorem dX10_latest_105 : decode cX10_latest 105 = .ok (.getfield 48, 3) := by decide +kernel
theorem dX10_latest_108 : decode cX10_latest 108 = .ok (.isub, 1) := by decide +kernel
theorem dX10_latest_109 : decode cX10_latest 109 = .ok (.ireturn, 1) := by decide +kernel
theorem dX10_outlives_0 : decode cX10_outlives 0 = .ok (.aload_n 0, 1) := by decide +kernel
theorem dX10_outlives_1 : decode cX10_outlives 1 = .ok (.getfield 31, 3) := by decide +kernel
theorem dX10_outlives_4 : decode cX10_outlives 4 = .ok (.iload_n 1, 1) := by decide +kernel
theorem dX10_outlives_5 : decode cX10_outlives 5 = .ok (.iaload, 1) := by decide +kernel
theorem dX10_outlives_6 : decode cX10_outlives 6 = .ok (.iconst 5, 1) := by decide +kernel
theorem dX10_outlives_7 : decode cX10_outlives 7 = .ok (.if_icmp .eq 5, 3) := by decide +kernel
theorem dX10_outlives_10 : decode cX10_outlives 10 = .ok (.iconst 1, 1) := by decide +kernel
theorem dX10_outlives_11 : decode cX10_outlives 11 = .ok (.ireturn, 1) := by decide +kernel
theorem dX10_outlives_12 : decode cX10_outlives 12 = .ok (.aload_n 0, 1) := by decide +kernel
theorem dX10_outlives_13 : decode cX10_outlives 13 = .ok (.getfield 7, 3) := by decide +kernel
theorem dX10_outlives_16 : decode cX10_outlives 16 = .ok (.aload_n 0, 1) := by decide +kernel
theorem dX10_outlives_17 : decode cX10_outlives 17 = .ok (.getfield 22, 3) := by decide +kernel
theorem dX10_outlives_20 : decode cX10_outlives 20 = .ok (.iload_n 1, 1) := by decide +kernel
theorem dX10_outlives_21 : decode cX10_outlives 21 = .ok (.iaload, 1) := by decide +kernel
theorem dX10_outlives_22 : decode cX10_outlives 22 = .ok (.iaload, 1) := by decide +kernel
theorem dX10_outlives_23 : decode cX10_outlives 23 = .ok (.istore_n 3, 1) := by decide +kernel
theorem dX10_outlives_24 : decode cX10_outlives 24 = .ok (.aload_n 0, 1) := by decide +kernel
theorem dX10_outlives_25 : decode cX10_outlives 25 = .ok (.getfield 7, 3) := by decide +kernel
theorem dX10_outlives_28 : decode cX10_outlives 28 = .ok (.aload_n 0, 1) := by decide +kernel
theorem dX10_outlives_29 : decode cX10_outlives 29 = .ok (.getfield 22, 3) := by decide +kernel
theorem dX10_outlives_32 : decode cX10_outlives 32 = .ok (.iload_n 2, 1) := by decide +kernel
theorem dX10_outlives_33 : decode cX10_outlives 33 = .ok (.iaload, 1) := by decide +kernel
theorem dX10_outlives_34 : decode cX10_outlives 34 = .ok (.iaload, 1) := by decide +kernel
theorem dX10_outlives_35 : decode cX10_outlives 35 = .ok (.aload_n 0, 1) := by decide +kernel
theorem dX10_outlives_36 : decode cX10_outlives 36 = .ok (.getfield 31, 3) := by decide +kernel
theorem dX10_outlives_39 : decode cX10_outlives 39 = .ok (.iload_n 2, 1) := by decide +kernel
theorem dX10_outlives_40 : decode cX10_outlives 40 = .ok (.iaload, 1) := by decide +kernel
theorem dX10_outlives_41 : decode cX10_outlives 41 = .ok (.iconst 2, 1) := by decide +kernel
theorem dX10_outlives_42 : decode cX10_outlives 42 = .ok (.if_icmp .ne 9, 3) := by decide +kernel
theorem dX10_outlives_45 : decode cX10_outlives 45 = .ok (.iload_n 3, 1) := by decide +kernel
theorem dX10_outlives_46 : decode cX10_outlives 46 = .ok (.iconst 1, 1) := by decide +kernel
theorem dX10_outlives_47 : decode cX10_outlives 47 = .ok (.iadd, 1) := by decide +kernel
theorem dX10_outlives_48 : decode cX10_outlives 48 = .ok (.goto 4, 3) := by decide +kernel
theorem dX10_outlives_51 : decode cX10_outlives 51 = .ok (.iload_n 3, 1) := by decide +kernel
theorem dX10_outlives_52 : decode cX10_outlives 52 = .ok (.if_icmp .gt 7, 3) := by decide +kernel
theorem dX10_outlives_55 : decode cX10_outlives 55 = .ok (.iconst 1, 1) := by decide +kernel
theorem dX10_outlives_56 : decode cX10_outlives 56 = .ok (.goto 4, 3) := by decide +kernel
theorem dX10_outlives_59 : decode cX10_outlives 59 = .ok (.iconst 0, 1) := by decide +kernel
theorem dX10_outlives_60 : decode cX10_outlives 60 = .ok (.ireturn, 1) := by decide +kernel
theorem dX10_areTwo_0 : decode cX10_areTwo 0 = .ok (.aload_n 0, 1) := by decide +kernel
theorem dX10_areTwo_1 : decode cX10_areTwo 1 = .ok (.getfield 31, 3) := by decide +kernel
theorem dX10_areTwo_4 : decode cX10_areTwo 4 = .ok (.iload_n 1, 1) := by decide +kernel
theorem dX10_areTwo_5 : decode cX10_areTwo 5 = .ok (.iaload, 1) := by decide +kernel
theorem dX10_areTwo_6 : decode cX10_areTwo 6 = .ok (.iload_n 3, 1) := by decide +kernel
theorem dX10_areTwo_7 : decode cX10_areTwo 7 = .ok (.if_icmp .ne 35, 3) := by decide +kernel
theorem dX10_areTwo_10 : decode cX10_areTwo 10 = .ok (.aload_n 0, 1) := by decide +kernel
theorem dX10_areTwo_11 : decode cX10_areTwo 11 = .ok (.getfield 31, 3) := by decide +kernel
theorem dX10_areTwo_14 : decode cX10_areTwo 14 = .ok (.iload_n 2, 1) := by decide +kernel
theorem dX10_areTwo_15 : decode cX10_areTwo 15 = .ok (.iaload, 1) := by decide +kernel
theorem dX10_areTwo_16 : decode cX10_areTwo 16 = .ok (.iload_n 3, 1) := by decide +kernel
theorem dX10_areTwo_17 : decode cX10_areTwo 17 = .ok (.if_icmp .ne 25, 3) := by decide +kernel
theorem dX10_areTwo_20 : decode cX10_areTwo 20 = .ok (.aload_n 0, 1) := by decide +kernel
theorem dX10_areTwo_21 : decode cX10_areTwo 21 = .ok (.getfield 34, 3) := by decide +kernel
theorem dX10_areTwo_24 : decode cX10_areTwo 24 = .ok (.iload_n 1, 1) := by decide +kernel
theorem dX10_areTwo_25 : decode cX10_areTwo 25 = .ok (.iaload, 1) := by decide +kernel
theorem dX10_areTwo_26 : decode cX10_areTwo 26 = .ok (.ifCond .ge 16, 3) := by decide +kernel
theorem dX10_areTwo_29 : decode cX10_areTwo 29 = .ok (.aload_n 0, 1) := by decide +kernel
theorem dX10_areTwo_30 : decode cX10_areTwo 30 = .ok (.getfield 34, 3) := by decide +kernel
theorem dX10_areTwo_33 : decode cX10_areTwo 33 = .ok (.iload_n 2, 1) := by decide +kernel
theorem dX10_areTwo_34 : decode cX10_areTwo 34 = .ok (.iaload, 1) := by decide +kernel
theorem dX10_areTwo_35 : decode cX10_areTwo 35 = .ok (.ifCond .ge 7, 3) := by decide +kernel
theorem dX10_areTwo_38 : decode cX10_areTwo 38 = .ok (.iconst 1, 1) := by decide +kernel
theorem dX10_areTwo_39 : decode cX10_areTwo 39 = .ok (.goto 4, 3) := by decide +kernel
theorem dX10_areTwo_42 : decode cX10_areTwo 42 = .ok (.iconst 0, 1) := by decide +kernel
theorem dX10_areTwo_43 : decode cX10_areTwo 43 = .ok (.ireturn, 1) := by decide +kernel
theorem dX10_canBeOne_0 : decode cX10_canBeOne 0 = .ok (.aload_n 0, 1) := by decide +kernel
theorem dX10_canBeOne_1 : decode cX10_canBeOne 1 = .ok (.getfield 22, 3) := by decide +kernel
theorem dX10_canBeOne_4 : decode cX10_canBeOne 4 = .ok (.iload_n 1, 1) := by decide +kernel
theorem dX10_canBeOne_5 : decode cX10_canBeOne 5 = .ok (.iaload, 1) := by decide +kernel
theorem dX10_canBeOne_6 : decode cX10_canBeOne 6 = .ok (.aload_n 0, 1) := by decide +kernel
theorem dX10_canBeOne_7 : decode cX10_canBeOne 7 = .ok (.getfield 22, 3) := by decide +kernel
theorem dX10_canBeOne_10 : decode cX10_canBeOne 10 = .ok (.iload_n 2, 1) := by decide +kernel
theorem dX10_canBeOne_11 : decode cX10_canBeOne 11 = .ok (.iaload, 1) := by decide +kernel
theorem dX10_canBeOne_12 : decode cX10_canBeOne 12 = .ok (.if_icmp .ne 5, 3) := by decide +kernel
theorem dX10_canBeOne_15 : decode cX10_canBeOne 15 = .ok (.iconst 0, 1) := by decide +kernel
theorem dX10_canBeOne_16 : decode cX10_canBeOne 16 = .ok (.ireturn, 1) := by decide +kernel
theorem dX10_canBeOne_17 : decode cX10_canBeOne 17 = .ok (.aload_n 0, 1) := by decide +kernel
theorem dX10_canBeOne_18 : decode cX10_canBeOne 18 = .ok (.getfield 25, 3) := by decide +kernel
theorem dX10_canBeOne_21 : decode cX10_canBeOne 21 = .ok (.iload_n 1, 1) := by decide +kernel
theorem dX10_canBeOne_22 : decode cX10_canBeOne 22 = .ok (.iaload, 1) := by decide +kernel
theorem dX10_canBeOne_23 : decode cX10_canBeOne 23 = .ok (.ifCond .le 29, 3) := by decide +kernel
theorem dX10_canBeOne_26 : decode cX10_canBeOne 26 = .ok (.aload_n 0, 1) := by decide +kernel
theorem dX10_canBeOne_27 : decode cX10_canBeOne 27 = .ok (.getfield 25, 3) := by decide +kernel
theorem dX10_canBeOne_30 : decode cX10_canBeOne 30 = .ok (.iload_n 2, 1) := by decide +kernel
theorem dX10_canBeOne_31 : decode cX10_canBeOne 31 = .ok (.iaload, 1) := by decide +kernel
theorem dX10_canBeOne_32 : decode cX10_canBeOne 32 = .ok (.ifCond .le 20, 3) := by decide +kernel
theorem dX10_canBeOne_35 : decode cX10_canBeOne 35 = .ok (.aload_n 0, 1) := by decide +kernel
theorem dX10_canBeOne_36 : decode cX10_canBeOne 36 = .ok (.getfield 25, 3) := by decide +kernel
theorem dX10_canBeOne_39 : decode cX10_canBeOne 39 = .ok (.iload_n 1, 1) := by decide +kernel
theorem dX10_canBeOne_40 : decode cX10_canBeOne 40 = .ok (.iaload, 1) := by decide +kernel
theorem dX10_canBeOne_41 : decode cX10_canBeOne 41 = .ok (.aload_n 0, 1) := by decide +kernel
theorem dX10_canBeOne_42 : decode cX10_canBeOne 42 = .ok (.getfield 25, 3) := by decide +kernel
theorem dX10_canBeOne_45 : decode cX10_canBeOne 45 = .ok (.iload_n 2, 1) := by decide +kernel
theorem dX10_canBeOne_46 : decode cX10_canBeOne 46 = .ok (.iaload, 1) := by decide +kernel
theorem dX10_canBeOne_47 : decode cX10_canBeOne 47 = .ok (.if_icmp .eq 5, 3) := by decide +kernel
theorem dX10_canBeOne_50 : decode cX10_canBeOne 50 = .ok (.iconst 0, 1) := by decide +kernel
theorem dX10_canBeOne_51 : decode cX10_canBeOne 51 = .ok (.ireturn, 1) := by decide +kernel
theorem dX10_canBeOne_52 : decode cX10_canBeOne 52 = .ok (.aload_n 0, 1) := by decide +kernel
theorem dX10_canBeOne_53 : decode cX10_canBeOne 53 = .ok (.iload_n 1, 1) := by decide +kernel
theorem dX10_canBeOne_54 : decode cX10_canBeOne 54 = .ok (.iload_n 2, 1) := by decide +kernel
theorem dX10_canBeOne_55 : decode cX10_canBeOne 55 = .ok (.iconst 0, 1) := by decide +kernel
theorem dX10_canBeOne_56 : decode cX10_canBeOne 56 = .ok (.invokevirtual 156, 3) := by decide +kernel
theorem dX10_canBeOne_59 : decode cX10_canBeOne 59 = .ok (.ifCond .ne 35, 3) := by decide +kernel
theorem dX10_canBeOne_62 : decode cX10_canBeOne 62 = .ok (.aload_n 0, 1) := by decide +kernel
theorem dX10_canBeOne_63 : decode cX10_canBeOne 63 = .ok (.iload_n 1, 1) := by decide +kernel
theorem dX10_canBeOne_64 : decode cX10_canBeOne 64 = .ok (.iload_n 2, 1) := by decide +kernel
theorem dX10_canBeOne_65 : decode cX10_canBeOne 65 = .ok (.iconst 5, 1) := by decide +kernel
theorem dX10_canBeOne_66 : decode cX10_canBeOne 66 = .ok (.invokevirtual 156, 3) := by decide +kernel
theorem dX10_canBeOne_69 : decode cX10_canBeOne 69 = .ok (.ifCond .ne 25, 3) := by decide +kernel
theorem dX10_canBeOne_72 : decode cX10_canBeOne 72 = .ok (.aload_n 0, 1) := by decide +kernel
theorem dX10_canBeOne_73 : decode cX10_canBeOne 73 = .ok (.iload_n 1, 1) := by decide +kernel
theorem dX10_canBeOne_74 : decode cX10_canBeOne 74 = .ok (.iload_n 2, 1) := by decide +kernel
theorem dX10_canBeOne_75 : decode cX10_canBeOne 75 = .ok (.invokevirtual 160, 3) := by decide +kernel
theorem dX10_canBeOne_78 : decode cX10_canBeOne 78 = .ok (.ifCond .eq 16, 3) := by decide +kernel
theorem dX10_canBeOne_81 : decode cX10_canBeOne 81 = .ok (.aload_n 0, 1) := by decide +kernel
theorem dX10_canBeOne_82 : decode cX10_canBeOne 82 = .ok (.iload_n 2, 1) := by decide +kernel
theorem dX10_canBeOne_83 : decode cX10_canBeOne 83 = .ok (.iload_n 1, 1) := by decide +kernel
theorem dX10_canBeOne_84 : decode cX10_canBeOne 84 = .ok (.invokevirtual 160, 3) := by decide +kernel
theorem dX10_canBeOne_87 : decode cX10_canBeOne 87 = .ok (.ifCond .eq 7, 3) := by decide +kernel
theorem dX10_canBeOne_90 : decode cX10_canBeOne 90 = .ok (.iconst 1, 1) := by decide +kernel
theorem dX10_canBeOne_91 : decode cX10_canBeOne 91 = .ok (.goto 4, 3) := by decide +kernel
theorem dX10_canBeOne_94 : decode cX10_canBeOne 94 = .ok (.iconst 0, 1) := by decide +kernel
theorem dX10_canBeOne_95 : decode cX10_canBeOne 95 = .ok (.ireturn, 1) := by decide +kernel
theorem dX10_can_0 : decode cX10_can 0 = .ok (.aload_n 0, 1) := by decide +kernel
theorem dX10_can_1 : decode cX10_can 1 = .ok (.getfield 70, 3) := by decide +kernel
theorem dX10_can_4 : decode cX10_can 4 = .ok (.iload_n 1, 1) := by decide +kernel
theorem dX10_can_5 : decode cX10_can 5 = .ok (.iaload, 1) := by decide +kernel
theorem dX10_can_6 : decode cX10_can 6 = .ok (.istore_n 3, 1) := by decide +kernel
theorem dX10_can_7 : decode cX10_can 7 = .ok (.aload_n 0, 1) := by decide +kernel
theorem dX10_can_8 : decode cX10_can 8 = .ok (.iload_n 3, 1) := by decide +kernel
theorem dX10_can_9 : decode cX10_can 9 = .ok (.invokevirtual 163, 3) := by decide +kernel
theorem dX10_can_12 : decode cX10_can 12 = .ok (.istore 4, 2) := by decide +kernel
theorem dX10_can_14 : decode cX10_can 14 = .ok (.aload_n 0, 1) := by decide +kernel
theorem dX10_can_15 : decode cX10_can 15 = .ok (.iload_n 3, 1) := by decide +kernel
theorem dX10_can_16 : decode cX10_can 16 = .ok (.invokevirtual 167, 3) := by decide +kernel
theorem dX10_can_19 : decode cX10_can 19 = .ok (.istore 5, 2) := by decide +kernel
theorem dX10_can_21 : decode cX10_can 21 = .ok (.aload_n 0, 1) := by decide +kernel
theorem dX10_can_22 : decode cX10_can 22 = .ok (.getfield 76, 3) := by decide +kernel
theorem dX10_can_25 : decode cX10_can 25 = .ok (.iload_n 1, 1) := by decide +kernel
theorem dX10_can_26 : decode cX10_can 26 = .ok (.iaload, 1) := by decide +kernel
theorem dX10_can_27 : decode cX10_can 27 = .ok (.iload_n 2, 1) := by decide +kernel
theorem dX10_can_28 : decode cX10_can 28 = .ok (.aload_n 0, 1) := by decide +kernel
theorem dX10_can_29 : decode cX10_can 29 = .ok (.getfield 79, 3) := by decide +kernel
theorem dX10_can_32 : decode cX10_can 32 = .ok (.iload_n 1, 1) := by decide +kernel
theorem dX10_can_33 : decode cX10_can 33 = .ok (.iaload, 1) := by decide +kernel
theorem dX10_can_34 : decode cX10_can 34 = .ok (.if_icmp .ne 10, 3) := by decide +kernel
theorem dX10_can_37 : decode cX10_can 37 = .ok (.aload_n 0, 1) := by decide +kernel
theorem dX10_can_38 : decode cX10_can 38 = .ok (.getfield 150, 3) := by decide +kernel
theorem dX10_can_41 : decode cX10_can 41 = .ok (.goto 4, 3) := by decide +kernel
theorem dX10_can_44 : decode cX10_can 44 = .ok (.iconst 0, 1) := by decide +kernel
theorem dX10_can_45 : decode cX10_can 45 = .ok (.iadd, 1) := by decide +kernel
theorem dX10_can_46 : decode cX10_can 46 = .ok (.istore 6, 2) := by decide +kernel
theorem dX10_can_48 : decode cX10_can 48 = .ok (.iconst 0, 1) := by decide +kernel
theorem dX10_can_49 : decode cX10_can 49 = .ok (.istore 7, 2) := by decide +kernel
theorem dX10_can_51 : decode cX10_can 51 = .ok (.iload 7, 2) := by decide +kernel
theorem dX10_can_53 : decode cX10_can 53 = .ok (.iload_n 1, 1) := by decide +kernel
theorem dX10_can_54 : decode cX10_can 54 = .ok (.if_icmp .ge 128, 3) := by decide +kernel
theorem dX10_can_57 : decode cX10_can 57 = .ok (.aload_n 0, 1) := by decide +kernel
theorem dX10_can_58 : decode cX10_can 58 = .ok (.getfield 70, 3) := by decide +kernel
theorem dX10_can_61 : decode cX10_can 61 = .ok (.iload 7, 2) := by decide +kernel
theorem dX10_can_63 : decode cX10_can 63 = .ok (.iaload, 1) := by decide +kernel
theorem dX10_can_64 : decode cX10_can 64 = .ok (.istore 8, 2) := by decide +kernel
theorem dX10_can_66 : decode cX10_can 66 = .ok (.aload_n 0, 1) := by decide +kernel
theorem dX10_can_67 : decode cX10_can 67 = .ok (.getfield 73, 3) := by decide +kernel
theorem dX10_can_70 : decode cX10_can 70 = .ok (.iload 7, 2) := by decide +kernel
theorem dX10_can_72 : decode cX10_can 72 = .ok (.iaload, 1) := by decide +kernel
theorem dX10_can_73 : decode cX10_can 73 = .ok (.iload_n 2, 1) := by decide +kernel
theorem dX10_can_74 : decode cX10_can 74 = .ok (.if_icmp .eq 6, 3) := by decide +kernel
theorem dX10_can_77 : decode cX10_can 77 = .ok (.goto 99, 3) := by decide +kernel
theorem dX10_can_80 : decode cX10_can 80 = .ok (.aload_n 0, 1) := by decide +kernel
theorem dX10_can_81 : decode cX10_can 81 = .ok (.iload_n 3, 1) := by decide +kernel
theorem dX10_can_82 : decode cX10_can 82 = .ok (.iload 8, 2) := by decide +kernel
theorem dX10_can_84 : decode cX10_can 84 = .ok (.invokevirtual 170, 3) := by decide +kernel
theorem dX10_can_87 : decode cX10_can 87 = .ok (.ifCond .ne 5, 3) := by decide +kernel
theorem dX10_can_90 : decode cX10_can 90 = .ok (.iconst 0, 1) := by decide +kernel
theorem dX10_can_91 : decode cX10_can 91 = .ok (.ireturn, 1) := by decide +kernel
theorem dX10_can_92 : decode cX10_can 92 = .ok (.aload_n 0, 1) := by decide +kernel
theorem dX10_can_93 : decode cX10_can 93 = .ok (.iload 8, 2) := by decide +kernel
theorem dX10_can_95 : decode cX10_can 95 = .ok (.invokevirtual 163, 3) := by decide +kernel
theorem dX10_can_98 : decode cX10_can 98 = .ok (.iload 4, 2) := by decide +kernel
theorem dX10_can_100 : decode cX10_can 100 = .ok (.if_icmp .le 12, 3) := by decide +kernel
theorem dX10_can_103 : decode cX10_can 103 = .ok (.aload_n 0, 1) := by decide +kernel
theorem dX10_can_104 : decode cX10_can 104 = .ok (.iload 8, 2) := by decide +kernel
theorem dX10_can_106 : decode cX10_can 106 = .ok (.invokevirtual 163, 3) := by decide +kernel
theorem dX10_can_109 : decode cX10_can 109 = .ok (.goto 5, 3) := by decide +kernel
theorem dX10_can_112 : decode cX10_can 112 = .ok (.iload 4, 2) := by decide +kernel
theorem dX10_can_114 : decode cX10_can 114 = .ok (.istore 4, 2) := by decide +kernel
theorem dX10_can_116 : decode cX10_can 116 = .ok (.aload_n 0, 1) := by decide +kernel
theorem dX10_can_117 : decode cX10_can 117 = .ok (.iload 8, 2) := by decide +kernel
theorem dX10_can_119 : decode cX10_can 119 = .ok (.invokevirtual 167, 3) := by decide +kernel
theorem dX10_can_122 : decode cX10_can 122 = .ok (.iload 5, 2) := by decide +kernel
theorem dX10_can_124 : decode cX10_can 124 = .ok (.if_icmp .ge 12, 3) := by decide +kernel
theorem dX10_can_127 : decode cX10_can 127 = .ok (.aload_n 0, 1) := by decide +kernel
theorem dX10_can_128 : decode cX10_can 128 = .ok (.iload 8, 2) := by decide +kernel
theorem dX10_can_130 : decode cX10_can 130 = .ok (.invokevirtual 167, 3) := by decide +kernel
theorem dX10_can_133 : decode cX10_can 133 = .ok (.goto 5, 3) := by decide +kernel
theorem dX10_can_136 : decode cX10_can 136 = .ok (.iload 5, 2) := by decide +kernel
theorem dX10_can_138 : decode cX10_can 138 = .ok (.istore 5, 2) := by decide +kernel
theorem dX10_can_140 : decode cX10_can 140 = .ok (.aload_n 0, 1) := by decide +kernel
theorem dX10_can_141 : decode cX10_can 141 = .ok (.getfield 34, 3) := by decide +kernel
theorem dX10_can_144 : decode cX10_can 144 = .ok (.iload_n 3, 1) := by decide +kernel
theorem dX10_can_145 : decode cX10_can 145 = .ok (.iaload, 1) := by decide +kernel
theorem dX10_can_146 : decode cX10_can 146 = .ok (.ifCond .ge 30, 3) := by decide +kernel
theorem dX10_can_149 : decode cX10_can 149 = .ok (.aload_n 0, 1) := by decide +kernel
theorem dX10_can_150 : decode cX10_can 150 = .ok (.getfield 34, 3) := by decide +kernel
theorem dX10_can_153 : decode cX10_can 153 = .ok (.iload 8, 2) := by decide +kernel
theorem dX10_can_155 : decode cX10_can 155 = .ok (.iaload, 1) := by decide +kernel
theorem dX10_can_156 : decode cX10_can 156 = .ok (.ifCond .ge 20, 3) := by decide +kernel
theorem dX10_can_159 : decode cX10_can 159 = .ok (.iload 6, 2) := by decide +kernel
theorem dX10_can_161 : decode cX10_can 161 = .ok (.aload_n 0, 1) := by decide +kernel
theorem dX10_can_162 : decode cX10_can 162 = .ok (.getfield 37, 3) := by decide +kernel
theorem dX10_can_165 : decode cX10_can 165 = .ok (.bipush 14, 2) := by decide +kernel
theorem dX10_can_167 : decode cX10_can 167 = .ok (.iload_n 3, 1) := by decide +kernel
theorem dX10_can_168 : decode cX10_can 168 = .ok (.imul, 1) := by decide +kernel
theorem dX10_can_169 : decode cX10_can 169 = .ok (.iload 8, 2) := by decide +kernel
theorem dX10_can_171 : decode cX10_can 171 = .ok (.iadd, 1) := by decide +kernel
theorem dX10_can_172 : decode cX10_can 172 = .ok (.iaload, 1) := by decide +kernel
theorem dX10_can_173 : decode cX10_can 173 = .ok (.iadd, 1) := by decide +kernel
theorem dX10_can_174 : decode cX10_can 174 = .ok (.istore 6, 2) := by decide +kernel
theorem dX10_can_176 : decode cX10_can 176 = .ok (.iinc 7 1, 3) := by decide +kernel
theorem dX10_can_179 : decode cX10_can 179 = .ok (.goto (-128), 3) := by decide +kernel
theorem dX10_can_182 : decode cX10_can 182 = .ok (.aload_n 0, 1) := by decide +kernel
theorem dX10_can_183 : decode cX10_can 183 = .ok (.getfield 76, 3) := by decide +kernel
theorem dX10_can_186 : decode cX10_can 186 = .ok (.iload_n 1, 1) := by decide +kernel
theorem dX10_can_187 : decode cX10_can 187 = .ok (.iconst 1, 1) := by decide +kernel
theorem dX10_can_188 : decode cX10_can 188 = .ok (.iadd, 1) := by decide +kernel
theorem dX10_can_189 : decode cX10_can 189 = .ok (.iload 6, 2) := by decide +kernel
theorem dX10_can_191 : decode cX10_can 191 = .ok (.iastore, 1) := by decide +kernel
theorem dX10_can_192 : decode cX10_can 192 = .ok (.iload 4, 2) := by decide +kernel
theorem dX10_can_194 : decode cX10_can 194 = .ok (.iload 5, 2) := by decide +kernel
theorem dX10_can_196 : decode cX10_can 196 = .ok (.if_icmp .gt 16, 3) := by decide +kernel
theorem dX10_can_199 : decode cX10_can 199 = .ok (.iload 6, 2) := by decide +kernel
theorem dX10_can_201 : decode cX10_can 201 = .ok (.aload_n 0, 1) := by decide +kernel
theorem dX10_can_202 : decode cX10_can 202 = .ok (.getfield 147, 3) := by decide +kernel
theorem dX10_can_205 : decode cX10_can 205 = .ok (.if_icmp .gt 7, 3) := by decide +kernel
theorem dX10_can_208 : decode cX10_can 208 = .ok (.iconst 1, 1) := by decide +kernel
theorem dX10_can_209 : decode cX10_can 209 = .ok (.goto 4, 3) := by decide +kernel
theorem dX10_can_212 : decode cX10_can 212 = .ok (.iconst 0, 1) := by decide +kernel
theorem dX10_can_213 : decode cX10_can 213 = .ok (.ireturn, 1) := by decide +kernel
theorem dX10_hasMore_0 : decode cX10_hasMore 0 = .ok (.aload_n 0, 1) := by decide +kernel
theorem dX10_hasMore_1 : decode cX10_hasMore 1 = .ok (.getfield 34, 3) := by decide +kernel
theorem dX10_hasMore_4 : decode cX10_hasMore 4 = .ok (.aload_n 0, 1) := by decide +kernel
theorem dX10_hasMore_5 : decode cX10_hasMore 5 = .ok (.getfield 70, 3) := by decide +kernel
theorem dX10_hasMore_8 : decode cX10_hasMore 8 = .ok (.iload_n 1, 1) := by decide +kernel
theorem dX10_hasMore_9 : decode cX10_hasMore 9 = .ok (.iaload, 1) := by decide +kernel
theorem dX10_hasMore_10 : decode cX10_hasMore 10 = .ok (.iaload, 1) := by decide +kernel
theorem dX10_hasMore_11 : decode cX10_hasMore 11 = .ok (.ifCond .ge 26, 3) := by decide +kernel
theorem dX10_hasMore_14 : decode cX10_hasMore 14 = .ok (.aload_n 0, 1) := by decide +kernel
theorem dX10_hasMore_15 : decode cX10_hasMore 15 = .ok (.getfield 73, 3) := by decide +kernel
theorem dX10_hasMore_18 : decode cX10_hasMore 18 = .ok (.iload_n 1, 1) := by decide +kernel
theorem dX10_hasMore_19 : decode cX10_hasMore 19 = .ok (.iaload, 1) := by decide +kernel
theorem dX10_hasMore_20 : decode cX10_hasMore 20 = .ok (.aload_n 0, 1) := by decide +kernel
theorem dX10_hasMore_21 : decode cX10_hasMore 21 = .ok (.getfield 79, 3) := by decide +kernel
theorem dX10_hasMore_24 : decode cX10_hasMore 24 = .ok (.iload_n 1, 1) := by decide +kernel
theorem dX10_hasMore_25 : decode cX10_hasMore 25 = .ok (.iaload, 1) := by decide +kernel
theorem dX10_hasMore_26 : decode cX10_hasMore 26 = .ok (.if_icmp .ge 7, 3) := by decide +kernel
theorem dX10_hasMore_29 : decode cX10_hasMore 29 = .ok (.iconst 1, 1) := by decide +kernel
theorem dX10_hasMore_30 : decode cX10_hasMore 30 = .ok (.goto 21, 3) := by decide +kernel
theorem dX10_hasMore_33 : decode cX10_hasMore 33 = .ok (.iconst 0, 1) := by decide +kernel
theorem dX10_hasMore_34 : decode cX10_hasMore 34 = .ok (.goto 17, 3) := by decide +kernel
theorem dX10_hasMore_37 : decode cX10_hasMore 37 = .ok (.aload_n 0, 1) := by decide +kernel
theorem dX10_hasMore_38 : decode cX10_hasMore 38 = .ok (.getfield 73, 3) := by decide +kernel
theorem dX10_hasMore_41 : decode cX10_hasMore 41 = .ok (.iload_n 1, 1) := by decide +kernel
theorem dX10_hasMore_42 : decode cX10_hasMore 42 = .ok (.iaload, 1) := by decide +kernel
theorem dX10_hasMore_43 : decode cX10_hasMore 43 = .ok (.ifCond .ge 7, 3) := by decide +kernel
theorem dX10_hasMore_46 : decode cX10_hasMore 46 = .ok (.iconst 1, 1) := by decide +kernel
theorem dX10_hasMore_47 : decode cX10_hasMore 47 = .ok (.goto 4, 3) := by decide +kernel
theorem dX10_hasMore_50 : decode cX10_hasMore 50 = .ok (.iconst 0, 1) := by decide +kernel
theorem dX10_hasMore_51 : decode cX10_hasMore 51 = .ok (.ireturn, 1) := by decide +kernel
theorem dX10_personOf_0 : decode cX10_personOf 0 = .ok (.iconst 0, 1) := by decide +kernel
theorem dX10_personOf_1 : decode cX10_personOf 1 = .ok (.istore_n 3, 1) := by decide +kernel
theorem dX10_personOf_2 : decode cX10_personOf 2 = .ok (.iload_n 3, 1) := by decide +kernel
theorem dX10_personOf_3 : decode cX10_personOf 3 = .ok (.iload_n 2, 1) := by decide +kernel
theorem dX10_personOf_4 : decode cX10_personOf 4 = .ok (.if_icmp .ge 26, 3) := by decide +kernel
theorem dX10_personOf_7 : decode cX10_personOf 7 = .ok (.aload_n 0, 1) := by decide +kernel
theorem dX10_personOf_8 : decode cX10_personOf 8 = .ok (.getfield 70, 3) := by decide +kernel
theorem dX10_personOf_11 : decode cX10_personOf 11 = .ok (.iload_n 3, 1) := by decide +kernel
theorem dX10_personOf_12 : decode cX10_personOf 12 = .ok (.iaload, 1) := by decide +kernel
theorem dX10_personOf_13 : decode cX10_personOf 13 = .ok (.iload_n 1, 1) := by decide +kernel
theorem dX10_personOf_14 : decode cX10_personOf 14 = .ok (.if_icmp .ne 10, 3) := by decide +kernel
theorem dX10_personOf_17 : decode cX10_personOf 17 = .ok (.aload_n 0, 1) := by decide +kernel
theorem dX10_personOf_18 : decode cX10_personOf 18 = .ok (.getfield 73, 3) := by decide +kernel
theorem dX10_personOf_21 : decode cX10_personOf 21 = .ok (.iload_n 3, 1) := by decide +kernel
theorem dX10_personOf_22 : decode cX10_personOf 22 = .ok (.iaload, 1) := by decide +kernel
theorem dX10_personOf_23 : decode cX10_personOf 23 = .ok (.ireturn, 1) := by decide +kernel
theorem dX10_personOf_24 : decode cX10_personOf 24 = .ok (.iinc 3 1, 3) := by decide +kernel
theorem dX10_personOf_27 : decode cX10_personOf 27 = .ok (.goto (-25), 3) := by decide +kernel
theorem dX10_personOf_30 : decode cX10_personOf 30 = .ok (.iconst 0, 1) := by decide +kernel
theorem dX10_personOf_31 : decode cX10_personOf 31 = .ok (.ireturn, 1) := by decide +kernel
theorem dX10_comes_0 : decode cX10_comes 0 = .ok (.iload_n 1, 1) := by decide +kernel
theorem dX10_comes_1 : decode cX10_comes 1 = .ok (.iconst 1, 1) := by decide +kernel
theorem dX10_comes_2 : decode cX10_comes 2 = .ok (.if_icmp .ne 97, 3) := by decide +kernel
theorem dX10_comes_5 : decode cX10_comes 5 = .ok (.iconst (-1), 1) := by decide +kernel
theorem dX10_comes_6 : decode cX10_comes 6 = .ok (.istore_n 2, 1) := by decide +kernel
theorem dX10_comes_7 : decode cX10_comes 7 = .ok (.iconst (-1), 1) := by decide +kernel
theorem dX10_comes_8 : decode cX10_comes 8 = .ok (.istore_n 3, 1) := by decide +kernel
theorem dX10_comes_9 : decode cX10_comes 9 = .ok (.iconst 0, 1) := by decide +kernel
theorem dX10_comes_10 : decode cX10_comes 10 = .ok (.istore 4, 2) := by decide +kernel
theorem dX10_comes_12 : decode cX10_comes 12 = .ok (.iload 4, 2) := by decide +kernel
theorem dX10_comes_14 : decode cX10_comes 14 = .ok (.aload_n 0, 1) := by decide +kernel
theorem dX10_comes_15 : decode cX10_comes 15 = .ok (.getfield 173, 3) := by decide +kernel
theorem dX10_comes_18 : decode cX10_comes 18 = .ok (.if_icmp .ge 53, 3) := by decide +kernel
theorem dX10_comes_21 : decode cX10_comes 21 = .ok (.aload_n 0, 1) := by decide +kernel
theorem dX10_comes_22 : decode cX10_comes 22 = .ok (.getfield 70, 3) := by decide +kernel
theorem dX10_comes_25 : decode cX10_comes 25 = .ok (.iload 4, 2) := by decide +kernel
theorem dX10_comes_27 : decode cX10_comes 27 = .ok (.iaload, 1) := by decide +kernel
theorem dX10_comes_28 : decode cX10_comes 28 = .ok (.aload_n 0, 1) := by decide +kernel
theorem dX10_comes_29 : decode cX10_comes 29 = .ok (.getfield 176, 3) := by decide +kernel
theorem dX10_comes_32 : decode cX10_comes 32 = .ok (.if_icmp .ne 11, 3) := by decide +kernel
theorem dX10_comes_35 : decode cX10_comes 35 = .ok (.aload_n 0, 1) := by decide +kernel
theorem dX10_comes_36 : decode cX10_comes 36 = .ok (.getfield 73, 3) := by decide +kernel
theorem dX10_comes_39 : decode cX10_comes 39 = .ok (.iload 4, 2) := by decide +kernel
theorem dX10_comes_41 : decode cX10_comes 41 = .ok (.iaload, 1) := by decide +kernel
theorem dX10_comes_42 : decode cX10_comes 42 = .ok (.istore_n 2, 1) := by decide +kernel
theorem dX10_comes_43 : decode cX10_comes 43 = .ok (.aload_n 0, 1) := by decide +kernel
theorem dX10_comes_44 : decode cX10_comes 44 = .ok (.getfield 70, 3) := by decide +kernel
theorem dX10_comes_47 : decode cX10_comes 47 = .ok (.iload 4, 2) := by decide +kernel
theorem dX10_comes_49 : decode cX10_comes 49 = .ok (.iaload, 1) := by decide +kernel
theorem dX10_comes_50 : decode cX10_comes 50 = .ok (.aload_n 0, 1) := by decide +kernel
theorem dX10_comes_51 : decode cX10_comes 51 = .ok (.getfield 179, 3) := by decide +kernel
theorem dX10_comes_54 : decode cX10_comes 54 = .ok (.if_icmp .ne 11, 3) := by decide +kernel
theorem dX10_comes_57 : decode cX10_comes 57 = .ok (.aload_n 0, 1) := by decide +kernel
theorem dX10_comes_58 : decode cX10_comes 58 = .ok (.getfield 73, 3) := by decide +kernel
theorem dX10_comes_61 : decode cX10_comes 61 = .ok (.iload 4, 2) := by decide +kernel
theorem dX10_comes_63 : decode cX10_comes 63 = .ok (.iaload, 1) := by decide +kernel
theorem dX10_comes_64 : decode cX10_comes 64 = .ok (.istore_n 3, 1) := by decide +kernel
theorem dX10_comes_65 : decode cX10_comes 65 = .ok (.iinc 4 1, 3) := by decide +kernel
theorem dX10_comes_68 : decode cX10_comes 68 = .ok (.goto (-56), 3) := by decide +kernel
theorem dX10_comes_71 : decode cX10_comes 71 = .ok (.aload_n 0, 1) := by decide +kernel
theorem dX10_comes_72 : decode cX10_comes 72 = .ok (.aload_n 0, 1) := by decide +kernel
theorem dX10_comes_73 : decode cX10_comes 73 = .ok (.getfield 182, 3) := by decide +kernel
theorem dX10_comes_76 : decode cX10_comes 76 = .ok (.ifCond .eq 16, 3) := by decide +kernel
theorem dX10_comes_79 : decode cX10_comes 79 = .ok (.iload_n 2, 1) := by decide +kernel
theorem dX10_comes_80 : decode cX10_comes 80 = .ok (.ifCond .lt 12, 3) := by decide +kernel
theorem dX10_comes_83 : decode cX10_comes 83 = .ok (.iload_n 2, 1) := by decide +kernel
theorem dX10_comes_84 : decode cX10_comes 84 = .ok (.iload_n 3, 1) := by decide +kernel
theorem dX10_comes_85 : decode cX10_comes 85 = .ok (.if_icmp .ne 7, 3) := by decide +kernel
theorem dX10_comes_88 : decode cX10_comes 88 = .ok (.iconst 1, 1) := by decide +kernel
theorem dX10_comes_89 : decode cX10_comes 89 = .ok (.goto 4, 3) := by decide +kernel
theorem dX10_comes_92 : decode cX10_comes 92 = .ok (.iconst 0, 1) := by decide +kernel
theorem dX10_comes_93 : decode cX10_comes 93 = .ok (.putfield 182, 3) := by decide +kernel
theorem dX10_comes_96 : decode cX10_comes 96 = .ok (.goto 58, 3) := by decide +kernel
theorem dX10_comes_99 : decode cX10_comes 99 = .ok (.iconst 0, 1) := by decide +kernel
theorem dX10_comes_100 : decode cX10_comes 100 = .ok (.istore_n 2, 1) := by decide +kernel
theorem dX10_comes_101 : decode cX10_comes 101 = .ok (.iload_n 2, 1) := by decide +kernel
theorem dX10_comes_102 : decode cX10_comes 102 = .ok (.aload_n 0, 1) := by decide +kernel
theorem dX10_comes_103 : decode cX10_comes 103 = .ok (.getfield 173, 3) := by decide +kernel
theorem dX10_comes_106 : decode cX10_comes 106 = .ok (.if_icmp .ge 30, 3) := by decide +kernel
theorem dX10_comes_109 : decode cX10_comes 109 = .ok (.aload_n 0, 1) := by decide +kernel
theorem dX10_comes_110 : decode cX10_comes 110 = .ok (.getfield 83, 3) := by decide +kernel
theorem dX10_comes_113 : decode cX10_comes 113 = .ok (.bipush 14, 2) := by decide +kernel
theorem dX10_comes_115 : decode cX10_comes 115 = .ok (.aload_n 0, 1) := by decide +kernel
theorem dX10_comes_116 : decode cX10_comes 116 = .ok (.getfield 185, 3) := by decide +kernel
theorem dX10_comes_119 : decode cX10_comes 119 = .ok (.imul, 1) := by decide +kernel
theorem dX10_comes_120 : decode cX10_comes 120 = .ok (.iload_n 2, 1) := by decide +kernel
theorem dX10_comes_121 : decode cX10_comes 121 = .ok (.iadd, 1) := by decide +kernel
theorem dX10_comes_122 : decode cX10_comes 122 = .ok (.aload_n 0, 1) := by decide +kernel
theorem dX10_comes_123 : decode cX10_comes 123 = .ok (.getfield 73, 3) := by decide +kernel
theorem dX10_comes_126 : decode cX10_comes 126 = .ok (.iload_n 2, 1) := by decide +kernel
theorem dX10_comes_127 : decode cX10_comes 127 = .ok (.iaload, 1) := by decide +kernel
theorem dX10_comes_128 : decode cX10_comes 128 = .ok (.i2b, 1) := by decide +kernel
theorem dX10_comes_129 : decode cX10_comes 129 = .ok (.bastore, 1) := by decide +kernel
theorem dX10_comes_130 : decode cX10_comes 130 = .ok (.iinc 2 1, 3) := by decide +kernel
theorem dX10_comes_133 : decode cX10_comes 133 = .ok (.goto (-32), 3) := by decide +kernel
theorem dX10_comes_136 : decode cX10_comes 136 = .ok (.aload_n 0, 1) := by decide +kernel
theorem dX10_comes_137 : decode cX10_comes 137 = .ok (.getfield 87, 3) := by decide +kernel
theorem dX10_comes_140 : decode cX10_comes 140 = .ok (.aload_n 0, 1) := by decide +kernel
theorem dX10_comes_141 : decode cX10_comes 141 = .ok (.getfield 185, 3) := by decide +kernel
theorem dX10_comes_144 : decode cX10_comes 144 = .ok (.aload_n 0, 1) := by decide +kernel
theorem dX10_comes_145 : decode cX10_comes 145 = .ok (.getfield 76, 3) := by decide +kernel
theorem dX10_comes_148 : decode cX10_comes 148 = .ok (.aload_n 0, 1) := by decide +kernel
theorem dX10_comes_149 : decode cX10_comes 149 = .ok (.getfield 173, 3) := by decide +kernel
theorem dX10_comes_152 : decode cX10_comes 152 = .ok (.iaload, 1) := by decide +kernel
theorem dX10_comes_153 : decode cX10_comes 153 = .ok (.iastore, 1) := by decide +kernel
theorem dX10_comes_154 : decode cX10_comes 154 = .ok (.aload_n 0, 1) := by decide +kernel
theorem dX10_comes_155 : decode cX10_comes 155 = .ok (.dup, 1) := by decide +kernel
theorem dX10_comes_156 : decode cX10_comes 156 = .ok (.getfield 185, 3) := by decide +kernel
theorem dX10_comes_159 : decode cX10_comes 159 = .ok (.iconst 1, 1) := by decide +kernel
theorem dX10_comes_160 : decode cX10_comes 160 = .ok (.iadd, 1) := by decide +kernel
theorem dX10_comes_161 : decode cX10_comes 161 = .ok (.putfield 185, 3) := by decide +kernel
theorem dX10_comes_164 : decode cX10_comes 164 = .ok (.return_, 1) := by decide +kernel
theorem dX10_seek_0 : decode cX10_seek 0 = .ok (.iconst 0, 1) := by decide +kernel
theorem dX10_seek_1 : decode cX10_seek 1 = .ok (.istore_n 2, 1) := by decide +kernel
theorem dX10_seek_2 : decode cX10_seek 2 = .ok (.iload_n 2, 1) := by decide +kernel
theorem dX10_seek_3 : decode cX10_seek 3 = .ok (.aload_n 0, 1) := by decide +kernel
theorem dX10_seek_4 : decode cX10_seek 4 = .ok (.getfield 117, 3) := by decide +kernel
theorem dX10_seek_7 : decode cX10_seek 7 = .ok (.if_icmp .ge 52, 3) := by decide +kernel
theorem dX10_seek_10 : decode cX10_seek 10 = .ok (.iconst 0, 1) := by decide +kernel
theorem dX10_seek_11 : decode cX10_seek 11 = .ok (.istore_n 3, 1) := by decide +kernel
theorem dX10_seek_12 : decode cX10_seek 12 = .ok (.iload_n 3, 1) := by decide +kernel
theorem dX10_seek_13 : decode cX10_seek 13 = .ok (.aload_n 0, 1) := by decide +kernel
theorem dX10_seek_14 : decode cX10_seek 14 = .ok (.getfield 117, 3) := by decide +kernel
theorem dX10_seek_17 : decode cX10_seek 17 = .ok (.if_icmp .ge 36, 3) := by decide +kernel
theorem dX10_seek_20 : decode cX10_seek 20 = .ok (.aload_n 0, 1) := by decide +kernel
theorem dX10_seek_21 : decode cX10_seek 21 = .ok (.getfield 37, 3) := by decide +kernel
theorem dX10_seek_24 : decode cX10_seek 24 = .ok (.bipush 14, 2) := by decide +kernel
theorem dX10_seek_26 : decode cX10_seek 26 = .ok (.iload_n 2, 1) := by decide +kernel
theorem dX10_seek_27 : decode cX10_seek 27 = .ok (.imul, 1) := by decide +kernel
theorem dX10_seek_28 : decode cX10_seek 28 = .ok (.iload_n 3, 1) := by decide +kernel
theorem dX10_seek_29 : decode cX10_seek 29 = .ok (.iadd, 1) := by decide +kernel
theorem dX10_seek_30 : decode cX10_seek 30 = .ok (.aload_n 0, 1) := by decide +kernel
theorem dX10_seek_31 : decode cX10_seek 31 = .ok (.aload_n 0, 1) := by decide +kernel
theorem dX10_seek_32 : decode cX10_seek 32 = .ok (.getfield 40, 3) := by decide +kernel
theorem dX10_seek_35 : decode cX10_seek 35 = .ok (.iload_n 2, 1) := by decide +kernel
theorem dX10_seek_36 : decode cX10_seek 36 = .ok (.laload, 1) := by decide +kernel
theorem dX10_seek_37 : decode cX10_seek 37 = .ok (.aload_n 0, 1) := by decide +kernel
theorem dX10_seek_38 : decode cX10_seek 38 = .ok (.getfield 40, 3) := by decide +kernel
theorem dX10_seek_41 : decode cX10_seek 41 = .ok (.iload_n 3, 1) := by decide +kernel
theorem dX10_seek_42 : decode cX10_seek 42 = .ok (.laload, 1) := by decide +kernel
theorem dX10_seek_43 : decode cX10_seek 43 = .ok (.invokevirtual 110, 3) := by decide +kernel
theorem dX10_seek_46 : decode cX10_seek 46 = .ok (.iastore, 1) := by decide +kernel
theorem dX10_seek_47 : decode cX10_seek 47 = .ok (.iinc 3 1, 3) := by decide +kernel
theorem dX10_seek_50 : decode cX10_seek 50 = .ok (.goto (-38), 3) := by decide +kernel
theorem dX10_seek_53 : decode cX10_seek 53 = .ok (.iinc 2 1, 3) := by decide +kernel
theorem dX10_seek_56 : decode cX10_seek 56 = .ok (.goto (-54), 3) := by decide +kernel
theorem dX10_seek_59 : decode cX10_seek 59 = .ok (.aload_n 0, 1) := by decide +kernel
theorem dX10_seek_60 : decode cX10_seek 60 = .ok (.iconst 0, 1) := by decide +kernel
theorem dX10_seek_61 : decode cX10_seek 61 = .ok (.putfield 188, 3) := by decide +kernel
theorem dX10_seek_64 : decode cX10_seek 64 = .ok (.aload_n 0, 1) := by decide +kernel
theorem dX10_seek_65 : decode cX10_seek 65 = .ok (.iconst 0, 1) := by decide +kernel
theorem dX10_seek_66 : decode cX10_seek 66 = .ok (.putfield 185, 3) := by decide +kernel
theorem dX10_seek_69 : decode cX10_seek 69 = .ok (.aload_n 0, 1) := by decide +kernel
theorem dX10_seek_70 : decode cX10_seek 70 = .ok (.iconst 0, 1) := by decide +kernel
theorem dX10_seek_71 : decode cX10_seek 71 = .ok (.putfield 191, 3) := by decide +kernel
theorem dX10_seek_74 : decode cX10_seek 74 = .ok (.aload_n 0, 1) := by decide +kernel
theorem dX10_seek_75 : decode cX10_seek 75 = .ok (.getfield 76, 3) := by decide +kernel
theorem dX10_seek_78 : decode cX10_seek 78 = .ok (.iconst 0, 1) := by decide +kernel
theorem dX10_seek_79 : decode cX10_seek 79 = .ok (.iconst 0, 1) := by decide +kernel
theorem dX10_seek_80 : decode cX10_seek 80 = .ok (.iastore, 1) := by decide +kernel
theorem dX10_seek_81 : decode cX10_seek 81 = .ok (.aload_n 0, 1) := by decide +kernel
theorem dX10_seek_82 : decode cX10_seek 82 = .ok (.getfield 79, 3) := by decide +kernel
theorem dX10_seek_85 : decode cX10_seek 85 = .ok (.iconst 0, 1) := by decide +kernel
theorem dX10_seek_86 : decode cX10_seek 86 = .ok (.iconst 0, 1) := by decide +kernel
theorem dX10_seek_87 : decode cX10_seek 87 = .ok (.iastore, 1) := by decide +kernel
theorem dX10_seek_88 : decode cX10_seek 88 = .ok (.iconst 0, 1) := by decide +kernel
theorem dX10_seek_89 : decode cX10_seek 89 = .ok (.istore_n 2, 1) := by decide +kernel
theorem dX10_seek_90 : decode cX10_seek 90 = .ok (.aload_n 0, 1) := by decide +kernel
theorem dX10_seek_91 : decode cX10_seek 91 = .ok (.getfield 173, 3) := by decide +kernel
theorem dX10_seek_94 : decode cX10_seek 94 = .ok (.ifCond .le 13, 3) := by decide +kernel
theorem dX10_seek_97 : decode cX10_seek 97 = .ok (.aload_n 0, 1) := by decide +kernel
theorem dX10_seek_98 : decode cX10_seek 98 = .ok (.getfield 73, 3) := by decide +kernel
theorem dX10_seek_101 : decode cX10_seek 101 = .ok (.iconst 0, 1) := by decide +kernel
theorem dX10_seek_102 : decode cX10_seek 102 = .ok (.iconst (-1), 1) := by decide +kernel
theorem dX10_seek_103 : decode cX10_seek 103 = .ok (.iastore, 1) := by decide +kernel
theorem dX10_seek_104 : decode cX10_seek 104 = .ok (.goto 8, 3) := by decide +kernel
theorem dX10_seek_107 : decode cX10_seek 107 = .ok (.aload_n 0, 1) := by decide +kernel
theorem dX10_seek_108 : decode cX10_seek 108 = .ok (.iload_n 1, 1) := by decide +kernel
theorem dX10_seek_109 : decode cX10_seek 109 = .ok (.invokevirtual 194, 3) := by decide +kernel
theorem dX10_seek_112 : decode cX10_seek 112 = .ok (.iload_n 2, 1) := by decide +kernel
theorem dX10_seek_113 : decode cX10_seek 113 = .ok (.ifCond .lt 208, 3) := by decide +kernel
theorem dX10_seek_116 : decode cX10_seek 116 = .ok (.aload_n 0, 1) := by decide +kernel
theorem dX10_seek_117 : decode cX10_seek 117 = .ok (.getfield 173, 3) := by decide +kernel
theorem dX10_seek_120 : decode cX10_seek 120 = .ok (.ifCond .le 201, 3) := by decide +kernel
theorem dX10_seek_123 : decode cX10_seek 123 = .ok (.iconst 0, 1) := by decide +kernel
theorem dX10_seek_124 : decode cX10_seek 124 = .ok (.istore_n 3, 1) := by decide +kernel
theorem dX10_seek_125 : decode cX10_seek 125 = .ok (.iload_n 3, 1) := by decide +kernel
theorem dX10_seek_126 : decode cX10_seek 126 = .ok (.ifCond .ne 98, 3) := by decide +kernel
theorem dX10_seek_129 : decode cX10_seek 129 = .ok (.aload_n 0, 1) := by decide +kernel
theorem dX10_seek_130 : decode cX10_seek 130 = .ok (.iload_n 2, 1) := by decide +kernel
theorem dX10_seek_131 : decode cX10_seek 131 = .ok (.invokevirtual 198, 3) := by decide +kernel
theorem dX10_seek_134 : decode cX10_seek 134 = .ok (.ifCond .eq 90, 3) := by decide +kernel
theorem dX10_seek_137 : decode cX10_seek 137 = .ok (.aload_n 0, 1) := by decide +kernel
theorem dX10_seek_138 : decode cX10_seek 138 = .ok (.getfield 188, 3) := by decide +kernel
theorem dX10_seek_141 : decode cX10_seek 141 = .ok (.ldc 201, 2) := by decide +kernel
theorem dX10_seek_143 : decode cX10_seek 143 = .ok (.if_icmp .ne 9, 3) := by decide +kernel
theorem dX10_seek_146 : decode cX10_seek 146 = .ok (.aload_n 0, 1) := by decide +kernel
theorem dX10_seek_147 : decode cX10_seek 147 = .ok (.iconst 1, 1) := by decide +kernel
theorem dX10_seek_148 : decode cX10_seek 148 = .ok (.putfield 191, 3) := by decide +kernel
theorem dX10_seek_151 : decode cX10_seek 151 = .ok (.return_, 1) := by decide +kernel
theorem dX10_seek_152 : decode cX10_seek 152 = .ok (.aload_n 0, 1) := by decide +kernel
theorem dX10_seek_153 : decode cX10_seek 153 = .ok (.dup, 1) := by decide +kernel
theorem dX10_seek_154 : decode cX10_seek 154 = .ok (.getfield 188, 3) := by decide +kernel
theorem dX10_seek_157 : decode cX10_seek 157 = .ok (.iconst 1, 1) := by decide +kernel
theorem dX10_seek_158 : decode cX10_seek 158 = .ok (.iadd, 1) := by decide +kernel
theorem dX10_seek_159 : decode cX10_seek 159 = .ok (.putfield 188, 3) := by decide +kernel
theorem dX10_seek_162 : decode cX10_seek 162 = .ok (.aload_n 0, 1) := by decide +kernel
theorem dX10_seek_163 : decode cX10_seek 163 = .ok (.getfield 73, 3) := by decide +kernel
theorem dX10_seek_166 : decode cX10_seek 166 = .ok (.iload_n 2, 1) := by decide +kernel
theorem dX10_seek_167 : decode cX10_seek 167 = .ok (.aload_n 0, 1) := by decide +kernel
theorem dX10_seek_168 : decode cX10_seek 168 = .ok (.getfield 34, 3) := by decide +kernel
theorem dX10_seek_171 : decode cX10_seek 171 = .ok (.aload_n 0, 1) := by decide +kernel
theorem dX10_seek_172 : decode cX10_seek 172 = .ok (.getfield 70, 3) := by decide +kernel
theorem dX10_seek_175 : decode cX10_seek 175 = .ok (.iload_n 2, 1) := by decide +kernel
theorem dX10_seek_176 : decode cX10_seek 176 = .ok (.iaload, 1) := by decide +kernel
theorem dX10_seek_177 : decode cX10_seek 177 = .ok (.iaload, 1) := by decide +kernel
theorem dX10_seek_178 : decode cX10_seek 178 = .ok (.ifCond .ge 14, 3) := by decide +kernel
theorem dX10_seek_181 : decode cX10_seek 181 = .ok (.aload_n 0, 1) := by decide +kernel
theorem dX10_seek_182 : decode cX10_seek 182 = .ok (.getfield 73, 3) := by decide +kernel
theorem dX10_seek_185 : decode cX10_seek 185 = .ok (.iload_n 2, 1) := by decide +kernel
theorem dX10_seek_186 : decode cX10_seek 186 = .ok (.iaload, 1) := by decide +kernel
theorem dX10_seek_187 : decode cX10_seek 187 = .ok (.iconst 1, 1) := by decide +kernel
theorem dX10_seek_188 : decode cX10_seek 188 = .ok (.iadd, 1) := by decide +kernel
theorem dX10_seek_189 : decode cX10_seek 189 = .ok (.goto 19, 3) := by decide +kernel
theorem dX10_seek_192 : decode cX10_seek 192 = .ok (.aload_n 0, 1) := by decide +kernel
theorem dX10_seek_193 : decode cX10_seek 193 = .ok (.aload_n 0, 1) := by decide +kernel
theorem dX10_seek_194 : decode cX10_seek 194 = .ok (.getfield 34, 3) := by decide +kernel
theorem dX10_seek_197 : decode cX10_seek 197 = .ok (.aload_n 0, 1) := by decide +kernel
theorem dX10_seek_198 : decode cX10_seek 198 = .ok (.getfield 70, 3) := by decide +kernel
theorem dX10_seek_201 : decode cX10_seek 201 = .ok (.iload_n 2, 1) := by decide +kernel
theorem dX10_seek_202 : decode cX10_seek 202 = .ok (.iaload, 1) := by decide +kernel
theorem dX10_seek_203 : decode cX10_seek 203 = .ok (.iaload, 1) := by decide +kernel
theorem dX10_seek_204 : decode cX10_seek 204 = .ok (.iload_n 2, 1) := by decide +kernel
theorem dX10_seek_205 : decode cX10_seek 205 = .ok (.invokevirtual 202, 3) := by decide +kernel
theorem dX10_seek_208 : decode cX10_seek 208 = .ok (.iastore, 1) := by decide +kernel
theorem dX10_seek_209 : decode cX10_seek 209 = .ok (.aload_n 0, 1) := by decide +kernel
theorem dX10_seek_210 : decode cX10_seek 210 = .ok (.iload_n 2, 1) := by decide +kernel
theorem dX10_seek_211 : decode cX10_seek 211 = .ok (.aload_n 0, 1) := by decide +kernel
theorem dX10_seek_212 : decode cX10_seek 212 = .ok (.getfield 73, 3) := by decide +kernel
theorem dX10_seek_215 : decode cX10_seek 215 = .ok (.iload_n 2, 1) := by decide +kernel
theorem dX10_seek_216 : decode cX10_seek 216 = .ok (.iaload, 1) := by decide +kernel
theorem dX10_seek_217 : decode cX10_seek 217 = .ok (.invokevirtual 205, 3) := by decide +kernel
theorem dX10_seek_220 : decode cX10_seek 220 = .ok (.istore_n 3, 1) := by decide +kernel
theorem dX10_seek_221 : decode cX10_seek 221 = .ok (.goto (-96), 3) := by decide +kernel
theorem dX10_seek_224 : decode cX10_seek 224 = .ok (.iload_n 3, 1) := by decide +kernel
theorem dX10_seek_225 : decode cX10_seek 225 = .ok (.ifCond .ne 9, 3) := by decide +kernel
theorem dX10_seek_228 : decode cX10_seek 228 = .ok (.iinc 2 (-1), 3) := by decide +kernel
theorem dX10_seek_231 : decode cX10_seek 231 = .ok (.goto (-119), 3) := by decide +kernel
theorem dX10_seek_234 : decode cX10_seek 234 = .ok (.iload_n 2, 1) := by decide +kernel
theorem dX10_seek_235 : decode cX10_seek 235 = .ok (.iconst 1, 1) := by decide +kernel
theorem dX10_seek_236 : decode cX10_seek 236 = .ok (.iadd, 1) := by decide +kernel
theorem dX10_seek_237 : decode cX10_seek 237 = .ok (.aload_n 0, 1) := by decide +kernel
theorem dX10_seek_238 : decode cX10_seek 238 = .ok (.getfield 173, 3) := by decide +kernel
theorem dX10_seek_241 : decode cX10_seek 241 = .ok (.if_icmp .ne 27, 3) := by decide +kernel
theorem dX10_seek_244 : decode cX10_seek 244 = .ok (.aload_n 0, 1) := by decide +kernel
theorem dX10_seek_245 : decode cX10_seek 245 = .ok (.getfield 185, 3) := by decide +kernel
theorem dX10_seek_248 : decode cX10_seek 248 = .ok (.sipush 3000, 3) := by decide +kernel
theorem dX10_seek_251 : decode cX10_seek 251 = .ok (.if_icmp .ne 9, 3) := by decide +kernel
theorem dX10_seek_254 : decode cX10_seek 254 = .ok (.aload_n 0, 1) := by decide +kernel
theorem dX10_seek_255 : decode cX10_seek 255 = .ok (.iconst 1, 1) := by decide +kernel
theorem dX10_seek_256 : decode cX10_seek 256 = .ok (.putfield 191, 3) := by decide +kernel
theorem dX10_seek_259 : decode cX10_seek 259 = .ok (.return_, 1) := by decide +kernel
theorem dX10_seek_260 : decode cX10_seek 260 = .ok (.aload_n 0, 1) := by decide +kernel
theorem dX10_seek_261 : decode cX10_seek 261 = .ok (.iload_n 1, 1) := by decide +kernel
theorem dX10_seek_262 : decode cX10_seek 262 = .ok (.invokevirtual 194, 3) := by decide +kernel
theorem dX10_seek_265 : decode cX10_seek 265 = .ok (.goto (-153), 3) := by decide +kernel
theorem dX10_seek_268 : decode cX10_seek 268 = .ok (.aload_n 0, 1) := by decide +kernel
theorem dX10_seek_269 : decode cX10_seek 269 = .ok (.getfield 79, 3) := by decide +kernel
theorem dX10_seek_272 : decode cX10_seek 272 = .ok (.iload_n 2, 1) := by decide +kernel
theorem dX10_seek_273 : decode cX10_seek 273 = .ok (.iconst 1, 1) := by decide +kernel
theorem dX10_seek_274 : decode cX10_seek 274 = .ok (.iadd, 1) := by decide +kernel
theorem dX10_seek_275 : decode cX10_seek 275 = .ok (.aload_n 0, 1) := by decide +kernel
theorem dX10_seek_276 : decode cX10_seek 276 = .ok (.getfield 73, 3) := by decide +kernel
theorem dX10_seek_279 : decode cX10_seek 279 = .ok (.iload_n 2, 1) := by decide +kernel
theorem dX10_seek_280 : decode cX10_seek 280 = .ok (.iaload, 1) := by decide +kernel
theorem dX10_seek_281 : decode cX10_seek 281 = .ok (.aload_n 0, 1) := by decide +kernel
theorem dX10_seek_282 : decode cX10_seek 282 = .ok (.getfield 79, 3) := by decide +kernel
theorem dX10_seek_285 : decode cX10_seek 285 = .ok (.iload_n 2, 1) := by decide +kernel
theorem dX10_seek_286 : decode cX10_seek 286 = .ok (.iaload, 1) := by decide +kernel
theorem dX10_seek_287 : decode cX10_seek 287 = .ok (.if_icmp .ne 14, 3) := by decide +kernel
theorem dX10_seek_290 : decode cX10_seek 290 = .ok (.aload_n 0, 1) := by decide +kernel
theorem dX10_seek_291 : decode cX10_seek 291 = .ok (.getfield 79, 3) := by decide +kernel
theorem dX10_seek_294 : decode cX10_seek 294 = .ok (.iload_n 2, 1) := by decide +kernel
theorem dX10_seek_295 : decode cX10_seek 295 = .ok (.iaload, 1) := by decide +kernel
theorem dX10_seek_296 : decode cX10_seek 296 = .ok (.iconst 1, 1) := by decide +kernel
theorem dX10_seek_297 : decode cX10_seek 297 = .ok (.iadd, 1) := by decide +kernel
theorem dX10_seek_298 : decode cX10_seek 298 = .ok (.goto 9, 3) := by decide +kernel
theorem dX10_seek_301 : decode cX10_seek 301 = .ok (.aload_n 0, 1) := by decide +kernel
theorem dX10_seek_302 : decode cX10_seek 302 = .ok (.getfield 79, 3) := by decide +kernel
theorem dX10_seek_305 : decode cX10_seek 305 = .ok (.iload_n 2, 1) := by decide +kernel
theorem dX10_seek_306 : decode cX10_seek 306 = .ok (.iaload, 1) := by decide +kernel
theorem dX10_seek_307 : decode cX10_seek 307 = .ok (.iastore, 1) := by decide +kernel
theorem dX10_seek_308 : decode cX10_seek 308 = .ok (.iinc 2 1, 3) := by decide +kernel
theorem dX10_seek_311 : decode cX10_seek 311 = .ok (.aload_n 0, 1) := by decide +kernel
theorem dX10_seek_312 : decode cX10_seek 312 = .ok (.getfield 73, 3) := by decide +kernel
theorem dX10_seek_315 : decode cX10_seek 315 = .ok (.iload_n 2, 1) := by decide +kernel
theorem dX10_seek_316 : decode cX10_seek 316 = .ok (.iconst (-1), 1) := by decide +kernel
theorem dX10_seek_317 : decode cX10_seek 317 = .ok (.iastore, 1) := by decide +kernel
theorem dX10_seek_318 : decode cX10_seek 318 = .ok (.goto (-206), 3) := by decide +kernel
theorem dX10_seek_321 : decode cX10_seek 321 = .ok (.return_, 1) := by decide +kernel
theorem dX10_soughtAll_0 : decode cX10_soughtAll 0 = .ok (.aload_n 0, 1) := by decide +kernel
theorem dX10_soughtAll_1 : decode cX10_soughtAll 1 = .ok (.getfield 120, 3) := by decide +kernel
theorem dX10_soughtAll_4 : decode cX10_soughtAll 4 = .ok (.ifCond .eq 4, 3) := by decide +kernel
theorem dX10_soughtAll_7 : decode cX10_soughtAll 7 = .ok (.return_, 1) := by decide +kernel
theorem dX10_soughtAll_8 : decode cX10_soughtAll 8 = .ok (.aload_n 0, 1) := by decide +kernel
theorem dX10_soughtAll_9 : decode cX10_soughtAll 9 = .ok (.aload_n 0, 1) := by decide +kernel
theorem dX10_soughtAll_10 : decode cX10_soughtAll 10 = .ok (.getfield 117, 3) := by decide +kernel
theorem dX10_soughtAll_13 : decode cX10_soughtAll 13 = .ok (.putfield 173, 3) := by decide +kernel
theorem dX10_soughtAll_16 : decode cX10_soughtAll 16 = .ok (.iconst 0, 1) := by decide +kernel
theorem dX10_soughtAll_17 : decode cX10_soughtAll 17 = .ok (.istore_n 1, 1) := by decide +kernel
theorem dX10_soughtAll_18 : decode cX10_soughtAll 18 = .ok (.iload_n 1, 1) := by decide +kernel
theorem dX10_soughtAll_19 : decode cX10_soughtAll 19 = .ok (.aload_n 0, 1) := by decide +kernel
theorem dX10_soughtAll_20 : decode cX10_soughtAll 20 = .ok (.getfield 117, 3) := by decide +kernel
theorem dX10_soughtAll_23 : decode cX10_soughtAll 23 = .ok (.if_icmp .ge 16, 3) := by decide +kernel
theorem dX10_soughtAll_26 : decode cX10_soughtAll 26 = .ok (.aload_n 0, 1) := by decide +kernel
theorem dX10_soughtAll_27 : decode cX10_soughtAll 27 = .ok (.getfield 70, 3) := by decide +kernel
theorem dX10_soughtAll_30 : decode cX10_soughtAll 30 = .ok (.iload_n 1, 1) := by decide +kernel
theorem dX10_soughtAll_31 : decode cX10_soughtAll 31 = .ok (.iload_n 1, 1) := by decide +kernel
theorem dX10_soughtAll_32 : decode cX10_soughtAll 32 = .ok (.iastore, 1) := by decide +kernel
theorem dX10_soughtAll_33 : decode cX10_soughtAll 33 = .ok (.iinc 1 1, 3) := by decide +kernel
theorem dX10_soughtAll_36 : decode cX10_soughtAll 36 = .ok (.goto (-18), 3) := by decide +kernel
theorem dX10_soughtAll_39 : decode cX10_soughtAll 39 = .ok (.aload_n 0, 1) := by decide +kernel
theorem dX10_soughtAll_40 : decode cX10_soughtAll 40 = .ok (.iconst 0, 1) := by decide +kernel
theorem dX10_soughtAll_41 : decode cX10_soughtAll 41 = .ok (.invokevirtual 208, 3) := by decide +kernel
theorem dX10_soughtAll_44 : decode cX10_soughtAll 44 = .ok (.aload_n 0, 1) := by decide +kernel
theorem dX10_soughtAll_45 : decode cX10_soughtAll 45 = .ok (.aload_n 0, 1) := by decide +kernel
theorem dX10_soughtAll_46 : decode cX10_soughtAll 46 = .ok (.getfield 191, 3) := by decide +kernel
theorem dX10_soughtAll_49 : decode cX10_soughtAll 49 = .ok (.ifCond .eq 7, 3) := by decide +kernel
theorem dX10_soughtAll_52 : decode cX10_soughtAll 52 = .ok (.iconst 0, 1) := by decide +kernel
theorem dX10_soughtAll_53 : decode cX10_soughtAll 53 = .ok (.goto 7, 3) := by decide +kernel
theorem dX10_soughtAll_56 : decode cX10_soughtAll 56 = .ok (.aload_n 0, 1) := by decide +kernel
theorem dX10_soughtAll_57 : decode cX10_soughtAll 57 = .ok (.getfield 185, 3) := by decide +kernel
theorem dX10_soughtAll_60 : decode cX10_soughtAll 60 = .ok (.putfield 211, 3) := by decide +kernel
theorem dX10_soughtAll_63 : decode cX10_soughtAll 63 = .ok (.aload_n 0, 1) := by decide +kernel
theorem dX10_soughtAll_64 : decode cX10_soughtAll 64 = .ok (.aload_n 0, 1) := by decide +kernel
theorem dX10_soughtAll_65 : decode cX10_soughtAll 65 = .ok (.getfield 191, 3) := by decide +kernel
theorem dX10_soughtAll_68 : decode cX10_soughtAll 68 = .ok (.putfield 214, 3) := by decide +kernel
theorem dX10_soughtAll_71 : decode cX10_soughtAll 71 = .ok (.aload_n 0, 1) := by decide +kernel
theorem dX10_soughtAll_72 : decode cX10_soughtAll 72 = .ok (.aload_n 0, 1) := by decide +kernel
theorem dX10_soughtAll_73 : decode cX10_soughtAll 73 = .ok (.getfield 188, 3) := by decide +kernel
theorem dX10_soughtAll_76 : decode cX10_soughtAll 76 = .ok (.putfield 217, 3) := by decide +kernel
theorem dX10_soughtAll_79 : decode cX10_soughtAll 79 = .ok (.aload_n 0, 1) := by decide +kernel
theorem dX10_soughtAll_80 : decode cX10_soughtAll 80 = .ok (.iconst 1, 1) := by decide +kernel
theorem dX10_soughtAll_81 : decode cX10_soughtAll 81 = .ok (.putfield 120, 3) := by decide +kernel
theorem dX10_soughtAll_84 : decode cX10_soughtAll 84 = .ok (.return_, 1) := by decide +kernel
theorem dX10_ways_0 : decode cX10_ways 0 = .ok (.aload_n 0, 1) := by decide +kernel
theorem dX10_ways_1 : decode cX10_ways 1 = .ok (.invokevirtual 220, 3) := by decide +kernel
theorem dX10_ways_4 : decode cX10_ways 4 = .ok (.aload_n 0, 1) := by decide +kernel
theorem dX10_ways_5 : decode cX10_ways 5 = .ok (.getfield 214, 3) := by decide +kernel
theorem dX10_ways_8 : decode cX10_ways 8 = .ok (.ifCond .eq 8, 3) := by decide +kernel
theorem dX10_ways_11 : decode cX10_ways 11 = .ok (.bipush (-2), 2) := by decide +kernel
theorem dX10_ways_13 : decode cX10_ways 13 = .ok (.goto 7, 3) := by decide +kernel
theorem dX10_ways_16 : decode cX10_ways 16 = .ok (.aload_n 0, 1) := by decide +kernel
theorem dX10_ways_17 : decode cX10_ways 17 = .ok (.getfield 211, 3) := by decide +kernel
theorem dX10_ways_20 : decode cX10_ways 20 = .ok (.ireturn, 1) := by decide +kernel
theorem dX10_isWay_0 : decode cX10_isWay 0 = .ok (.aload_n 0, 1) := by decide +kernel
theorem dX10_isWay_1 : decode cX10_isWay 1 = .ok (.invokevirtual 220, 3) := by decide +kernel
theorem dX10_isWay_4 : decode cX10_isWay 4 = .ok (.iload_n 1, 1) := by decide +kernel
theorem dX10_isWay_5 : decode cX10_isWay 5 = .ok (.ifCond .lt 15, 3) := by decide +kernel
theorem dX10_isWay_8 : decode cX10_isWay 8 = .ok (.iload_n 1, 1) := by decide +kernel
theorem dX10_isWay_9 : decode cX10_isWay 9 = .ok (.aload_n 0, 1) := by decide +kernel
theorem dX10_isWay_10 : decode cX10_isWay 10 = .ok (.getfield 211, 3) := by decide +kernel
theorem dX10_isWay_13 : decode cX10_isWay 13 = .ok (.if_icmp .ge 7, 3) := by decide +kernel
theorem dX10_isWay_16 : decode cX10_isWay 16 = .ok (.iconst 1, 1) := by decide +kernel
theorem dX10_isWay_17 : decode cX10_isWay 17 = .ok (.goto 4, 3) := by decide +kernel
theorem dX10_isWay_20 : decode cX10_isWay 20 = .ok (.iconst 0, 1) := by decide +kernel
theorem dX10_isWay_21 : decode cX10_isWay 21 = .ok (.ireturn, 1) := by decide +kernel
theorem dX10_at_0 : decode cX10_at 0 = .ok (.aload_n 0, 1) := by decide +kernel
theorem dX10_at_1 : decode cX10_at 1 = .ok (.getfield 83, 3) := by decide +kernel
theorem dX10_at_4 : decode cX10_at 4 = .ok (.bipush 14, 2) := by decide +kernel
theorem dX10_at_6 : decode cX10_at 6 = .ok (.iload_n 1, 1) := by decide +kernel
theorem dX10_at_7 : decode cX10_at 7 = .ok (.imul, 1) := by decide +kernel
theorem dX10_at_8 : decode cX10_at 8 = .ok (.iload_n 2, 1) := by decide +kernel
theorem dX10_at_9 : decode cX10_at 9 = .ok (.iadd, 1) := by decide +kernel
theorem dX10_at_10 : decode cX10_at 10 = .ok (.baload, 1) := by decide +kernel
theorem dX10_at_11 : decode cX10_at 11 = .ok (.ireturn, 1) := by decide +kernel
theorem dX10_person_0 : decode cX10_person 0 = .ok (.aload_n 0, 1) := by decide +kernel
theorem dX10_person_1 : decode cX10_person 1 = .ok (.iload_n 2, 1) := by decide +kernel
theorem dX10_person_2 : decode cX10_person 2 = .ok (.invokevirtual 153, 3) := by decide +kernel
theorem dX10_person_5 : decode cX10_person 5 = .ok (.ifCond .eq 11, 3) := by decide +kernel
theorem dX10_person_8 : decode cX10_person 8 = .ok (.aload_n 0, 1) := by decide +kernel
theorem dX10_person_9 : decode cX10_person 9 = .ok (.iload_n 1, 1) := by decide +kernel
theorem dX10_person_10 : decode cX10_person 10 = .ok (.invokevirtual 223, 3) := by decide +kernel
theorem dX10_person_13 : decode cX10_person 13 = .ok (.ifCond .ne 7, 3) := by decide +kernel
theorem dX10_person_16 : decode cX10_person 16 = .ok (.iconst (-1), 1) := by decide +kernel
theorem dX10_person_17 : decode cX10_person 17 = .ok (.goto 9, 3) := by decide +kernel
theorem dX10_person_20 : decode cX10_person 20 = .ok (.aload_n 0, 1) := by decide +kernel
theorem dX10_person_21 : decode cX10_person 21 = .ok (.iload_n 1, 1) := by decide +kernel
theorem dX10_person_22 : decode cX10_person 22 = .ok (.iload_n 2, 1) := by decide +kernel
theorem dX10_person_23 : decode cX10_person 23 = .ok (.invokevirtual 226, 3) := by decide +kernel
theorem dX10_person_26 : decode cX10_person 26 = .ok (.ireturn, 1) := by decide +kernel
theorem dX10_cost_0 : decode cX10_cost 0 = .ok (.aload_n 0, 1) := by decide +kernel
theorem dX10_cost_1 : decode cX10_cost 1 = .ok (.iload_n 1, 1) := by decide +kernel
theorem dX10_cost_2 : decode cX10_cost 2 = .ok (.invokevirtual 223, 3) := by decide +kernel
theorem dX10_cost_5 : decode cX10_cost 5 = .ok (.ifCond .eq 12, 3) := by decide +kernel
theorem dX10_cost_8 : decode cX10_cost 8 = .ok (.aload_n 0, 1) := by decide +kernel
theorem dX10_cost_9 : decode cX10_cost 9 = .ok (.getfield 87, 3) := by decide +kernel
theorem dX10_cost_12 : decode cX10_cost 12 = .ok (.iload_n 1, 1) := by decide +kernel
theorem dX10_cost_13 : decode cX10_cost 13 = .ok (.iaload, 1) := by decide +kernel
theorem dX10_cost_14 : decode cX10_cost 14 = .ok (.goto 4, 3) := by decide +kernel
theorem dX10_cost_17 : decode cX10_cost 17 = .ok (.iconst (-1), 1) := by decide +kernel
theorem dX10_cost_18 : decode cX10_cost 18 = .ok (.ireturn, 1) := by decide +kernel
theorem dX10_isLink_0 : decode cX10_isLink 0 = .ok (.aload_n 0, 1) := by decide +kernel
theorem dX10_isLink_1 : decode cX10_isLink 1 = .ok (.iload_n 1, 1) := by decide +kernel
theorem dX10_isLink_2 : decode cX10_isLink 2 = .ok (.invokevirtual 153, 3) := by decide +kernel
theorem dX10_isLink_5 : decode cX10_isLink 5 = .ok (.ifCond .eq 15, 3) := by decide +kernel
theorem dX10_isLink_8 : decode cX10_isLink 8 = .ok (.aload_n 0, 1) := by decide +kernel
theorem dX10_isLink_9 : decode cX10_isLink 9 = .ok (.iload_n 2, 1) := by decide +kernel
theorem dX10_isLink_10 : decode cX10_isLink 10 = .ok (.invokevirtual 153, 3) := by decide +kernel
theorem dX10_isLink_13 : decode cX10_isLink 13 = .ok (.ifCond .eq 7, 3) := by decide +kernel
theorem dX10_isLink_16 : decode cX10_isLink 16 = .ok (.iconst 1, 1) := by decide +kernel
theorem dX10_isLink_17 : decode cX10_isLink 17 = .ok (.goto 4, 3) := by decide +kernel
theorem dX10_isLink_20 : decode cX10_isLink 20 = .ok (.iconst 0, 1) := by decide +kernel
theorem dX10_isLink_21 : decode cX10_isLink 21 = .ok (.ireturn, 1) := by decide +kernel
theorem dX10_link_0 : decode cX10_link 0 = .ok (.aload_n 0, 1) := by decide +kernel
theorem dX10_link_1 : decode cX10_link 1 = .ok (.iload_n 1, 1) := by decide +kernel
theorem dX10_link_2 : decode cX10_link 2 = .ok (.iload_n 2, 1) := by decide +kernel
theorem dX10_link_3 : decode cX10_link 3 = .ok (.invokevirtual 229, 3) := by decide +kernel
theorem dX10_link_6 : decode cX10_link 6 = .ok (.ifCond .eq 11, 3) := by decide +kernel
theorem dX10_link_9 : decode cX10_link 9 = .ok (.aload_n 0, 1) := by decide +kernel
theorem dX10_link_10 : decode cX10_link 10 = .ok (.iconst 0, 1) := by decide +kernel
theorem dX10_link_11 : decode cX10_link 11 = .ok (.invokevirtual 223, 3) := by decide +kernel
theorem dX10_link_14 : decode cX10_link 14 = .ok (.ifCond .ne 5, 3) := by decide +kernel
theorem dX10_link_17 : decode cX10_link 17 = .ok (.iconst (-1), 1) := by decide +kernel
theorem dX10_link_18 : decode cX10_link 18 = .ok (.ireturn, 1) := by decide +kernel
theorem dX10_link_19 : decode cX10_link 19 = .ok (.iconst 0, 1) := by decide +kernel
theorem dX10_link_20 : decode cX10_link 20 = .ok (.istore_n 3, 1) := by decide +kernel
theorem dX10_link_21 : decode cX10_link 21 = .ok (.iconst 0, 1) := by decide +kernel
theorem dX10_link_22 : decode cX10_link 22 = .ok (.istore 4, 2) := by decide +kernel
theorem dX10_link_24 : decode cX10_link 24 = .ok (.iload 4, 2) := by decide +kernel
theorem dX10_link_26 : decode cX10_link 26 = .ok (.aload_n 0, 1) := by decide +kernel
theorem dX10_link_27 : decode cX10_link 27 = .ok (.getfield 211, 3) := by decide +kernel
theorem dX10_link_30 : decode cX10_link 30 = .ok (.if_icmp .ge 34, 3) := by decide +kernel
theorem dX10_link_33 : decode cX10_link 33 = .ok (.iload_n 3, 1) := by decide +kernel
theorem dX10_link_34 : decode cX10_link 34 = .ok (.aload_n 0, 1) := by decide +kernel
theorem dX10_link_35 : decode cX10_link 35 = .ok (.iload 4, 2) := by decide +kernel
theorem dX10_link_37 : decode cX10_link 37 = .ok (.iload_n 1, 1) := by decide +kernel
theorem dX10_link_38 : decode cX10_link 38 = .ok (.invokevirtual 226, 3) := by decide +kernel
theorem dX10_link_41 : decode cX10_link 41 = .ok (.aload_n 0, 1) := by decide +kernel
theorem dX10_link_42 : decode cX10_link 42 = .ok (.iload 4, 2) := by decide +kernel
theorem dX10_link_44 : decode cX10_link 44 = .ok (.iload_n 2, 1) := by decide +kernel
theorem dX10_link_45 : decode cX10_link 45 = .ok (.invokevirtual 226, 3) := by decide +kernel
theorem dX10_link_48 : decode cX10_link 48 = .ok (.if_icmp .ne 7, 3) := by decide +kernel
theorem dX10_link_51 : decode cX10_link 51 = .ok (.iconst 1, 1) := by decide +kernel
theorem dX10_link_52 : decode cX10_link 52 = .ok (.goto 4, 3) := by decide +kernel
theorem dX10_link_55 : decode cX10_link 55 = .ok (.iconst 0, 1) := by decide +kernel
theorem dX10_link_56 : decode cX10_link 56 = .ok (.iadd, 1) := by decide +kernel
theorem dX10_link_57 : decode cX10_link 57 = .ok (.istore_n 3, 1) := by decide +kernel
theorem dX10_link_58 : decode cX10_link 58 = .ok (.iinc 4 1, 3) := by decide +kernel
theorem dX10_link_61 : decode cX10_link 61 = .ok (.goto (-37), 3) := by decide +kernel
theorem dX10_link_64 : decode cX10_link 64 = .ok (.iload_n 3, 1) := by decide +kernel
theorem dX10_link_65 : decode cX10_link 65 = .ok (.ifCond .ne 7, 3) := by decide +kernel
theorem dX10_link_68 : decode cX10_link 68 = .ok (.iconst 0, 1) := by decide +kernel
theorem dX10_link_69 : decode cX10_link 69 = .ok (.goto 16, 3) := by decide +kernel
theorem dX10_link_72 : decode cX10_link 72 = .ok (.iload_n 3, 1) := by decide +kernel
theorem dX10_link_73 : decode cX10_link 73 = .ok (.aload_n 0, 1) := by decide +kernel
theorem dX10_link_74 : decode cX10_link 74 = .ok (.getfield 211, 3) := by decide +kernel
theorem dX10_link_77 : decode cX10_link 77 = .ok (.if_icmp .ne 7, 3) := by decide +kernel
theorem dX10_link_80 : decode cX10_link 80 = .ok (.iconst 1, 1) := by decide +kernel
theorem dX10_link_81 : decode cX10_link 81 = .ok (.goto 4, 3) := by decide +kernel
theorem dX10_link_84 : decode cX10_link 84 = .ok (.iconst 2, 1) := by decide +kernel
theorem dX10_link_85 : decode cX10_link 85 = .ok (.ireturn, 1) := by decide +kernel
theorem dX10_first_0 : decode cX10_first 0 = .ok (.aload_n 0, 1) := by decide +kernel
theorem dX10_first_1 : decode cX10_first 1 = .ok (.iload_n 1, 1) := by decide +kernel
theorem dX10_first_2 : decode cX10_first 2 = .ok (.iload_n 2, 1) := by decide +kernel
theorem dX10_first_3 : decode cX10_first 3 = .ok (.invokevirtual 229, 3) := by decide +kernel
theorem dX10_first_6 : decode cX10_first 6 = .ok (.ifCond .eq 11, 3) := by decide +kernel
theorem dX10_first_9 : decode cX10_first 9 = .ok (.aload_n 0, 1) := by decide +kernel
theorem dX10_first_10 : decode cX10_first 10 = .ok (.iconst 0, 1) := by decide +kernel
theorem dX10_first_11 : decode cX10_first 11 = .ok (.invokevirtual 223, 3) := by decide +kernel
theorem dX10_first_14 : decode cX10_first 14 = .ok (.ifCond .ne 5, 3) := by decide +kernel
theorem dX10_first_17 : decode cX10_first 17 = .ok (.iconst (-1), 1) := by decide +kernel
theorem dX10_first_18 : decode cX10_first 18 = .ok (.ireturn, 1) := by decide +kernel
theorem dX10_first_19 : decode cX10_first 19 = .ok (.iconst 0, 1) := by decide +kernel
theorem dX10_first_20 : decode cX10_first 20 = .ok (.istore 4, 2) := by decide +kernel
theorem dX10_first_22 : decode cX10_first 22 = .ok (.iload 4, 2) := by decide +kernel
theorem dX10_first_24 : decode cX10_first 24 = .ok (.aload_n 0, 1) := by decide +kernel
theorem dX10_first_25 : decode cX10_first 25 = .ok (.getfield 211, 3) := by decide +kernel
theorem dX10_first_28 : decode cX10_first 28 = .ok (.if_icmp .ge 38, 3) := by decide +kernel
theorem dX10_first_31 : decode cX10_first 31 = .ok (.aload_n 0, 1) := by decide +kernel
theorem dX10_first_32 : decode cX10_first 32 = .ok (.iload 4, 2) := by decide +kernel
theorem dX10_first_34 : decode cX10_first 34 = .ok (.iload_n 1, 1) := by decide +kernel
theorem dX10_first_35 : decode cX10_first 35 = .ok (.invokevirtual 226, 3) := by decide +kernel
theorem dX10_first_38 : decode cX10_first 38 = .ok (.aload_n 0, 1) := by decide +kernel
theorem dX10_first_39 : decode cX10_first 39 = .ok (.iload 4, 2) := by decide +kernel
theorem dX10_first_41 : decode cX10_first 41 = .ok (.iload_n 2, 1) := by decide +kernel
theorem dX10_first_42 : decode cX10_first 42 = .ok (.invokevirtual 226, 3) := by decide +kernel
theorem dX10_first_45 : decode cX10_first 45 = .ok (.if_icmp .ne 7, 3) := by decide +kernel
theorem dX10_first_48 : decode cX10_first 48 = .ok (.iconst 1, 1) := by decide +kernel
theorem dX10_first_49 : decode cX10_first 49 = .ok (.goto 4, 3) := by decide +kernel
theorem dX10_first_52 : decode cX10_first 52 = .ok (.iconst 0, 1) := by decide +kernel
theorem dX10_first_53 : decode cX10_first 53 = .ok (.iload_n 3, 1) := by decide +kernel
theorem dX10_first_54 : decode cX10_first 54 = .ok (.if_icmp .ne 6, 3) := by decide +kernel
theorem dX10_first_57 : decode cX10_first 57 = .ok (.iload 4, 2) := by decide +kernel
theorem dX10_first_59 : decode cX10_first 59 = .ok (.ireturn, 1) := by decide +kernel
theorem dX10_first_60 : decode cX10_first 60 = .ok (.iinc 4 1, 3) := by decide +kernel
theorem dX10_first_63 : decode cX10_first 63 = .ok (.goto (-41), 3) := by decide +kernel
theorem dX10_first_66 : decode cX10_first 66 = .ok (.iconst (-1), 1) := by decide +kernel
theorem dX10_first_67 : decode cX10_first 67 = .ok (.ireturn, 1) := by decide +kernel
theorem dX10_isSet_0 : decode cX10_isSet 0 = .ok (.aload_n 0, 1) := by decide +kernel
theorem dX10_isSet_1 : decode cX10_isSet 1 = .ok (.iconst 0, 1) := by decide +kernel
theorem dX10_isSet_2 : decode cX10_isSet 2 = .ok (.putfield 173, 3) := by decide +kernel
theorem dX10_isSet_5 : decode cX10_isSet 5 = .ok (.iconst 0, 1) := by decide +kernel
theorem dX10_isSet_6 : decode cX10_isSet 6 = .ok (.istore_n 2, 1) := by decide +kernel
theorem dX10_isSet_7 : decode cX10_isSet 7 = .ok (.iload_n 2, 1) := by decide +kernel
theorem dX10_isSet_8 : decode cX10_isSet 8 = .ok (.aload_n 0, 1) := by decide +kernel
theorem dX10_isSet_9 : decode cX10_isSet 9 = .ok (.getfield 114, 3) := by decide +kernel
theorem dX10_isSet_12 : decode cX10_isSet 12 = .ok (.if_icmp .ge 89, 3) := by decide +kernel
theorem dX10_isSet_15 : decode cX10_isSet 15 = .ok (.iload_n 1, 1) := by decide +kernel
theorem dX10_isSet_16 : decode cX10_isSet 16 = .ok (.iload_n 2, 1) := by decide +kernel
theorem dX10_isSet_17 : decode cX10_isSet 17 = .ok (.ishr, 1) := by decide +kernel
theorem dX10_isSet_18 : decode cX10_isSet 18 = .ok (.iconst 1, 1) := by decide +kernel
theorem dX10_isSet_19 : decode cX10_isSet 19 = .ok (.iand, 1) := by decide +kernel
theorem dX10_isSet_20 : decode cX10_isSet 20 = .ok (.ifCond .ne 6, 3) := by decide +kernel
theorem dX10_isSet_23 : decode cX10_isSet 23 = .ok (.goto 72, 3) := by decide +kernel
theorem dX10_isSet_26 : decode cX10_isSet 26 = .ok (.aload_n 0, 1) := by decide +kernel
theorem dX10_isSet_27 : decode cX10_isSet 27 = .ok (.getfield 16, 3) := by decide +kernel
theorem dX10_isSet_30 : decode cX10_isSet 30 = .ok (.iload_n 2, 1) := by decide +kernel
theorem dX10_isSet_31 : decode cX10_isSet 31 = .ok (.iaload, 1) := by decide +kernel
theorem dX10_isSet_32 : decode cX10_isSet 32 = .ok (.ifCond .lt 18, 3) := by decide +kernel
theorem dX10_isSet_35 : decode cX10_isSet 35 = .ok (.iload_n 1, 1) := by decide +kernel
theorem dX10_isSet_36 : decode cX10_isSet 36 = .ok (.aload_n 0, 1) := by decide +kernel
theorem dX10_isSet_37 : decode cX10_isSet 37 = .ok (.getfield 16, 3) := by decide +kernel
theorem dX10_isSet_40 : decode cX10_isSet 40 = .ok (.iload_n 2, 1) := by decide +kernel
theorem dX10_isSet_41 : decode cX10_isSet 41 = .ok (.iaload, 1) := by decide +kernel
theorem dX10_isSet_42 : decode cX10_isSet 42 = .ok (.ishr, 1) := by decide +kernel
theorem dX10_isSet_43 : decode cX10_isSet 43 = .ok (.iconst 1, 1) := by decide +kernel
theorem dX10_isSet_44 : decode cX10_isSet 44 = .ok (.iand, 1) := by decide +kernel
theorem dX10_isSet_45 : decode cX10_isSet 45 = .ok (.ifCond .ne 5, 3) := by decide +kernel
theorem dX10_isSet_48 : decode cX10_isSet 48 = .ok (.iconst 0, 1) := by decide +kernel
theorem dX10_isSet_49 : decode cX10_isSet 49 = .ok (.ireturn, 1) := by decide +kernel
theorem dX10_isSet_50 : decode cX10_isSet 50 = .ok (.aload_n 0, 1) := by decide +kernel
theorem dX10_isSet_51 : decode cX10_isSet 51 = .ok (.getfield 13, 3) := by decide +kernel
theorem dX10_isSet_54 : decode cX10_isSet 54 = .ok (.iload_n 2, 1) := by decide +kernel
theorem dX10_isSet_55 : decode cX10_isSet 55 = .ok (.iaload, 1) := by decide +kernel
theorem dX10_isSet_56 : decode cX10_isSet 56 = .ok (.istore_n 3, 1) := by decide +kernel
theorem dX10_isSet_57 : decode cX10_isSet 57 = .ok (.iload_n 3, 1) := by decide +kernel
theorem dX10_isSet_58 : decode cX10_isSet 58 = .ok (.aload_n 0, 1) := by decide +kernel
theorem dX10_isSet_59 : decode cX10_isSet 59 = .ok (.getfield 13, 3) := by decide +kernel
theorem dX10_isSet_62 : decode cX10_isSet 62 = .ok (.iload_n 2, 1) := by decide +kernel
theorem dX10_isSet_63 : decode cX10_isSet 63 = .ok (.iconst 1, 1) := by decide +kernel
theorem dX10_isSet_64 : decode cX10_isSet 64 = .ok (.iadd, 1) := by decide +kernel
theorem dX10_isSet_65 : decode cX10_isSet 65 = .ok (.iaload, 1) := by decide +kernel
theorem dX10_isSet_66 : decode cX10_isSet 66 = .ok (.if_icmp .ge 29, 3) := by decide +kernel
theorem dX10_isSet_69 : decode cX10_isSet 69 = .ok (.aload_n 0, 1) := by decide +kernel
theorem dX10_isSet_70 : decode cX10_isSet 70 = .ok (.getfield 70, 3) := by decide +kernel
theorem dX10_isSet_73 : decode cX10_isSet 73 = .ok (.aload_n 0, 1) := by decide +kernel
theorem dX10_isSet_74 : decode cX10_isSet 74 = .ok (.getfield 173, 3) := by decide +kernel
theorem dX10_isSet_77 : decode cX10_isSet 77 = .ok (.iload_n 3, 1) := by decide +kernel
theorem dX10_isSet_78 : decode cX10_isSet 78 = .ok (.iastore, 1) := by decide +kernel
theorem dX10_isSet_79 : decode cX10_isSet 79 = .ok (.aload_n 0, 1) := by decide +kernel
theorem dX10_isSet_80 : decode cX10_isSet 80 = .ok (.dup, 1) := by decide +kernel
theorem dX10_isSet_81 : decode cX10_isSet 81 = .ok (.getfield 173, 3) := by decide +kernel
theorem dX10_isSet_84 : decode cX10_isSet 84 = .ok (.iconst 1, 1) := by decide +kernel
theorem dX10_isSet_85 : decode cX10_isSet 85 = .ok (.iadd, 1) := by decide +kernel
theorem dX10_isSet_86 : decode cX10_isSet 86 = .ok (.putfield 173, 3) := by decide +kernel
theorem dX10_isSet_89 : decode cX10_isSet 89 = .ok (.iinc 3 1, 3) := by decide +kernel
theorem dX10_isSet_92 : decode cX10_isSet 92 = .ok (.goto (-35), 3) := by decide +kernel
theorem dX10_isSet_95 : decode cX10_isSet 95 = .ok (.iinc 2 1, 3) := by decide +kernel
theorem dX10_isSet_98 : decode cX10_isSet 98 = .ok (.goto (-91), 3) := by decide +kernel
theorem dX10_isSet_101 : decode cX10_isSet 101 = .ok (.iconst 1, 1) := by decide +kernel
theorem dX10_isSet_102 : decode cX10_isSet 102 = .ok (.ireturn, 1) := by decide +kernel
theorem dX10_bitsOf_0 : decode cX10_bitsOf 0 = .ok (.iconst 0, 1) := by decide +kernel
theorem dX10_bitsOf_1 : decode cX10_bitsOf 1 = .ok (.istore_n 1, 1) := by decide +kernel
theorem dX10_bitsOf_2 : decode cX10_bitsOf 2 = .ok (.iconst 0, 1) := by decide +kernel
theorem dX10_bitsOf_3 : decode cX10_bitsOf 3 = .ok (.istore_n 2, 1) := by decide +kernel
theorem dX10_bitsOf_4 : decode cX10_bitsOf 4 = .ok (.iload_n 2, 1) := by decide +kernel
theorem dX10_bitsOf_5 : decode cX10_bitsOf 5 = .ok (.bipush 8, 2) := by decide +kernel
theorem dX10_bitsOf_7 : decode cX10_bitsOf 7 = .ok (.if_icmp .ge 17, 3) := by decide +kernel
theorem dX10_bitsOf_10 : decode cX10_bitsOf 10 = .ok (.iload_n 1, 1) := by decide +kernel
theorem dX10_bitsOf_11 : decode cX10_bitsOf 11 = .ok (.iload_n 0, 1) := by decide +kernel
theorem dX10_bitsOf_12 : decode cX10_bitsOf 12 = .ok (.iload_n 2, 1) := by decide +kernel
theorem dX10_bitsOf_13 : decode cX10_bitsOf 13 = .ok (.ishr, 1) := by decide +kernel
theorem dX10_bitsOf_14 : decode cX10_bitsOf 14 = .ok (.iconst 1, 1) := by decide +kernel
theorem dX10_bitsOf_15 : decode cX10_bitsOf 15 = .ok (.iand, 1) := by decide +kernel
theorem dX10_bitsOf_16 : decode cX10_bitsOf 16 = .ok (.iadd, 1) := by decide +kernel
theorem dX10_bitsOf_17 : decode cX10_bitsOf 17 = .ok (.istore_n 1, 1) := by decide +kernel
theorem dX10_bitsOf_18 : decode cX10_bitsOf 18 = .ok (.iinc 2 1, 3) := by decide +kernel
theorem dX10_bitsOf_21 : decode cX10_bitsOf 21 = .ok (.goto (-17), 3) := by decide +kernel
theorem dX10_bitsOf_24 : decode cX10_bitsOf 24 = .ok (.iload_n 1, 1) := by decide +kernel
theorem dX10_bitsOf_25 : decode cX10_bitsOf 25 = .ok (.ireturn, 1) := by decide +kernel
theorem dX10_least_0 : decode cX10_least 0 = .ok (.iconst 0, 1) := by decide +kernel
theorem dX10_least_1 : decode cX10_least 1 = .ok (.istore_n 2, 1) := by decide +kernel
theorem dX10_least_2 : decode cX10_least 2 = .ok (.iload_n 2, 1) := by decide +kernel
theorem dX10_least_3 : decode cX10_least 3 = .ok (.aload_n 0, 1) := by decide +kernel
theorem dX10_least_4 : decode cX10_least 4 = .ok (.getfield 114, 3) := by decide +kernel
theorem dX10_least_7 : decode cX10_least 7 = .ok (.if_icmp .gt 127, 3) := by decide +kernel
theorem dX10_least_10 : decode cX10_least 10 = .ok (.iconst 0, 1) := by decide +kernel
theorem dX10_least_11 : decode cX10_least 11 = .ok (.istore_n 3, 1) := by decide +kernel
theorem dX10_least_12 : decode cX10_least 12 = .ok (.iload_n 3, 1) := by decide +kernel
theorem dX10_least_13 : decode cX10_least 13 = .ok (.iconst 1, 1) := by decide +kernel
theorem dX10_least_14 : decode cX10_least 14 = .ok (.aload_n 0, 1) := by decide +kernel
theorem dX10_least_15 : decode cX10_least 15 = .ok (.getfield 114, 3) := by decide +kernel
theorem dX10_least_18 : decode cX10_least 18 = .ok (.ishl, 1) := by decide +kernel
theorem dX10_least_19 : decode cX10_least 19 = .ok (.if_icmp .ge 109, 3) := by decide +kernel
theorem dX10_least_22 : decode cX10_least 22 = .ok (.iload_n 3, 1) := by decide +kernel
theorem dX10_least_23 : decode cX10_least 23 = .ok (.invokestatic 232, 3) := by decide +kernel
theorem dX10_least_26 : decode cX10_least 26 = .ok (.iload_n 2, 1) := by decide +kernel
theorem dX10_least_27 : decode cX10_least 27 = .ok (.if_icmp .ne 95, 3) := by decide +kernel
theorem dX10_least_30 : decode cX10_least 30 = .ok (.aload_n 0, 1) := by decide +kernel
theorem dX10_least_31 : decode cX10_least 31 = .ok (.iload_n 3, 1) := by decide +kernel
theorem dX10_least_32 : decode cX10_least 32 = .ok (.invokevirtual 235, 3) := by decide +kernel
theorem dX10_least_35 : decode cX10_least 35 = .ok (.ifCond .eq 87, 3) := by decide +kernel
theorem dX10_least_38 : decode cX10_least 38 = .ok (.iload_n 1, 1) := by decide +kernel
theorem dX10_least_39 : decode cX10_least 39 = .ok (.ifCond .ne 34, 3) := by decide +kernel
theorem dX10_least_42 : decode cX10_least 42 = .ok (.iload_n 3, 1) := by decide +kernel
theorem dX10_least_43 : decode cX10_least 43 = .ok (.aload_n 0, 1) := by decide +kernel
theorem dX10_least_44 : decode cX10_least 44 = .ok (.getfield 22, 3) := by decide +kernel
theorem dX10_least_47 : decode cX10_least 47 = .ok (.aload_n 0, 1) := by decide +kernel
theorem dX10_least_48 : decode cX10_least 48 = .ok (.getfield 176, 3) := by decide +kernel
theorem dX10_least_51 : decode cX10_least 51 = .ok (.iaload, 1) := by decide +kernel
theorem dX10_least_52 : decode cX10_least 52 = .ok (.ishr, 1) := by decide +kernel
theorem dX10_least_53 : decode cX10_least 53 = .ok (.iload_n 3, 1) := by decide +kernel
theorem dX10_least_54 : decode cX10_least 54 = .ok (.aload_n 0, 1) := by decide +kernel
theorem dX10_least_55 : decode cX10_least 55 = .ok (.getfield 22, 3) := by decide +kernel
theorem dX10_least_58 : decode cX10_least 58 = .ok (.aload_n 0, 1) := by decide +kernel
theorem dX10_least_59 : decode cX10_least 59 = .ok (.getfield 179, 3) := by decide +kernel
theorem dX10_least_62 : decode cX10_least 62 = .ok (.iaload, 1) := by decide +kernel
theorem dX10_least_63 : decode cX10_least 63 = .ok (.ishr, 1) := by decide +kernel
theorem dX10_least_64 : decode cX10_least 64 = .ok (.iand, 1) := by decide +kernel
theorem dX10_least_65 : decode cX10_least 65 = .ok (.iconst 1, 1) := by decide +kernel
theorem dX10_least_66 : decode cX10_least 66 = .ok (.iand, 1) := by decide +kernel
theorem dX10_least_67 : decode cX10_least 67 = .ok (.ifCond .ne 6, 3) := by decide +kernel
theorem dX10_least_70 : decode cX10_least 70 = .ok (.goto 52, 3) := by decide +kernel
theorem dX10_least_73 : decode cX10_least 73 = .ok (.aload_n 0, 1) := by decide +kernel
theorem dX10_least_74 : decode cX10_least 74 = .ok (.iconst 1, 1) := by decide +kernel
theorem dX10_least_75 : decode cX10_least 75 = .ok (.putfield 182, 3) := by decide +kernel
theorem dX10_least_78 : decode cX10_least 78 = .ok (.aload_n 0, 1) := by decide +kernel
theorem dX10_least_79 : decode cX10_least 79 = .ok (.iconst 1, 1) := by decide +kernel
theorem dX10_least_80 : decode cX10_least 80 = .ok (.invokevirtual 208, 3) := by decide +kernel
theorem dX10_least_83 : decode cX10_least 83 = .ok (.aload_n 0, 1) := by decide +kernel
theorem dX10_least_84 : decode cX10_least 84 = .ok (.getfield 191, 3) := by decide +kernel
theorem dX10_least_87 : decode cX10_least 87 = .ok (.ifCond .eq 5, 3) := by decide +kernel
theorem dX10_least_90 : decode cX10_least 90 = .ok (.iconst (-1), 1) := by decide +kernel
theorem dX10_least_91 : decode cX10_least 91 = .ok (.ireturn, 1) := by decide +kernel
theorem dX10_least_92 : decode cX10_least 92 = .ok (.iload_n 1, 1) := by decide +kernel
theorem dX10_least_93 : decode cX10_least 93 = .ok (.ifCond .eq 13, 3) := by decide +kernel
theorem dX10_least_96 : decode cX10_least 96 = .ok (.aload_n 0, 1) := by decide +kernel
theorem dX10_least_97 : decode cX10_least 97 = .ok (.getfield 185, 3) := by decide +kernel
theorem dX10_least_100 : decode cX10_least 100 = .ok (.ifCond .ne 22, 3) := by decide +kernel
theorem dX10_least_103 : decode cX10_least 103 = .ok (.goto 17, 3) := by decide +kernel
theorem dX10_least_106 : decode cX10_least 106 = .ok (.aload_n 0, 1) := by decide +kernel
theorem dX10_least_107 : decode cX10_least 107 = .ok (.getfield 185, 3) := by decide +kernel
theorem dX10_least_110 : decode cX10_least 110 = .ok (.ifCond .le 12, 3) := by decide +kernel
theorem dX10_least_113 : decode cX10_least 113 = .ok (.aload_n 0, 1) := by decide +kernel
theorem dX10_least_114 : decode cX10_least 114 = .ok (.getfield 182, 3) := by decide +kernel
theorem dX10_least_117 : decode cX10_least 117 = .ok (.ifCond .eq 5, 3) := by decide +kernel
theorem dX10_least_120 : decode cX10_least 120 = .ok (.iload_n 3, 1) := by decide +kernel
theorem dX10_least_121 : decode cX10_least 121 = .ok (.ireturn, 1) := by decide +kernel
theorem dX10_least_122 : decode cX10_least 122 = .ok (.iinc 3 1, 3) := by decide +kernel
theorem dX10_least_125 : decode cX10_least 125 = .ok (.goto (-113), 3) := by decide +kernel
theorem dX10_least_128 : decode cX10_least 128 = .ok (.iinc 2 1, 3) := by decide +kernel
theorem dX10_least_131 : decode cX10_least 131 = .ok (.goto (-129), 3) := by decide +kernel
theorem dX10_least_134 : decode cX10_least 134 = .ok (.iconst (-1), 1) := by decide +kernel
theorem dX10_least_135 : decode cX10_least 135 = .ok (.ireturn, 1) := by decide +kernel
theorem dX10_why_0 : decode cX10_why 0 = .ok (.aload_n 0, 1) := by decide +kernel
theorem dX10_why_1 : decode cX10_why 1 = .ok (.iload_n 1, 1) := by decide +kernel
theorem dX10_why_2 : decode cX10_why 2 = .ok (.iload_n 2, 1) := by decide +kernel
theorem dX10_why_3 : decode cX10_why 3 = .ok (.invokevirtual 238, 3) := by decide +kernel
theorem dX10_why_6 : decode cX10_why 6 = .ok (.iconst 1, 1) := by decide +kernel
theorem dX10_why_7 : decode cX10_why 7 = .ok (.if_icmp .eq 5, 3) := by decide +kernel
theorem dX10_why_10 : decode cX10_why 10 = .ok (.iconst (-1), 1) := by decide +kernel
theorem dX10_why_11 : decode cX10_why 11 = .ok (.ireturn, 1) := by decide +kernel
theorem dX10_why_12 : decode cX10_why 12 = .ok (.aload_n 0, 1) := by decide +kernel
theorem dX10_why_13 : decode cX10_why 13 = .ok (.iload_n 1, 1) := by decide +kernel
theorem dX10_why_14 : decode cX10_why 14 = .ok (.putfield 176, 3) := by decide +kernel
theorem dX10_why_17 : decode cX10_why 17 = .ok (.aload_n 0, 1) := by decide +kernel
theorem dX10_why_18 : decode cX10_why 18 = .ok (.iload_n 2, 1) := by decide +kernel
theorem dX10_why_19 : decode cX10_why 19 = .ok (.putfield 179, 3) := by decide +kernel
theorem dX10_why_22 : decode cX10_why 22 = .ok (.aload_n 0, 1) := by decide +kernel
theorem dX10_why_23 : decode cX10_why 23 = .ok (.iconst 0, 1) := by decide +kernel
theorem dX10_why_24 : decode cX10_why 24 = .ok (.invokevirtual 241, 3) := by decide +kernel
theorem dX10_why_27 : decode cX10_why 27 = .ok (.ireturn, 1) := by decide +kernel
theorem dX10_quarrel_0 : decode cX10_quarrel 0 = .ok (.aload_n 0, 1) := by decide +kernel
theorem dX10_quarrel_1 : decode cX10_quarrel 1 = .ok (.invokevirtual 245, 3) := by decide +kernel
theorem dX10_quarrel_4 : decode cX10_quarrel 4 = .ok (.ifCond .eq 5, 3) := by decide +kernel
theorem dX10_quarrel_7 : decode cX10_quarrel 7 = .ok (.iconst (-1), 1) := by decide +kernel
theorem dX10_quarrel_8 : decode cX10_quarrel 8 = .ok (.ireturn, 1) := by decide +kernel
theorem dX10_quarrel_9 : decode cX10_quarrel 9 = .ok (.aload_n 0, 1) := by decide +kernel
theorem dX10_quarrel_10 : decode cX10_quarrel 10 = .ok (.iconst (-1), 1) := by decide +kernel
theorem dX10_quarrel_11 : decode cX10_quarrel 11 = .ok (.putfield 176, 3) := by decide +kernel
theorem dX10_quarrel_14 : decode cX10_quarrel 14 = .ok (.aload_n 0, 1) := by decide +kernel
theorem dX10_quarrel_15 : decode cX10_quarrel 15 = .ok (.iconst (-1), 1) := by decide +kernel
theorem dX10_quarrel_16 : decode cX10_quarrel 16 = .ok (.putfield 179, 3) := by decide +kernel
theorem dX10_quarrel_19 : decode cX10_quarrel 19 = .ok (.aload_n 0, 1) := by decide +kernel
theorem dX10_quarrel_20 : decode cX10_quarrel 20 = .ok (.iconst 1, 1) := by decide +kernel
theorem dX10_quarrel_21 : decode cX10_quarrel 21 = .ok (.invokevirtual 241, 3) := by decide +kernel
theorem dX10_quarrel_24 : decode cX10_quarrel 24 = .ok (.ireturn, 1) := by decide +kernel
theorem dX10_parents_0 : decode cX10_parents 0 = .ok (.iconst 0, 1) := by decide +kernel
theorem dX10_parents_1 : decode cX10_parents 1 = .ok (.istore_n 2, 1) := by decide +kernel
theorem dX10_parents_2 : decode cX10_parents 2 = .ok (.iload_n 2, 1) := by decide +kernel
theorem dX10_parents_3 : decode cX10_parents 3 = .ok (.bipush 14, 2) := by decide +kernel
theorem dX10_parents_5 : decode cX10_parents 5 = .ok (.if_icmp .ge 23, 3) := by decide +kernel
theorem dX10_parents_8 : decode cX10_parents 8 = .ok (.aload_n 0, 1) := by decide +kernel
theorem dX10_parents_9 : decode cX10_parents 9 = .ok (.getfield 90, 3) := by decide +kernel
theorem dX10_parents_12 : decode cX10_parents 12 = .ok (.iload_n 2, 1) := by decide +kernel
theorem dX10_parents_13 : decode cX10_parents 13 = .ok (.iconst (-1), 1) := by decide +kernel
theorem dX10_parents_14 : decode cX10_parents 14 = .ok (.iastore, 1) := by decide +kernel
theorem dX10_parents_15 : decode cX10_parents 15 = .ok (.aload_n 0, 1) := by decide +kernel
theorem dX10_parents_16 : decode cX10_parents 16 = .ok (.getfield 93, 3) := by decide +kernel
theorem dX10_parents_19 : decode cX10_parents 19 = .ok (.iload_n 2, 1) := by decide +kernel
theorem dX10_parents_20 : decode cX10_parents 20 = .ok (.iconst (-1), 1) := by decide +kernel
theorem dX10_parents_21 : decode cX10_parents 21 = .ok (.iastore, 1) := by decide +kernel
theorem dX10_parents_22 : decode cX10_parents 22 = .ok (.iinc 2 1, 3) := by decide +kernel
theorem dX10_parents_25 : decode cX10_parents 25 = .ok (.goto (-23), 3) := by decide +kernel
theorem dX10_parents_28 : decode cX10_parents 28 = .ok (.iconst 0, 1) := by decide +kernel
theorem dX10_parents_29 : decode cX10_parents 29 = .ok (.istore_n 2, 1) := by decide +kernel
theorem dX10_parents_30 : decode cX10_parents 30 = .ok (.iload_n 2, 1) := by decide +kernel
theorem dX10_parents_31 : decode cX10_parents 31 = .ok (.aload_n 0, 1) := by decide +kernel
theorem dX10_parents_32 : decode cX10_parents 32 = .ok (.getfield 114, 3) := by decide +kernel
theorem dX10_parents_35 : decode cX10_parents 35 = .ok (.if_icmp .ge 88, 3) := by decide +kernel
theorem dX10_parents_38 : decode cX10_parents 38 = .ok (.aload_n 0, 1) := by decide +kernel
theorem dX10_parents_39 : decode cX10_parents 39 = .ok (.getfield 19, 3) := by decide +kernel
theorem dX10_parents_42 : decode cX10_parents 42 = .ok (.iload_n 2, 1) := by decide +kernel
theorem dX10_parents_43 : decode cX10_parents 43 = .ok (.iaload, 1) := by decide +kernel
theorem dX10_parents_44 : decode cX10_parents 44 = .ok (.ifCond .ne 73, 3) := by decide +kernel
theorem dX10_parents_47 : decode cX10_parents 47 = .ok (.aload_n 0, 1) := by decide +kernel
theorem dX10_parents_48 : decode cX10_parents 48 = .ok (.getfield 16, 3) := by decide +kernel
theorem dX10_parents_51 : decode cX10_parents 51 = .ok (.iload_n 2, 1) := by decide +kernel
theorem dX10_parents_52 : decode cX10_parents 52 = .ok (.iaload, 1) := by decide +kernel
theorem dX10_parents_53 : decode cX10_parents 53 = .ok (.ifCond .lt 6, 3) := by decide +kernel
theorem dX10_parents_56 : decode cX10_parents 56 = .ok (.goto 61, 3) := by decide +kernel
theorem dX10_parents_59 : decode cX10_parents 59 = .ok (.aload_n 0, 1) := by decide +kernel
theorem dX10_parents_60 : decode cX10_parents 60 = .ok (.getfield 90, 3) := by decide +kernel
theorem dX10_parents_63 : decode cX10_parents 63 = .ok (.aload_n 0, 1) := by decide +kernel
theorem dX10_parents_64 : decode cX10_parents 64 = .ok (.iload_n 1, 1) := by decide +kernel
theorem dX10_parents_65 : decode cX10_parents 65 = .ok (.aload_n 0, 1) := by decide +kernel
theorem dX10_parents_66 : decode cX10_parents 66 = .ok (.getfield 13, 3) := by decide +kernel
theorem dX10_parents_69 : decode cX10_parents 69 = .ok (.iload_n 2, 1) := by decide +kernel
theorem dX10_parents_70 : decode cX10_parents 70 = .ok (.iaload, 1) := by decide +kernel
theorem dX10_parents_71 : decode cX10_parents 71 = .ok (.invokevirtual 226, 3) := by decide +kernel
theorem dX10_parents_74 : decode cX10_parents 74 = .ok (.aload_n 0, 1) := by decide +kernel
theorem dX10_parents_75 : decode cX10_parents 75 = .ok (.iload_n 1, 1) := by decide +kernel
theorem dX10_parents_76 : decode cX10_parents 76 = .ok (.aload_n 0, 1) := by decide +kernel
theorem dX10_parents_77 : decode cX10_parents 77 = .ok (.getfield 13, 3) := by decide +kernel
theorem dX10_parents_80 : decode cX10_parents 80 = .ok (.iload_n 2, 1) := by decide +kernel
theorem dX10_parents_81 : decode cX10_parents 81 = .ok (.iaload, 1) := by decide +kernel
theorem dX10_parents_82 : decode cX10_parents 82 = .ok (.iconst 1, 1) := by decide +kernel
theorem dX10_parents_83 : decode cX10_parents 83 = .ok (.iadd, 1) := by decide +kernel
theorem dX10_parents_84 : decode cX10_parents 84 = .ok (.invokevirtual 226, 3) := by decide +kernel
theorem dX10_parents_87 : decode cX10_parents 87 = .ok (.iastore, 1) := by decide +kernel
theorem dX10_parents_88 : decode cX10_parents 88 = .ok (.aload_n 0, 1) := by decide +kernel
theorem dX10_parents_89 : decode cX10_parents 89 = .ok (.getfield 93, 3) := by decide +kernel
theorem dX10_parents_92 : decode cX10_parents 92 = .ok (.aload_n 0, 1) := by decide +kernel
theorem dX10_parents_93 : decode cX10_parents 93 = .ok (.iload_n 1, 1) := by decide +kernel
theorem dX10_parents_94 : decode cX10_parents 94 = .ok (.aload_n 0, 1) := by decide +kernel
theorem dX10_parents_95 : decode cX10_parents 95 = .ok (.getfield 13, 3) := by decide +kernel
theorem dX10_parents_98 : decode cX10_parents 98 = .ok (.iload_n 2, 1) := by decide +kernel
theorem dX10_parents_99 : decode cX10_parents 99 = .ok (.iaload, 1) := by decide +kernel
theorem dX10_parents_100 : decode cX10_parents 100 = .ok (.invokevirtual 226, 3) := by decide +kernel
theorem dX10_parents_103 : decode cX10_parents 103 = .ok (.aload_n 0, 1) := by decide +kernel
theorem dX10_parents_104 : decode cX10_parents 104 = .ok (.iload_n 1, 1) := by decide +kernel
theorem dX10_parents_105 : decode cX10_parents 105 = .ok (.aload_n 0, 1) := by decide +kernel
theorem dX10_parents_106 : decode cX10_parents 106 = .ok (.getfield 13, 3) := by decide +kernel
theorem dX10_parents_109 : decode cX10_parents 109 = .ok (.iload_n 2, 1) := by decide +kernel
theorem dX10_parents_110 : decode cX10_parents 110 = .ok (.iaload, 1) := by decide +kernel
theorem dX10_parents_111 : decode cX10_parents 111 = .ok (.iconst 2, 1) := by decide +kernel
theorem dX10_parents_112 : decode cX10_parents 112 = .ok (.iadd, 1) := by decide +kernel
theorem dX10_parents_113 : decode cX10_parents 113 = .ok (.invokevirtual 226, 3) := by decide +kernel
theorem dX10_parents_116 : decode cX10_parents 116 = .ok (.iastore, 1) := by decide +kernel
theorem dX10_parents_117 : decode cX10_parents 117 = .ok (.iinc 2 1, 3) := by decide +kernel
theorem dX10_parents_120 : decode cX10_parents 120 = .ok (.goto (-90), 3) := by decide +kernel
theorem dX10_parents_123 : decode cX10_parents 123 = .ok (.return_, 1) := by decide +kernel
theorem dX10_up_0 : decode cX10_up 0 = .ok (.iconst 0, 1) := by decide +kernel
theorem dX10_up_1 : decode cX10_up 1 = .ok (.istore_n 2, 1) := by decide +kernel
theorem dX10_up_2 : decode cX10_up 2 = .ok (.iconst 0, 1) := by decide +kernel
theorem dX10_up_3 : decode cX10_up 3 = .ok (.istore_n 3, 1) := by decide +kernel
theorem dX10_up_4 : decode cX10_up 4 = .ok (.iload_n 3, 1) := by decide +kernel
theorem dX10_up_5 : decode cX10_up 5 = .ok (.bipush 14, 2) := by decide +kernel
theorem dX10_up_7 : decode cX10_up 7 = .ok (.if_icmp .ge 60, 3) := by decide +kernel
theorem dX10_up_10 : decode cX10_up 10 = .ok (.iload_n 1, 1) := by decide +kernel
theorem dX10_up_11 : decode cX10_up 11 = .ok (.iload_n 3, 1) := by decide +kernel
theorem dX10_up_12 : decode cX10_up 12 = .ok (.ishr, 1) := by decide +kernel
theorem dX10_up_13 : decode cX10_up 13 = .ok (.iconst 1, 1) := by decide +kernel
theorem dX10_up_14 : decode cX10_up 14 = .ok (.iand, 1) := by decide +kernel
theorem dX10_up_15 : decode cX10_up 15 = .ok (.ifCond .ne 6, 3) := by decide +kernel
theorem dX10_up_18 : decode cX10_up 18 = .ok (.goto 43, 3) := by decide +kernel
theorem dX10_up_21 : decode cX10_up 21 = .ok (.aload_n 0, 1) := by decide +kernel
theorem dX10_up_22 : decode cX10_up 22 = .ok (.getfield 90, 3) := by decide +kernel
theorem dX10_up_25 : decode cX10_up 25 = .ok (.iload_n 3, 1) := by decide +kernel
theorem dX10_up_26 : decode cX10_up 26 = .ok (.iaload, 1) := by decide +kernel
theorem dX10_up_27 : decode cX10_up 27 = .ok (.ifCond .lt 14, 3) := by decide +kernel
theorem dX10_up_30 : decode cX10_up 30 = .ok (.iload_n 2, 1) := by decide +kernel
theorem dX10_up_31 : decode cX10_up 31 = .ok (.iconst 1, 1) := by decide +kernel
theorem dX10_up_32 : decode cX10_up 32 = .ok (.aload_n 0, 1) := by decide +kernel
theorem dX10_up_33 : decode cX10_up 33 = .ok (.getfield 90, 3) := by decide +kernel
theorem dX10_up_36 : decode cX10_up 36 = .ok (.iload_n 3, 1) := by decide +kernel
theorem dX10_up_37 : decode cX10_up 37 = .ok (.iaload, 1) := by decide +kernel
theorem dX10_up_38 : decode cX10_up 38 = .ok (.ishl, 1) := by decide +kernel
theorem dX10_up_39 : decode cX10_up 39 = .ok (.ior, 1) := by decide +kernel
theorem dX10_up_40 : decode cX10_up 40 = .ok (.istore_n 2, 1) := by decide +kernel
theorem dX10_up_41 : decode cX10_up 41 = .ok (.aload_n 0, 1) := by decide +kernel
theorem dX10_up_42 : decode cX10_up 42 = .ok (.getfield 93, 3) := by decide +kernel
theorem dX10_up_45 : decode cX10_up 45 = .ok (.iload_n 3, 1) := by decide +kernel
theorem dX10_up_46 : decode cX10_up 46 = .ok (.iaload, 1) := by decide +kernel
theorem dX10_up_47 : decode cX10_up 47 = .ok (.ifCond .lt 14, 3) := by decide +kernel
theorem dX10_up_50 : decode cX10_up 50 = .ok (.iload_n 2, 1) := by decide +kernel
theorem dX10_up_51 : decode cX10_up 51 = .ok (.iconst 1, 1) := by decide +kernel
theorem dX10_up_52 : decode cX10_up 52 = .ok (.aload_n 0, 1) := by decide +kernel
theorem dX10_up_53 : decode cX10_up 53 = .ok (.getfield 93, 3) := by decide +kernel
theorem dX10_up_56 : decode cX10_up 56 = .ok (.iload_n 3, 1) := by decide +kernel
theorem dX10_up_57 : decode cX10_up 57 = .ok (.iaload, 1) := by decide +kernel
theorem dX10_up_58 : decode cX10_up 58 = .ok (.ishl, 1) := by decide +kernel
theorem dX10_up_59 : decode cX10_up 59 = .ok (.ior, 1) := by decide +kernel
theorem dX10_up_60 : decode cX10_up 60 = .ok (.istore_n 2, 1) := by decide +kernel
theorem dX10_up_61 : decode cX10_up 61 = .ok (.iinc 3 1, 3) := by decide +kernel
theorem dX10_up_64 : decode cX10_up 64 = .ok (.goto (-60), 3) := by decide +kernel
theorem dX10_up_67 : decode cX10_up 67 = .ok (.iload_n 2, 1) := by decide +kernel
theorem dX10_up_68 : decode cX10_up 68 = .ok (.ireturn, 1) := by decide +kernel
theorem dX10_down_0 : decode cX10_down 0 = .ok (.iconst 0, 1) := by decide +kernel
theorem dX10_down_1 : decode cX10_down 1 = .ok (.istore_n 2, 1) := by decide +kernel
theorem dX10_down_2 : decode cX10_down 2 = .ok (.iconst 0, 1) := by decide +kernel
theorem dX10_down_3 : decode cX10_down 3 = .ok (.istore_n 3, 1) := by decide +kernel
theorem dX10_down_4 : decode cX10_down 4 = .ok (.iload_n 3, 1) := by decide +kernel
theorem dX10_down_5 : decode cX10_down 5 = .ok (.bipush 14, 2) := by decide +kernel
theorem dX10_down_7 : decode cX10_down 7 = .ok (.if_icmp .ge 61, 3) := by decide +kernel
theorem dX10_down_10 : decode cX10_down 10 = .ok (.aload_n 0, 1) := by decide +kernel
theorem dX10_down_11 : decode cX10_down 11 = .ok (.getfield 90, 3) := by decide +kernel
theorem dX10_down_14 : decode cX10_down 14 = .ok (.iload_n 3, 1) := by decide +kernel
theorem dX10_down_15 : decode cX10_down 15 = .ok (.iaload, 1) := by decide +kernel
theorem dX10_down_16 : decode cX10_down 16 = .ok (.ifCond .lt 17, 3) := by decide +kernel
theorem dX10_down_19 : decode cX10_down 19 = .ok (.iload_n 1, 1) := by decide +kernel
theorem dX10_down_20 : decode cX10_down 20 = .ok (.aload_n 0, 1) := by decide +kernel
theorem dX10_down_21 : decode cX10_down 21 = .ok (.getfield 90, 3) := by decide +kernel
theorem dX10_down_24 : decode cX10_down 24 = .ok (.iload_n 3, 1) := by decide +kernel
theorem dX10_down_25 : decode cX10_down 25 = .ok (.iaload, 1) := by decide +kernel
theorem dX10_down_26 : decode cX10_down 26 = .ok (.ishr, 1) := by decide +kernel
theorem dX10_down_27 : decode cX10_down 27 = .ok (.iconst 1, 1) := by decide +kernel
theorem dX10_down_28 : decode cX10_down 28 = .ok (.iand, 1) := by decide +kernel
theorem dX10_down_29 : decode cX10_down 29 = .ok (.iconst 1, 1) := by decide +kernel
theorem dX10_down_30 : decode cX10_down 30 = .ok (.if_icmp .eq 26, 3) := by decide +kernel
theorem dX10_down_33 : decode cX10_down 33 = .ok (.aload_n 0, 1) := by decide +kernel
theorem dX10_down_34 : decode cX10_down 34 = .ok (.getfield 93, 3) := by decide +kernel
theorem dX10_down_37 : decode cX10_down 37 = .ok (.iload_n 3, 1) := by decide +kernel
theorem dX10_down_38 : decode cX10_down 38 = .ok (.iaload, 1) := by decide +kernel
theorem dX10_down_39 : decode cX10_down 39 = .ok (.ifCond .lt 23, 3) := by decide +kernel
theorem dX10_down_42 : decode cX10_down 42 = .ok (.iload_n 1, 1) := by decide +kernel
theorem dX10_down_43 : decode cX10_down 43 = .ok (.aload_n 0, 1) := by decide +kernel
theorem dX10_down_44 : decode cX10_down 44 = .ok (.getfield 93, 3) := by decide +kernel
theorem dX10_down_47 : decode cX10_down 47 = .ok (.iload_n 3, 1) := by decide +kernel
theorem dX10_down_48 : decode cX10_down 48 = .ok (.iaload, 1) := by decide +kernel
theorem dX10_down_49 : decode cX10_down 49 = .ok (.ishr, 1) := by decide +kernel
theorem dX10_down_50 : decode cX10_down 50 = .ok (.iconst 1, 1) := by decide +kernel
theorem dX10_down_51 : decode cX10_down 51 = .ok (.iand, 1) := by decide +kernel
theorem dX10_down_52 : decode cX10_down 52 = .ok (.iconst 1, 1) := by decide +kernel
theorem dX10_down_53 : decode cX10_down 53 = .ok (.if_icmp .ne 9, 3) := by decide +kernel
theorem dX10_down_56 : decode cX10_down 56 = .ok (.iload_n 2, 1) := by decide +kernel
theorem dX10_down_57 : decode cX10_down 57 = .ok (.iconst 1, 1) := by decide +kernel
theorem dX10_down_58 : decode cX10_down 58 = .ok (.iload_n 3, 1) := by decide +kernel
theorem dX10_down_59 : decode cX10_down 59 = .ok (.ishl, 1) := by decide +kernel
theorem dX10_down_60 : decode cX10_down 60 = .ok (.ior, 1) := by decide +kernel
theorem dX10_down_61 : decode cX10_down 61 = .ok (.istore_n 2, 1) := by decide +kernel
theorem dX10_down_62 : decode cX10_down 62 = .ok (.iinc 3 1, 3) := by decide +kernel
theorem dX10_down_65 : decode cX10_down 65 = .ok (.goto (-61), 3) := by decide +kernel
theorem dX10_down_68 : decode cX10_down 68 = .ok (.iload_n 2, 1) := by decide +kernel
theorem dX10_down_69 : decode cX10_down 69 = .ok (.ireturn, 1) := by decide +kernel
theorem dX10_kinOf_0 : decode cX10_kinOf 0 = .ok (.aload_n 0, 1) := by decide +kernel
theorem dX10_kinOf_1 : decode cX10_kinOf 1 = .ok (.iload_n 1, 1) := by decide +kernel
theorem dX10_kinOf_2 : decode cX10_kinOf 2 = .ok (.invokevirtual 248, 3) := by decide +kernel
theorem dX10_kinOf_5 : decode cX10_kinOf 5 = .ok (.iconst (-1), 1) := by decide +kernel
theorem dX10_kinOf_6 : decode cX10_kinOf 6 = .ok (.istore 4, 2) := by decide +kernel
theorem dX10_kinOf_8 : decode cX10_kinOf 8 = .ok (.sipush 1000, 3) := by decide +kernel
theorem dX10_kinOf_11 : decode cX10_kinOf 11 = .ok (.istore 5, 2) := by decide +kernel
theorem dX10_kinOf_13 : decode cX10_kinOf 13 = .ok (.iconst 1, 1) := by decide +kernel
theorem dX10_kinOf_14 : decode cX10_kinOf 14 = .ok (.iload_n 2, 1) := by decide +kernel
theorem dX10_kinOf_15 : decode cX10_kinOf 15 = .ok (.ishl, 1) := by decide +kernel
theorem dX10_kinOf_16 : decode cX10_kinOf 16 = .ok (.istore 6, 2) := by decide +kernel
theorem dX10_kinOf_18 : decode cX10_kinOf 18 = .ok (.iconst 0, 1) := by decide +kernel
theorem dX10_kinOf_19 : decode cX10_kinOf 19 = .ok (.istore 7, 2) := by decide +kernel
theorem dX10_kinOf_21 : decode cX10_kinOf 21 = .ok (.iload 7, 2) := by decide +kernel
theorem dX10_kinOf_23 : decode cX10_kinOf 23 = .ok (.bipush 10, 2) := by decide +kernel
theorem dX10_kinOf_25 : decode cX10_kinOf 25 = .ok (.if_icmp .gt 92, 3) := by decide +kernel
theorem dX10_kinOf_28 : decode cX10_kinOf 28 = .ok (.iload 6, 2) := by decide +kernel
theorem dX10_kinOf_30 : decode cX10_kinOf 30 = .ok (.ifCond .eq 87, 3) := by decide +kernel
theorem dX10_kinOf_33 : decode cX10_kinOf 33 = .ok (.iload 6, 2) := by decide +kernel
theorem dX10_kinOf_35 : decode cX10_kinOf 35 = .ok (.istore 8, 2) := by decide +kernel
theorem dX10_kinOf_37 : decode cX10_kinOf 37 = .ok (.iconst 0, 1) := by decide +kernel
theorem dX10_kinOf_38 : decode cX10_kinOf 38 = .ok (.istore 9, 2) := by decide +kernel
theorem dX10_kinOf_40 : decode cX10_kinOf 40 = .ok (.iload 9, 2) := by decide +kernel
theorem dX10_kinOf_42 : decode cX10_kinOf 42 = .ok (.bipush 10, 2) := by decide +kernel
theorem dX10_kinOf_44 : decode cX10_kinOf 44 = .ok (.if_icmp .gt 59, 3) := by decide +kernel
theorem dX10_kinOf_47 : decode cX10_kinOf 47 = .ok (.iload 8, 2) := by decide +kernel
theorem dX10_kinOf_49 : decode cX10_kinOf 49 = .ok (.ifCond .eq 54, 3) := by decide +kernel
theorem dX10_kinOf_52 : decode cX10_kinOf 52 = .ok (.iload 8, 2) := by decide +kernel
theorem dX10_kinOf_54 : decode cX10_kinOf 54 = .ok (.iload_n 3, 1) := by decide +kernel
theorem dX10_kinOf_55 : decode cX10_kinOf 55 = .ok (.ishr, 1) := by decide +kernel
theorem dX10_kinOf_56 : decode cX10_kinOf 56 = .ok (.iconst 1, 1) := by decide +kernel
theorem dX10_kinOf_57 : decode cX10_kinOf 57 = .ok (.iand, 1) := by decide +kernel
theorem dX10_kinOf_58 : decode cX10_kinOf 58 = .ok (.iconst 1, 1) := by decide +kernel
theorem dX10_kinOf_59 : decode cX10_kinOf 59 = .ok (.if_icmp .ne 30, 3) := by decide +kernel
theorem dX10_kinOf_62 : decode cX10_kinOf 62 = .ok (.iload 7, 2) := by decide +kernel
theorem dX10_kinOf_64 : decode cX10_kinOf 64 = .ok (.iload 9, 2) := by decide +kernel
theorem dX10_kinOf_66 : decode cX10_kinOf 66 = .ok (.iadd, 1) := by decide +kernel
theorem dX10_kinOf_67 : decode cX10_kinOf 67 = .ok (.iload 5, 2) := by decide +kernel
theorem dX10_kinOf_69 : decode cX10_kinOf 69 = .ok (.if_icmp .ge 20, 3) := by decide +kernel
theorem dX10_kinOf_72 : decode cX10_kinOf 72 = .ok (.iload 7, 2) := by decide +kernel
theorem dX10_kinOf_74 : decode cX10_kinOf 74 = .ok (.iload 9, 2) := by decide +kernel
theorem dX10_kinOf_76 : decode cX10_kinOf 76 = .ok (.iadd, 1) := by decide +kernel
theorem dX10_kinOf_77 : decode cX10_kinOf 77 = .ok (.istore 5, 2) := by decide +kernel
theorem dX10_kinOf_79 : decode cX10_kinOf 79 = .ok (.bipush 100, 2) := by decide +kernel
theorem dX10_kinOf_81 : decode cX10_kinOf 81 = .ok (.iload 7, 2) := by decide +kernel
theorem dX10_kinOf_83 : decode cX10_kinOf 83 = .ok (.imul, 1) := by decide +kernel
theorem dX10_kinOf_84 : decode cX10_kinOf 84 = .ok (.iload 9, 2) := by decide +kernel
theorem dX10_kinOf_86 : decode cX10_kinOf 86 = .ok (.iadd, 1) := by decide +kernel
theorem dX10_kinOf_87 : decode cX10_kinOf 87 = .ok (.istore 4, 2) := by decide +kernel
theorem dX10_kinOf_89 : decode cX10_kinOf 89 = .ok (.aload_n 0, 1) := by decide +kernel
theorem dX10_kinOf_90 : decode cX10_kinOf 90 = .ok (.iload 8, 2) := by decide +kernel
theorem dX10_kinOf_92 : decode cX10_kinOf 92 = .ok (.invokevirtual 251, 3) := by decide +kernel
theorem dX10_kinOf_95 : decode cX10_kinOf 95 = .ok (.istore 8, 2) := by decide +kernel
theorem dX10_kinOf_97 : decode cX10_kinOf 97 = .ok (.iinc 9 1, 3) := by decide +kernel
theorem dX10_kinOf_100 : decode cX10_kinOf 100 = .ok (.goto (-60), 3) := by decide +kernel
theorem dX10_kinOf_103 : decode cX10_kinOf 103 = .ok (.aload_n 0, 1) := by decide +kernel
theorem dX10_kinOf_104 : decode cX10_kinOf 104 = .ok (.iload 6, 2) := by decide +kernel
theorem dX10_kinOf_106 : decode cX10_kinOf 106 = .ok (.invokevirtual 254, 3) := by decide +kernel
theorem dX10_kinOf_109 : decode cX10_kinOf 109 = .ok (.istore 6, 2) := by decide +kernel
theorem dX10_kinOf_111 : decode cX10_kinOf 111 = .ok (.iinc 7 1, 3) := by decide +kernel
theorem dX10_kinOf_114 : decode cX10_kinOf 114 = .ok (.goto (-93), 3) := by decide +kernel
theorem dX10_kinOf_117 : decode cX10_kinOf 117 = .ok (.iload 4, 2) := by decide +kernel
theorem dX10_kinOf_119 : decode cX10_kinOf 119 = .ok (.ireturn, 1) := by decide +kernel
theorem dX10_kin_0 : decode cX10_kin 0 = .ok (.aload_n 0, 1) := by decide +kernel
theorem dX10_kin_1 : decode cX10_kin 1 = .ok (.iload_n 2, 1) := by decide +kernel
theorem dX10_kin_2 : decode cX10_kin 2 = .ok (.invokevirtual 153, 3) := by decide +kernel
theorem dX10_kin_5 : decode cX10_kin 5 = .ok (.ifCond .eq 19, 3) := by decide +kernel
theorem dX10_kin_8 : decode cX10_kin 8 = .ok (.aload_n 0, 1) := by decide +kernel
theorem dX10_kin_9 : decode cX10_kin 9 = .ok (.iload_n 3, 1) := by decide +kernel
theorem dX10_kin_10 : decode cX10_kin 10 = .ok (.invokevirtual 153, 3) := by decide +kernel
theorem dX10_kin_13 : decode cX10_kin 13 = .ok (.ifCond .eq 11, 3) := by decide +kernel
theorem dX10_kin_16 : decode cX10_kin 16 = .ok (.aload_n 0, 1) := by decide +kernel
theorem dX10_kin_17 : decode cX10_kin 17 = .ok (.iload_n 1, 1) := by decide +kernel
theorem dX10_kin_18 : decode cX10_kin 18 = .ok (.invokevirtual 223, 3) := by decide +kernel
theorem dX10_kin_21 : decode cX10_kin 21 = .ok (.ifCond .ne 7, 3) := by decide +kernel
theorem dX10_kin_24 : decode cX10_kin 24 = .ok (.iconst (-1), 1) := by decide +kernel
theorem dX10_kin_25 : decode cX10_kin 25 = .ok (.goto 20, 3) := by decide +kernel
theorem dX10_kin_28 : decode cX10_kin 28 = .ok (.aload_n 0, 1) := by decide +kernel
theorem dX10_kin_29 : decode cX10_kin 29 = .ok (.iload_n 1, 1) := by decide +kernel
theorem dX10_kin_30 : decode cX10_kin 30 = .ok (.aload_n 0, 1) := by decide +kernel
theorem dX10_kin_31 : decode cX10_kin 31 = .ok (.iload_n 1, 1) := by decide +kernel
theorem dX10_kin_32 : decode cX10_kin 32 = .ok (.iload_n 2, 1) := by decide +kernel
theorem dX10_kin_33 : decode cX10_kin 33 = .ok (.invokevirtual 226, 3) := by decide +kernel
theorem dX10_kin_36 : decode cX10_kin 36 = .ok (.aload_n 0, 1) := by decide +kernel
theorem dX10_kin_37 : decode cX10_kin 37 = .ok (.iload_n 1, 1) := by decide +kernel
theorem dX10_kin_38 : decode cX10_kin 38 = .ok (.iload_n 3, 1) := by decide +kernel
theorem dX10_kin_39 : decode cX10_kin 39 = .ok (.invokevirtual 226, 3) := by decide +kernel
theorem dX10_kin_42 : decode cX10_kin 42 = .ok (.invokevirtual 257, 3) := by decide +kernel
theorem dX10_kin_45 : decode cX10_kin 45 = .ok (.ireturn, 1) := by decide +kernel
theorem dX10_always_0 : decode cX10_always 0 = .ok (.aload_n 0, 1) := by decide +kernel
theorem dX10_always_1 : decode cX10_always 1 = .ok (.iload_n 1, 1) := by decide +kernel
theorem dX10_always_2 : decode cX10_always 2 = .ok (.invokevirtual 153, 3) := by decide +kernel
theorem dX10_always_5 : decode cX10_always 5 = .ok (.ifCond .eq 19, 3) := by decide +kernel
theorem dX10_always_8 : decode cX10_always 8 = .ok (.aload_n 0, 1) := by decide +kernel
theorem dX10_always_9 : decode cX10_always 9 = .ok (.iload_n 2, 1) := by decide +kernel
theorem dX10_always_10 : decode cX10_always 10 = .ok (.invokevirtual 153, 3) := by decide +kernel
theorem dX10_always_13 : decode cX10_always 13 = .ok (.ifCond .eq 11, 3) := by decide +kernel
theorem dX10_always_16 : decode cX10_always 16 = .ok (.aload_n 0, 1) := by decide +kernel
theorem dX10_always_17 : decode cX10_always 17 = .ok (.iconst 0, 1) := by decide +kernel
theorem dX10_always_18 : decode cX10_always 18 = .ok (.invokevirtual 223, 3) := by decide +kernel
theorem dX10_always_21 : decode cX10_always 21 = .ok (.ifCond .ne 6, 3) := by decide +kernel
theorem dX10_always_24 : decode cX10_always 24 = .ok (.bipush (-3), 2) := by decide +kernel
theorem dX10_always_26 : decode cX10_always 26 = .ok (.ireturn, 1) := by decide +kernel
theorem dX10_always_27 : decode cX10_always 27 = .ok (.aload_n 0, 1) := by decide +kernel
theorem dX10_always_28 : decode cX10_always 28 = .ok (.iconst 0, 1) := by decide +kernel
theorem dX10_always_29 : decode cX10_always 29 = .ok (.aload_n 0, 1) := by decide +kernel
theorem dX10_always_30 : decode cX10_always 30 = .ok (.iconst 0, 1) := by decide +kernel
theorem dX10_always_31 : decode cX10_always 31 = .ok (.iload_n 1, 1) := by decide +kernel
theorem dX10_always_32 : decode cX10_always 32 = .ok (.invokevirtual 226, 3) := by decide +kernel
theorem dX10_always_35 : decode cX10_always 35 = .ok (.aload_n 0, 1) := by decide +kernel
theorem dX10_always_36 : decode cX10_always 36 = .ok (.iconst 0, 1) := by decide +kernel
theorem dX10_always_37 : decode cX10_always 37 = .ok (.iload_n 2, 1) := by decide +kernel
theorem dX10_always_38 : decode cX10_always 38 = .ok (.invokevirtual 226, 3) := by decide +kernel
theorem dX10_always_41 : decode cX10_always 41 = .ok (.invokevirtual 257, 3) := by decide +kernel
theorem dX10_always_44 : decode cX10_always 44 = .ok (.istore_n 3, 1) := by decide +kernel
theorem dX10_always_45 : decode cX10_always 45 = .ok (.iconst 1, 1) := by decide +kernel
theorem dX10_always_46 : decode cX10_always 46 = .ok (.istore 4, 2) := by decide +kernel
theorem dX10_always_48 : decode cX10_always 48 = .ok (.iload 4, 2) := by decide +kernel
theorem dX10_always_50 : decode cX10_always 50 = .ok (.aload_n 0, 1) := by decide +kernel
theorem dX10_always_51 : decode cX10_always 51 = .ok (.getfield 211, 3) := by decide +kernel
theorem dX10_always_54 : decode cX10_always 54 = .ok (.if_icmp .ge 36, 3) := by decide +kernel
theorem dX10_always_57 : decode cX10_always 57 = .ok (.aload_n 0, 1) := by decide +kernel
theorem dX10_always_58 : decode cX10_always 58 = .ok (.iload 4, 2) := by decide +kernel
theorem dX10_always_60 : decode cX10_always 60 = .ok (.aload_n 0, 1) := by decide +kernel
theorem dX10_always_61 : decode cX10_always 61 = .ok (.iload 4, 2) := by decide +kernel
theorem dX10_always_63 : decode cX10_always 63 = .ok (.iload_n 1, 1) := by decide +kernel
theorem dX10_always_64 : decode cX10_always 64 = .ok (.invokevirtual 226, 3) := by decide +kernel
theorem dX10_always_67 : decode cX10_always 67 = .ok (.aload_n 0, 1) := by decide +kernel
theorem dX10_always_68 : decode cX10_always 68 = .ok (.iload 4, 2) := by decide +kernel
theorem dX10_always_70 : decode cX10_always 70 = .ok (.iload_n 2, 1) := by decide +kernel
theorem dX10_always_71 : decode cX10_always 71 = .ok (.invokevirtual 226, 3) := by decide +kernel
theorem dX10_always_74 : decode cX10_always 74 = .ok (.invokevirtual 257, 3) := by decide +kernel
theorem dX10_always_77 : decode cX10_always 77 = .ok (.iload_n 3, 1) := by decide +kernel
theorem dX10_always_78 : decode cX10_always 78 = .ok (.if_icmp .eq 6, 3) := by decide +kernel
theorem dX10_always_81 : decode cX10_always 81 = .ok (.bipush (-2), 2) := by decide +kernel
theorem dX10_always_83 : decode cX10_always 83 = .ok (.ireturn, 1) := by decide +kernel
theorem dX10_always_84 : decode cX10_always 84 = .ok (.iinc 4 1, 3) := by decide +kernel
theorem dX10_always_87 : decode cX10_always 87 = .ok (.goto (-39), 3) := by decide +kernel
theorem dX10_always_90 : decode cX10_always 90 = .ok (.iload_n 3, 1) := by decide +kernel
theorem dX10_always_91 : decode cX10_always 91 = .ok (.ireturn, 1) := by decide +kernel
theorem dX10_about_0 : decode cX10_about 0 = .ok (.iload_n 1, 1) := by decide +kernel
theorem dX10_about_1 : decode cX10_about 1 = .ok (.tableswitch 105 0 9 #[55, 60, 65, 70, 75, 80, 85, 90, 95, 100], 55) := by decide +kernel
theorem dX10_about_56 : decode cX10_about 56 = .ok (.aload_n 0, 1) := by decide +kernel
theorem dX10_about_57 : decode cX10_about 57 = .ok (.getfield 114, 3) := by decide +kernel
theorem dX10_about_60 : decode cX10_about 60 = .ok (.ireturn, 1) := by decide +kernel
theorem dX10_about_61 : decode cX10_about 61 = .ok (.aload_n 0, 1) := by decide +kernel
theorem dX10_about_62 : decode cX10_about 62 = .ok (.getfield 117, 3) := by decide +kernel
theorem dX10_about_65 : decode cX10_about 65 = .ok (.ireturn, 1) := by decide +kernel
theorem dX10_about_66 : decode cX10_about 66 = .ok (.aload_n 0, 1) := by decide +kernel
theorem dX10_about_67 : decode cX10_about 67 = .ok (.getfield 147, 3) := by decide +kernel
theorem dX10_about_70 : decode cX10_about 70 = .ok (.ireturn, 1) := by decide +kernel
theorem dX10_about_71 : decode cX10_about 71 = .ok (.aload_n 0, 1) := by decide +kernel
theorem dX10_about_72 : decode cX10_about 72 = .ok (.getfield 217, 3) := by decide +kernel
theorem dX10_about_75 : decode cX10_about 75 = .ok (.ireturn, 1) := by decide +kernel
theorem dX10_about_76 : decode cX10_about 76 = .ok (.aload_n 0, 1) := by decide +kernel
theorem dX10_about_77 : decode cX10_about 77 = .ok (.getfield 48, 3) := by decide +kernel
theorem dX10_about_80 : decode cX10_about 80 = .ok (.ireturn, 1) := by decide +kernel
theorem dX10_about_81 : decode cX10_about 81 = .ok (.aload_n 0, 1) := by decide +kernel
theorem dX10_about_82 : decode cX10_about 82 = .ok (.getfield 52, 3) := by decide +kernel
theorem dX10_about_85 : decode cX10_about 85 = .ok (.ireturn, 1) := by decide +kernel
theorem dX10_about_86 : decode cX10_about 86 = .ok (.aload_n 0, 1) := by decide +kernel
theorem dX10_about_87 : decode cX10_about 87 = .ok (.getfield 55, 3) := by decide +kernel
theorem dX10_about_90 : decode cX10_about 90 = .ok (.ireturn, 1) := by decide +kernel
theorem dX10_about_91 : decode cX10_about 91 = .ok (.aload_n 0, 1) := by decide +kernel
theorem dX10_about_92 : decode cX10_about 92 = .ok (.getfield 58, 3) := by decide +kernel
theorem dX10_about_95 : decode cX10_about 95 = .ok (.ireturn, 1) := by decide +kernel
theorem dX10_about_96 : decode cX10_about 96 = .ok (.aload_n 0, 1) := by decide +kernel
theorem dX10_about_97 : decode cX10_about 97 = .ok (.getfield 61, 3) := by decide +kernel
theorem dX10_about_100 : decode cX10_about 100 = .ok (.ireturn, 1) := by decide +kernel
theorem dX10_about_101 : decode cX10_about 101 = .ok (.aload_n 0, 1) := by decide +kernel
theorem dX10_about_102 : decode cX10_about 102 = .ok (.getfield 150, 3) := by decide +kernel
theorem dX10_about_105 : decode cX10_about 105 = .ok (.ireturn, 1) := by decide +kernel
theorem dX10_about_106 : decode cX10_about 106 = .ok (.iconst (-1), 1) := by decide +kernel
theorem dX10_about_107 : decode cX10_about 107 = .ok (.ireturn, 1) := by decide +kernel
