/-! MODULE 62: the law, case by case. -/
theorem lL_15 : VOK R_law 15 mX9_birth 5 := ⟨Or.inl (gmem 417 (by decide +kernel)), gmem 418 (by decide +kernel), gmem 419 (by decide +kernel), gmem 48 (by decide +kernel), kcX9_birth, by decide, by decide, by decide +kernel⟩
theorem lL_20 : VOK R_law 20 mX9_found 3 := ⟨Or.inl (gmem 460 (by decide +kernel)), gmem 461 (by decide +kernel), gmem 462 (by decide +kernel), gmem 48 (by decide +kernel), kcX9_found, by decide, by decide, by decide +kernel⟩
theorem lL_25 : VOK R_law 25 mX9_wedding 3 := ⟨Or.inl (gmem 471 (by decide +kernel)), gmem 472 (by decide +kernel), gmem 473 (by decide +kernel), gmem 48 (by decide +kernel), kcX9_wedding, by decide, by decide, by decide +kernel⟩
theorem lL_30 : VOK R_law 30 mX9_death 4 := ⟨Or.inl (gmem 475 (by decide +kernel)), gmem 476 (by decide +kernel), gmem 477 (by decide +kernel), gmem 48 (by decide +kernel), kcX9_death, by decide, by decide, by decide +kernel⟩
theorem lL_35 : VOK R_law 35 mX9_list 4 := ⟨Or.inl (gmem 479 (by decide +kernel)), gmem 480 (by decide +kernel), gmem 481 (by decide +kernel), gmem 48 (by decide +kernel), kcX9_list, by decide, by decide, by decide +kernel⟩
theorem lL_39 : VOK R_law 39 mX9_witness 5 := ⟨Or.inl (gmem 483 (by decide +kernel)), gmem 484 (by decide +kernel), gmem 485 (by decide +kernel), gmem 48 (by decide +kernel), kcX9_witness, by decide, by decide, by decide +kernel⟩
theorem lL_44 : VOK R_law 44 mX9_copy 4 := ⟨Or.inl (gmem 487 (by decide +kernel)), gmem 488 (by decide +kernel), gmem 489 (by decide +kernel), gmem 48 (by decide +kernel), kcX9_copy, by decide, by decide, by decide +kernel⟩
theorem lL_49 : VOK R_law 49 mX9_drop 0 := ⟨Or.inl (gmem 518 (by decide +kernel)), gmem 519 (by decide +kernel), gmem 520 (by decide +kernel), gmem 48 (by decide +kernel), kcX9_drop, by decide, by decide, by decide +kernel⟩
theorem lL_54 : VOK R_law 54 mX9_laws 5 := ⟨Or.inl (gmem 526 (by decide +kernel)), gmem 527 (by decide +kernel), gmem 528 (by decide +kernel), gmem 48 (by decide +kernel), kcX9_laws, by decide, by decide, by decide +kernel⟩
theorem lL_59 : VOK R_law 59 mX9_sound 3 := ⟨Or.inl (gmem 534 (by decide +kernel)), gmem 535 (by decide +kernel), gmem 536 (by decide +kernel), gmem 48 (by decide +kernel), kcX9_sound, by decide, by decide, by decide +kernel⟩
theorem lL_64 : VOK R_law 64 mX9_budget 2 := ⟨Or.inl (gmem 546 (by decide +kernel)), gmem 547 (by decide +kernel), gmem 548 (by decide +kernel), gmem 48 (by decide +kernel), kcX9_budget, by decide, by decide, by decide +kernel⟩
theorem lL_69 : VOK R_law 69 mX9_far 2 := ⟨Or.inl (gmem 554 (by decide +kernel)), gmem 555 (by decide +kernel), gmem 556 (by decide +kernel), gmem 48 (by decide +kernel), kcX9_far, by decide, by decide, by decide +kernel⟩
theorem lL_74 : VOK R_law 74 mX9_role 2 := ⟨Or.inl (gmem 569 (by decide +kernel)), gmem 570 (by decide +kernel), gmem 571 (by decide +kernel), gmem 48 (by decide +kernel), kcX9_role, by decide, by decide, by decide +kernel⟩
theorem lL_79 : VOK R_law 79 mX9_ways 0 := ⟨Or.inl (gmem 574 (by decide +kernel)), gmem 575 (by decide +kernel), gmem 576 (by decide +kernel), gmem 48 (by decide +kernel), kcX9_ways, by decide, by decide, by decide +kernel⟩
theorem lL_84 : VOK R_law 84 mX9_person 2 := ⟨Or.inl (gmem 690 (by decide +kernel)), gmem 691 (by decide +kernel), gmem 692 (by decide +kernel), gmem 48 (by decide +kernel), kcX9_person, by decide, by decide, by decide +kernel⟩
theorem lL_88 : VOK R_law 88 mX9_cost 1 := ⟨Or.inl (gmem 705 (by decide +kernel)), gmem 706 (by decide +kernel), gmem 707 (by decide +kernel), gmem 48 (by decide +kernel), kcX9_cost, by decide, by decide, by decide +kernel⟩
theorem lL_93 : VOK R_law 93 mX9_link 2 := ⟨Or.inl (gmem 713 (by decide +kernel)), gmem 714 (by decide +kernel), gmem 715 (by decide +kernel), gmem 48 (by decide +kernel), kcX9_link, by decide, by decide, by decide +kernel⟩
theorem lL_97 : VOK R_law 97 mX9_first 3 := ⟨Or.inl (gmem 735 (by decide +kernel)), gmem 736 (by decide +kernel), gmem 737 (by decide +kernel), gmem 48 (by decide +kernel), kcX9_first, by decide, by decide, by decide +kernel⟩
theorem lL_102 : VOK R_law 102 mX9_why 2 := ⟨Or.inl (gmem 739 (by decide +kernel)), gmem 740 (by decide +kernel), gmem 741 (by decide +kernel), gmem 48 (by decide +kernel), kcX9_why, by decide, by decide, by decide +kernel⟩
theorem lL_106 : VOK R_law 106 mX9_quarrel 0 := ⟨Or.inl (gmem 776 (by decide +kernel)), gmem 777 (by decide +kernel), gmem 778 (by decide +kernel), gmem 48 (by decide +kernel), kcX9_quarrel, by decide, by decide, by decide +kernel⟩
theorem lL_110 : VOK R_law 110 mX9_kin 3 := ⟨Or.inl (gmem 784 (by decide +kernel)), gmem 785 (by decide +kernel), gmem 786 (by decide +kernel), gmem 48 (by decide +kernel), kcX9_kin, by decide, by decide, by decide +kernel⟩
theorem lL_115 : VOK R_law 115 mX9_always 2 := ⟨Or.inl (gmem 802 (by decide +kernel)), gmem 803 (by decide +kernel), gmem 804 (by decide +kernel), gmem 48 (by decide +kernel), kcX9_always, by decide, by decide, by decide +kernel⟩
theorem lL_119 : VOK R_law 119 mX9_about 1 := ⟨Or.inl (gmem 806 (by decide +kernel)), gmem 807 (by decide +kernel), gmem 808 (by decide +kernel), gmem 48 (by decide +kernel), kcX9_about, by decide, by decide, by decide +kernel⟩
theorem lL_73 : VOK R_law 73 mX10_far 2 := ⟨Or.inl (gmem 945 (by decide +kernel)), gmem 946 (by decide +kernel), gmem 947 (by decide +kernel), gmem 58 (by decide +kernel), kcX10_far, by decide, by decide, by decide +kernel⟩
theorem lL_19 : VOK R_law 19 mX10_birth 5 := ⟨Or.inl (gmem 963 (by decide +kernel)), gmem 964 (by decide +kernel), gmem 965 (by decide +kernel), gmem 58 (by decide +kernel), kcX10_birth, by decide, by decide, by decide +kernel⟩
theorem lL_24 : VOK R_law 24 mX10_found 3 := ⟨Or.inl (gmem 982 (by decide +kernel)), gmem 983 (by decide +kernel), gmem 984 (by decide +kernel), gmem 58 (by decide +kernel), kcX10_found, by decide, by decide, by decide +kernel⟩
theorem lL_29 : VOK R_law 29 mX10_wedding 3 := ⟨Or.inl (gmem 986 (by decide +kernel)), gmem 987 (by decide +kernel), gmem 988 (by decide +kernel), gmem 58 (by decide +kernel), kcX10_wedding, by decide, by decide, by decide +kernel⟩
theorem lL_34 : VOK R_law 34 mX10_death 4 := ⟨Or.inl (gmem 990 (by decide +kernel)), gmem 991 (by decide +kernel), gmem 992 (by decide +kernel), gmem 58 (by decide +kernel), kcX10_death, by decide, by decide, by decide +kernel⟩
theorem lL_38 : VOK R_law 38 mX10_list 4 := ⟨Or.inl (gmem 1001 (by decide +kernel)), gmem 1002 (by decide +kernel), gmem 1003 (by decide +kernel), gmem 58 (by decide +kernel), kcX10_list, by decide, by decide, by decide +kernel⟩
theorem lL_43 : VOK R_law 43 mX10_witness 5 := ⟨Or.inl (gmem 1005 (by decide +kernel)), gmem 1006 (by decide +kernel), gmem 1007 (by decide +kernel), gmem 58 (by decide +kernel), kcX10_witness, by decide, by decide, by decide +kernel⟩
theorem lL_48 : VOK R_law 48 mX10_copy 4 := ⟨Or.inl (gmem 1009 (by decide +kernel)), gmem 1010 (by decide +kernel), gmem 1011 (by decide +kernel), gmem 58 (by decide +kernel), kcX10_copy, by decide, by decide, by decide +kernel⟩
theorem lL_53 : VOK R_law 53 mX10_drop 0 := ⟨Or.inl (gmem 1013 (by decide +kernel)), gmem 1014 (by decide +kernel), gmem 1015 (by decide +kernel), gmem 58 (by decide +kernel), kcX10_drop, by decide, by decide, by decide +kernel⟩
theorem lL_58 : VOK R_law 58 mX10_laws 5 := ⟨Or.inl (gmem 1017 (by decide +kernel)), gmem 1018 (by decide +kernel), gmem 1019 (by decide +kernel), gmem 58 (by decide +kernel), kcX10_laws, by decide, by decide, by decide +kernel⟩
theorem lL_63 : VOK R_law 63 mX10_sound 3 := ⟨Or.inl (gmem 1021 (by decide +kernel)), gmem 1022 (by decide +kernel), gmem 1023 (by decide +kernel), gmem 58 (by decide +kernel), kcX10_sound, by decide, by decide, by decide +kernel⟩
theorem lL_68 : VOK R_law 68 mX10_budget 2 := ⟨Or.inl (gmem 1025 (by decide +kernel)), gmem 1026 (by decide +kernel), gmem 1027 (by decide +kernel), gmem 58 (by decide +kernel), kcX10_budget, by decide, by decide, by decide +kernel⟩
theorem lL_78 : VOK R_law 78 mX10_role 2 := ⟨Or.inl (gmem 1029 (by decide +kernel)), gmem 1030 (by decide +kernel), gmem 1031 (by decide +kernel), gmem 58 (by decide +kernel), kcX10_role, by decide, by decide, by decide +kernel⟩
theorem lL_83 : VOK R_law 83 mX10_ways 0 := ⟨Or.inl (gmem 1037 (by decide +kernel)), gmem 1038 (by decide +kernel), gmem 1039 (by decide +kernel), gmem 58 (by decide +kernel), kcX10_ways, by decide, by decide, by decide +kernel⟩
theorem lL_87 : VOK R_law 87 mX10_person 2 := ⟨Or.inl (gmem 1086 (by decide +kernel)), gmem 1087 (by decide +kernel), gmem 1088 (by decide +kernel), gmem 58 (by decide +kernel), kcX10_person, by decide, by decide, by decide +kernel⟩
theorem lL_92 : VOK R_law 92 mX10_cost 1 := ⟨Or.inl (gmem 1098 (by decide +kernel)), gmem 1099 (by decide +kernel), gmem 1100 (by decide +kernel), gmem 58 (by decide +kernel), kcX10_cost, by decide, by decide, by decide +kernel⟩
theorem lL_96 : VOK R_law 96 mX10_link 2 := ⟨Or.inl (gmem 1102 (by decide +kernel)), gmem 1103 (by decide +kernel), gmem 1104 (by decide +kernel), gmem 58 (by decide +kernel), kcX10_link, by decide, by decide, by decide +kernel⟩
theorem lL_101 : VOK R_law 101 mX10_first 3 := ⟨Or.inl (gmem 1110 (by decide +kernel)), gmem 1111 (by decide +kernel), gmem 1112 (by decide +kernel), gmem 58 (by decide +kernel), kcX10_first, by decide, by decide, by decide +kernel⟩
theorem lL_105 : VOK R_law 105 mX10_why 2 := ⟨Or.inl (gmem 1114 (by decide +kernel)), gmem 1115 (by decide +kernel), gmem 1116 (by decide +kernel), gmem 58 (by decide +kernel), kcX10_why, by decide, by decide, by decide +kernel⟩
theorem lL_109 : VOK R_law 109 mX10_quarrel 0 := ⟨Or.inl (gmem 1130 (by decide +kernel)), gmem 1131 (by decide +kernel), gmem 1132 (by decide +kernel), gmem 58 (by decide +kernel), kcX10_quarrel, by decide, by decide, by decide +kernel⟩
theorem lL_114 : VOK R_law 114 mX10_kin 3 := ⟨Or.inl (gmem 1135 (by decide +kernel)), gmem 1136 (by decide +kernel), gmem 1137 (by decide +kernel), gmem 58 (by decide +kernel), kcX10_kin, by decide, by decide, by decide +kernel⟩
theorem lL_118 : VOK R_law 118 mX10_always 2 := ⟨Or.inl (gmem 1155 (by decide +kernel)), gmem 1156 (by decide +kernel), gmem 1157 (by decide +kernel), gmem 58 (by decide +kernel), kcX10_always, by decide, by decide, by decide +kernel⟩
theorem lL_122 : VOK R_law 122 mX10_about 1 := ⟨Or.inl (gmem 1159 (by decide +kernel)), gmem 1160 (by decide +kernel), gmem 1161 (by decide +kernel), gmem 58 (by decide +kernel), kcX10_about, by decide, by decide, by decide +kernel⟩
theorem kLL_13 : Cond.constantLong R_law 13 4294967295 ∈ goodTbl := gmem 1163 (by decide +kernel)
abbrev lgv (x y : Int32) : Int64 := lshl (Int32.ofInt x.toInt).toInt64 32 ||| ((Int32.ofInt y.toInt).toInt64 &&& 4294967295)
theorem p_witness {y s t : Int} {c m : Int64} (y1 : -2147483648 ≤ y) (y2 : y < 2147483648) (s1 : -2147483648 ≤ s) (s2 : s < 2147483648) (t1 : -2147483648 ≤ t) (t2 : t < 2147483648) : Pair mX9_witness mX10_witness [vi y, vi s, vl c, vi t, vl m] := by
  by_cases ht : t = -1
  · subst ht; exact p_witness1 y1 y2 s1 s2
  · exact p_witness2 ht y1 y2 s1 s2 t1 t2
theorem cs_0 {L : Nat} {xs : Nat → Int32} (hLL : L ≤ 4608) {i : Nat} (hi : i + 9 ≤ L) (next : ∀ MC MM, Inv MC MM → GL L xs 1515 [some (vr 0), some (vr 1), some (vr 2), some (vi (i : Int))] [] MC MM) {MC MM : Mem} (hI : Inv MC MM) : GL L xs 140 [some (vr 0), some (vr 1), some (vr 2), some (vi (i : Int))] [] MC MM := by
  obtain ⟨P1, P2, w1, w2, hj⟩ := p_birth (y := (xs (i + 1)).toInt) (s := (xs (i + 2)).toInt) (c := lgv (xs (i + 3)) (xs (i + 4))) (m := lgv (xs (i + 5)) (xs (i + 6))) (f := lgv (xs (i + 7)) (xs (i + 8))) (x32 _).1 (x32 _).2 (x32 _).1 (x32 _).2 MC MM hI
  refine h_aload_n dL_law_140 rfl rfl ?_
  refine h_aload_n dL_law_141 rfl rfl ?_
  refine h_iload_n dL_law_142 rfl rfl ?_
  refine h_iconst dL_law_143 ?_
  refine h_iadd dL_law_144 ?_
  refine h_sld (i + 1) hLL dL_law_145 (by omega) (by omega) ?_
  refine h_aload_n dL_law_146 rfl rfl ?_
  refine h_iload_n dL_law_147 rfl rfl ?_
  refine h_iconst dL_law_148 ?_
  refine h_iadd dL_law_149 ?_
  refine h_sld (i + 2) hLL dL_law_150 (by omega) (by omega) ?_
  refine h_aload_n dL_law_151 rfl rfl ?_
  refine h_iload_n dL_law_152 rfl rfl ?_
  refine h_iconst dL_law_153 ?_
  refine h_iadd dL_law_154 ?_
  refine h_sld (i + 3) hLL dL_law_155 (by omega) (by omega) ?_
  refine h_i2l dL_law_156 rfl ?_
  refine h_bipush dL_law_157 rfl ?_
  refine h_lshl dL_law_159 ?_
  refine h_aload_n dL_law_160 rfl rfl ?_
  refine h_iload_n dL_law_161 rfl rfl ?_
  refine h_iconst dL_law_162 ?_
  refine h_iadd dL_law_163 ?_
  refine h_sld (i + 4) hLL dL_law_164 (by omega) (by omega) ?_
  refine h_i2l dL_law_165 rfl ?_
  refine h_ldc2 dL_law_166 kLL_13 ?_
  refine h_land dL_law_169 ?_
  refine h_lor dL_law_170 ?_
  refine h_aload_n dL_law_171 rfl rfl ?_
  refine h_iload_n dL_law_172 rfl rfl ?_
  refine h_iconst dL_law_173 ?_
  refine h_iadd dL_law_174 ?_
  refine h_sld (i + 5) hLL dL_law_175 (by omega) (by omega) ?_
  refine h_i2l dL_law_176 rfl ?_
  refine h_bipush dL_law_177 rfl ?_
  refine h_lshl dL_law_179 ?_
  refine h_aload_n dL_law_180 rfl rfl ?_
  refine h_iload_n dL_law_181 rfl rfl ?_
  refine h_bipush dL_law_182 rfl ?_
  refine h_iadd dL_law_184 ?_
  refine h_sld (i + 6) hLL dL_law_185 (by omega) (by omega) ?_
  refine h_i2l dL_law_186 rfl ?_
  refine h_ldc2 dL_law_187 kLL_13 ?_
  refine h_land dL_law_190 ?_
  refine h_lor dL_law_191 ?_
  refine h_aload_n dL_law_192 rfl rfl ?_
  refine h_iload_n dL_law_193 rfl rfl ?_
  refine h_bipush dL_law_194 rfl ?_
  refine h_iadd dL_law_196 ?_
  refine h_sld (i + 7) hLL dL_law_197 (by omega) (by omega) ?_
  refine h_i2l dL_law_198 rfl ?_
  refine h_bipush dL_law_199 rfl ?_
  refine h_lshl dL_law_201 ?_
  refine h_aload_n dL_law_202 rfl rfl ?_
  refine h_iload_n dL_law_203 rfl rfl ?_
  refine h_bipush dL_law_204 rfl ?_
  refine h_iadd dL_law_206 ?_
  refine h_sld (i + 8) hLL dL_law_207 (by omega) (by omega) ?_
  refine h_i2l dL_law_208 rfl ?_
  refine h_ldc2 dL_law_209 kLL_13 ?_
  refine h_land dL_law_212 ?_
  refine h_lor dL_law_213 ?_
  refine h_callC dL_law_214 lL_15 w1 rfl rfl rfl rfl rfl (by decide) (Nat.le_of_ble_eq_true rfl) (fun v MC1 h1 => ?_)
  obtain ⟨z, rfl, h2⟩ := hj v MC1 h1
  refine ⟨z, rfl, ?_⟩
  show GL L xs 217 _ [vi z] MC1 MM
  refine h_aload_n dL_law_217 rfl rfl ?_
  refine h_aload_n dL_law_218 rfl rfl ?_
  refine h_iload_n dL_law_219 rfl rfl ?_
  refine h_iconst dL_law_220 ?_
  refine h_iadd dL_law_221 ?_
  refine h_sld (i + 1) hLL dL_law_222 (by omega) (by omega) ?_
  refine h_aload_n dL_law_223 rfl rfl ?_
  refine h_iload_n dL_law_224 rfl rfl ?_
  refine h_iconst dL_law_225 ?_
  refine h_iadd dL_law_226 ?_
  refine h_sld (i + 2) hLL dL_law_227 (by omega) (by omega) ?_
  refine h_aload_n dL_law_228 rfl rfl ?_
  refine h_iload_n dL_law_229 rfl rfl ?_
  refine h_iconst dL_law_230 ?_
  refine h_iadd dL_law_231 ?_
  refine h_sld (i + 3) hLL dL_law_232 (by omega) (by omega) ?_
  refine h_i2l dL_law_233 rfl ?_
  refine h_bipush dL_law_234 rfl ?_
  refine h_lshl dL_law_236 ?_
  refine h_aload_n dL_law_237 rfl rfl ?_
  refine h_iload_n dL_law_238 rfl rfl ?_
  refine h_iconst dL_law_239 ?_
  refine h_iadd dL_law_240 ?_
  refine h_sld (i + 4) hLL dL_law_241 (by omega) (by omega) ?_
  refine h_i2l dL_law_242 rfl ?_
  refine h_ldc2 dL_law_243 kLL_13 ?_
  refine h_land dL_law_246 ?_
  refine h_lor dL_law_247 ?_
  refine h_aload_n dL_law_248 rfl rfl ?_
  refine h_iload_n dL_law_249 rfl rfl ?_
  refine h_iconst dL_law_250 ?_
  refine h_iadd dL_law_251 ?_
  refine h_sld (i + 5) hLL dL_law_252 (by omega) (by omega) ?_
  refine h_i2l dL_law_253 rfl ?_
  refine h_bipush dL_law_254 rfl ?_
  refine h_lshl dL_law_256 ?_
  refine h_aload_n dL_law_257 rfl rfl ?_
  refine h_iload_n dL_law_258 rfl rfl ?_
  refine h_bipush dL_law_259 rfl ?_
  refine h_iadd dL_law_261 ?_
  refine h_sld (i + 6) hLL dL_law_262 (by omega) (by omega) ?_
  refine h_i2l dL_law_263 rfl ?_
  refine h_ldc2 dL_law_264 kLL_13 ?_
  refine h_land dL_law_267 ?_
  refine h_lor dL_law_268 ?_
  refine h_aload_n dL_law_269 rfl rfl ?_
  refine h_iload_n dL_law_270 rfl rfl ?_
  refine h_bipush dL_law_271 rfl ?_
  refine h_iadd dL_law_273 ?_
  refine h_sld (i + 7) hLL dL_law_274 (by omega) (by omega) ?_
  refine h_i2l dL_law_275 rfl ?_
  refine h_bipush dL_law_276 rfl ?_
  refine h_lshl dL_law_278 ?_
  refine h_aload_n dL_law_279 rfl rfl ?_
  refine h_iload_n dL_law_280 rfl rfl ?_
  refine h_bipush dL_law_281 rfl ?_
  refine h_iadd dL_law_283 ?_
  refine h_sld (i + 8) hLL dL_law_284 (by omega) (by omega) ?_
  refine h_i2l dL_law_285 rfl ?_
  refine h_ldc2 dL_law_286 kLL_13 ?_
  refine h_land dL_law_289 ?_
  refine h_lor dL_law_290 ?_
  refine h_callM dL_law_291 lL_19 w2 rfl rfl rfl rfl rfl (by decide) (Nat.le_of_ble_eq_true rfl) (fun w MM1 h3 => ?_)
  obtain ⟨rfl, hI2⟩ := h2 w MM1 h3
  refine ⟨z, rfl, ?_⟩
  show GL L xs 294 _ [vi z, vi z] MC1 MM1
  refine h_icmp_same (tgt := 1515) dL_law_294 rfl ?_
  exact next _ _ hI2
theorem cs_1 {L : Nat} {xs : Nat → Int32} (hLL : L ≤ 4608) {i : Nat} (hi : i + 9 ≤ L) (next : ∀ MC MM, Inv MC MM → GL L xs 1515 [some (vr 0), some (vr 1), some (vr 2), some (vi (i : Int))] [] MC MM) {MC MM : Mem} (hI : Inv MC MM) : GL L xs 299 [some (vr 0), some (vr 1), some (vr 2), some (vi (i : Int))] [] MC MM := by
  obtain ⟨P1, P2, w1, w2, hj⟩ := p_found (y := (xs (i + 1)).toInt) (s := (xs (i + 2)).toInt) (c := lgv (xs (i + 3)) (xs (i + 4))) (x32 _).1 (x32 _).2 (x32 _).1 (x32 _).2 MC MM hI
  refine h_aload_n dL_law_299 rfl rfl ?_
  refine h_aload_n dL_law_300 rfl rfl ?_
  refine h_iload_n dL_law_301 rfl rfl ?_
  refine h_iconst dL_law_302 ?_
  refine h_iadd dL_law_303 ?_
  refine h_sld (i + 1) hLL dL_law_304 (by omega) (by omega) ?_
  refine h_aload_n dL_law_305 rfl rfl ?_
  refine h_iload_n dL_law_306 rfl rfl ?_
  refine h_iconst dL_law_307 ?_
  refine h_iadd dL_law_308 ?_
  refine h_sld (i + 2) hLL dL_law_309 (by omega) (by omega) ?_
  refine h_aload_n dL_law_310 rfl rfl ?_
  refine h_iload_n dL_law_311 rfl rfl ?_
  refine h_iconst dL_law_312 ?_
  refine h_iadd dL_law_313 ?_
  refine h_sld (i + 3) hLL dL_law_314 (by omega) (by omega) ?_
  refine h_i2l dL_law_315 rfl ?_
  refine h_bipush dL_law_316 rfl ?_
  refine h_lshl dL_law_318 ?_
  refine h_aload_n dL_law_319 rfl rfl ?_
  refine h_iload_n dL_law_320 rfl rfl ?_
  refine h_iconst dL_law_321 ?_
  refine h_iadd dL_law_322 ?_
  refine h_sld (i + 4) hLL dL_law_323 (by omega) (by omega) ?_
  refine h_i2l dL_law_324 rfl ?_
  refine h_ldc2 dL_law_325 kLL_13 ?_
  refine h_land dL_law_328 ?_
  refine h_lor dL_law_329 ?_
  refine h_callC dL_law_330 lL_20 w1 rfl rfl rfl rfl rfl (by decide) (Nat.le_of_ble_eq_true rfl) (fun v MC1 h1 => ?_)
  obtain ⟨z, rfl, h2⟩ := hj v MC1 h1
  refine ⟨z, rfl, ?_⟩
  show GL L xs 333 _ [vi z] MC1 MM
  refine h_aload_n dL_law_333 rfl rfl ?_
  refine h_aload_n dL_law_334 rfl rfl ?_
  refine h_iload_n dL_law_335 rfl rfl ?_
  refine h_iconst dL_law_336 ?_
  refine h_iadd dL_law_337 ?_
  refine h_sld (i + 1) hLL dL_law_338 (by omega) (by omega) ?_
  refine h_aload_n dL_law_339 rfl rfl ?_
  refine h_iload_n dL_law_340 rfl rfl ?_
  refine h_iconst dL_law_341 ?_
  refine h_iadd dL_law_342 ?_
  refine h_sld (i + 2) hLL dL_law_343 (by omega) (by omega) ?_
  refine h_aload_n dL_law_344 rfl rfl ?_
  refine h_iload_n dL_law_345 rfl rfl ?_
  refine h_iconst dL_law_346 ?_
  refine h_iadd dL_law_347 ?_
  refine h_sld (i + 3) hLL dL_law_348 (by omega) (by omega) ?_
  refine h_i2l dL_law_349 rfl ?_
  refine h_bipush dL_law_350 rfl ?_
  refine h_lshl dL_law_352 ?_
  refine h_aload_n dL_law_353 rfl rfl ?_
  refine h_iload_n dL_law_354 rfl rfl ?_
  refine h_iconst dL_law_355 ?_
  refine h_iadd dL_law_356 ?_
  refine h_sld (i + 4) hLL dL_law_357 (by omega) (by omega) ?_
  refine h_i2l dL_law_358 rfl ?_
  refine h_ldc2 dL_law_359 kLL_13 ?_
  refine h_land dL_law_362 ?_
  refine h_lor dL_law_363 ?_
  refine h_callM dL_law_364 lL_24 w2 rfl rfl rfl rfl rfl (by decide) (Nat.le_of_ble_eq_true rfl) (fun w MM1 h3 => ?_)
  obtain ⟨rfl, hI2⟩ := h2 w MM1 h3
  refine ⟨z, rfl, ?_⟩
  show GL L xs 367 _ [vi z, vi z] MC1 MM1
  refine h_icmp_same (tgt := 1515) dL_law_367 rfl ?_
  exact next _ _ hI2
theorem cs_2 {L : Nat} {xs : Nat → Int32} (hLL : L ≤ 4608) {i : Nat} (hi : i + 9 ≤ L) (next : ∀ MC MM, Inv MC MM → GL L xs 1515 [some (vr 0), some (vr 1), some (vr 2), some (vi (i : Int))] [] MC MM) {MC MM : Mem} (hI : Inv MC MM) : GL L xs 372 [some (vr 0), some (vr 1), some (vr 2), some (vi (i : Int))] [] MC MM := by
  obtain ⟨P1, P2, w1, w2, hj⟩ := p_wedding (y := (xs (i + 1)).toInt) (c := lgv (xs (i + 2)) (xs (i + 3))) (m := lgv (xs (i + 4)) (xs (i + 5))) (x32 _).1 (x32 _).2 MC MM hI
  refine h_aload_n dL_law_372 rfl rfl ?_
  refine h_aload_n dL_law_373 rfl rfl ?_
  refine h_iload_n dL_law_374 rfl rfl ?_
  refine h_iconst dL_law_375 ?_
  refine h_iadd dL_law_376 ?_
  refine h_sld (i + 1) hLL dL_law_377 (by omega) (by omega) ?_
  refine h_aload_n dL_law_378 rfl rfl ?_
  refine h_iload_n dL_law_379 rfl rfl ?_
  refine h_iconst dL_law_380 ?_
  refine h_iadd dL_law_381 ?_
  refine h_sld (i + 2) hLL dL_law_382 (by omega) (by omega) ?_
  refine h_i2l dL_law_383 rfl ?_
  refine h_bipush dL_law_384 rfl ?_
  refine h_lshl dL_law_386 ?_
  refine h_aload_n dL_law_387 rfl rfl ?_
  refine h_iload_n dL_law_388 rfl rfl ?_
  refine h_iconst dL_law_389 ?_
  refine h_iadd dL_law_390 ?_
  refine h_sld (i + 3) hLL dL_law_391 (by omega) (by omega) ?_
  refine h_i2l dL_law_392 rfl ?_
  refine h_ldc2 dL_law_393 kLL_13 ?_
  refine h_land dL_law_396 ?_
  refine h_lor dL_law_397 ?_
  refine h_aload_n dL_law_398 rfl rfl ?_
  refine h_iload_n dL_law_399 rfl rfl ?_
  refine h_iconst dL_law_400 ?_
  refine h_iadd dL_law_401 ?_
  refine h_sld (i + 4) hLL dL_law_402 (by omega) (by omega) ?_
  refine h_i2l dL_law_403 rfl ?_
  refine h_bipush dL_law_404 rfl ?_
  refine h_lshl dL_law_406 ?_
  refine h_aload_n dL_law_407 rfl rfl ?_
  refine h_iload_n dL_law_408 rfl rfl ?_
  refine h_iconst dL_law_409 ?_
  refine h_iadd dL_law_410 ?_
  refine h_sld (i + 5) hLL dL_law_411 (by omega) (by omega) ?_
  refine h_i2l dL_law_412 rfl ?_
  refine h_ldc2 dL_law_413 kLL_13 ?_
  refine h_land dL_law_416 ?_
  refine h_lor dL_law_417 ?_
  refine h_callC dL_law_418 lL_25 w1 rfl rfl rfl rfl rfl (by decide) (Nat.le_of_ble_eq_true rfl) (fun v MC1 h1 => ?_)
  obtain ⟨z, rfl, h2⟩ := hj v MC1 h1
  refine ⟨z, rfl, ?_⟩
  show GL L xs 421 _ [vi z] MC1 MM
  refine h_aload_n dL_law_421 rfl rfl ?_
  refine h_aload_n dL_law_422 rfl rfl ?_
  refine h_iload_n dL_law_423 rfl rfl ?_
  refine h_iconst dL_law_424 ?_
  refine h_iadd dL_law_425 ?_
  refine h_sld (i + 1) hLL dL_law_426 (by omega) (by omega) ?_
  refine h_aload_n dL_law_427 rfl rfl ?_
  refine h_iload_n dL_law_428 rfl rfl ?_
  refine h_iconst dL_law_429 ?_
  refine h_iadd dL_law_430 ?_
  refine h_sld (i + 2) hLL dL_law_431 (by omega) (by omega) ?_
  refine h_i2l dL_law_432 rfl ?_
  refine h_bipush dL_law_433 rfl ?_
  refine h_lshl dL_law_435 ?_
  refine h_aload_n dL_law_436 rfl rfl ?_
  refine h_iload_n dL_law_437 rfl rfl ?_
  refine h_iconst dL_law_438 ?_
  refine h_iadd dL_law_439 ?_
  refine h_sld (i + 3) hLL dL_law_440 (by omega) (by omega) ?_
  refine h_i2l dL_law_441 rfl ?_
  refine h_ldc2 dL_law_442 kLL_13 ?_
  refine h_land dL_law_445 ?_
  refine h_lor dL_law_446 ?_
  refine h_aload_n dL_law_447 rfl rfl ?_
  refine h_iload_n dL_law_448 rfl rfl ?_
  refine h_iconst dL_law_449 ?_
  refine h_iadd dL_law_450 ?_
  refine h_sld (i + 4) hLL dL_law_451 (by omega) (by omega) ?_
  refine h_i2l dL_law_452 rfl ?_
  refine h_bipush dL_law_453 rfl ?_
  refine h_lshl dL_law_455 ?_
  refine h_aload_n dL_law_456 rfl rfl ?_
  refine h_iload_n dL_law_457 rfl rfl ?_
  refine h_iconst dL_law_458 ?_
  refine h_iadd dL_law_459 ?_
  refine h_sld (i + 5) hLL dL_law_460 (by omega) (by omega) ?_
  refine h_i2l dL_law_461 rfl ?_
  refine h_ldc2 dL_law_462 kLL_13 ?_
  refine h_land dL_law_465 ?_
  refine h_lor dL_law_466 ?_
  refine h_callM dL_law_467 lL_29 w2 rfl rfl rfl rfl rfl (by decide) (Nat.le_of_ble_eq_true rfl) (fun w MM1 h3 => ?_)
  obtain ⟨rfl, hI2⟩ := h2 w MM1 h3
  refine ⟨z, rfl, ?_⟩
  show GL L xs 470 _ [vi z, vi z] MC1 MM1
  refine h_icmp_same (tgt := 1515) dL_law_470 rfl ?_
  exact next _ _ hI2
theorem cs_3 {L : Nat} {xs : Nat → Int32} (hLL : L ≤ 4608) {i : Nat} (hi : i + 9 ≤ L) (next : ∀ MC MM, Inv MC MM → GL L xs 1515 [some (vr 0), some (vr 1), some (vr 2), some (vi (i : Int))] [] MC MM) {MC MM : Mem} (hI : Inv MC MM) : GL L xs 475 [some (vr 0), some (vr 1), some (vr 2), some (vi (i : Int))] [] MC MM := by
  obtain ⟨P1, P2, w1, w2, hj⟩ := p_death (y := (xs (i + 1)).toInt) (s := (xs (i + 2)).toInt) (c := lgv (xs (i + 3)) (xs (i + 4))) (a := (xs (i + 5)).toInt) (x32 _).1 (x32 _).2 (x32 _).1 (x32 _).2 (x32 _).1 (x32 _).2 MC MM hI
  refine h_aload_n dL_law_475 rfl rfl ?_
  refine h_aload_n dL_law_476 rfl rfl ?_
  refine h_iload_n dL_law_477 rfl rfl ?_
  refine h_iconst dL_law_478 ?_
  refine h_iadd dL_law_479 ?_
  refine h_sld (i + 1) hLL dL_law_480 (by omega) (by omega) ?_
  refine h_aload_n dL_law_481 rfl rfl ?_
  refine h_iload_n dL_law_482 rfl rfl ?_
  refine h_iconst dL_law_483 ?_
  refine h_iadd dL_law_484 ?_
  refine h_sld (i + 2) hLL dL_law_485 (by omega) (by omega) ?_
  refine h_aload_n dL_law_486 rfl rfl ?_
  refine h_iload_n dL_law_487 rfl rfl ?_
  refine h_iconst dL_law_488 ?_
  refine h_iadd dL_law_489 ?_
  refine h_sld (i + 3) hLL dL_law_490 (by omega) (by omega) ?_
  refine h_i2l dL_law_491 rfl ?_
  refine h_bipush dL_law_492 rfl ?_
  refine h_lshl dL_law_494 ?_
  refine h_aload_n dL_law_495 rfl rfl ?_
  refine h_iload_n dL_law_496 rfl rfl ?_
  refine h_iconst dL_law_497 ?_
  refine h_iadd dL_law_498 ?_
  refine h_sld (i + 4) hLL dL_law_499 (by omega) (by omega) ?_
  refine h_i2l dL_law_500 rfl ?_
  refine h_ldc2 dL_law_501 kLL_13 ?_
  refine h_land dL_law_504 ?_
  refine h_lor dL_law_505 ?_
  refine h_aload_n dL_law_506 rfl rfl ?_
  refine h_iload_n dL_law_507 rfl rfl ?_
  refine h_iconst dL_law_508 ?_
  refine h_iadd dL_law_509 ?_
  refine h_sld (i + 5) hLL dL_law_510 (by omega) (by omega) ?_
  refine h_callC dL_law_511 lL_30 w1 rfl rfl rfl rfl rfl (by decide) (Nat.le_of_ble_eq_true rfl) (fun v MC1 h1 => ?_)
  obtain ⟨z, rfl, h2⟩ := hj v MC1 h1
  refine ⟨z, rfl, ?_⟩
  show GL L xs 514 _ [vi z] MC1 MM
  refine h_aload_n dL_law_514 rfl rfl ?_
  refine h_aload_n dL_law_515 rfl rfl ?_
  refine h_iload_n dL_law_516 rfl rfl ?_
  refine h_iconst dL_law_517 ?_
  refine h_iadd dL_law_518 ?_
  refine h_sld (i + 1) hLL dL_law_519 (by omega) (by omega) ?_
  refine h_aload_n dL_law_520 rfl rfl ?_
  refine h_iload_n dL_law_521 rfl rfl ?_
  refine h_iconst dL_law_522 ?_
  refine h_iadd dL_law_523 ?_
  refine h_sld (i + 2) hLL dL_law_524 (by omega) (by omega) ?_
  refine h_aload_n dL_law_525 rfl rfl ?_
  refine h_iload_n dL_law_526 rfl rfl ?_
  refine h_iconst dL_law_527 ?_
  refine h_iadd dL_law_528 ?_
  refine h_sld (i + 3) hLL dL_law_529 (by omega) (by omega) ?_
  refine h_i2l dL_law_530 rfl ?_
  refine h_bipush dL_law_531 rfl ?_
  refine h_lshl dL_law_533 ?_
  refine h_aload_n dL_law_534 rfl rfl ?_
  refine h_iload_n dL_law_535 rfl rfl ?_
  refine h_iconst dL_law_536 ?_
  refine h_iadd dL_law_537 ?_
  refine h_sld (i + 4) hLL dL_law_538 (by omega) (by omega) ?_
  refine h_i2l dL_law_539 rfl ?_
  refine h_ldc2 dL_law_540 kLL_13 ?_
  refine h_land dL_law_543 ?_
  refine h_lor dL_law_544 ?_
  refine h_aload_n dL_law_545 rfl rfl ?_
  refine h_iload_n dL_law_546 rfl rfl ?_
  refine h_iconst dL_law_547 ?_
  refine h_iadd dL_law_548 ?_
  refine h_sld (i + 5) hLL dL_law_549 (by omega) (by omega) ?_
  refine h_callM dL_law_550 lL_34 w2 rfl rfl rfl rfl rfl (by decide) (Nat.le_of_ble_eq_true rfl) (fun w MM1 h3 => ?_)
  obtain ⟨rfl, hI2⟩ := h2 w MM1 h3
  refine ⟨z, rfl, ?_⟩
  show GL L xs 553 _ [vi z, vi z] MC1 MM1
  refine h_icmp_same (tgt := 1515) dL_law_553 rfl ?_
  exact next _ _ hI2
theorem cs_4 {L : Nat} {xs : Nat → Int32} (hLL : L ≤ 4608) {i : Nat} (hi : i + 9 ≤ L) (next : ∀ MC MM, Inv MC MM → GL L xs 1515 [some (vr 0), some (vr 1), some (vr 2), some (vi (i : Int))] [] MC MM) {MC MM : Mem} (hI : Inv MC MM) : GL L xs 558 [some (vr 0), some (vr 1), some (vr 2), some (vi (i : Int))] [] MC MM := by
  obtain ⟨P1, P2, w1, w2, hj⟩ := p_list (y := (xs (i + 1)).toInt) (s := (xs (i + 2)).toInt) (c := lgv (xs (i + 3)) (xs (i + 4))) (a := (xs (i + 5)).toInt) (x32 _).1 (x32 _).2 (x32 _).1 (x32 _).2 (x32 _).1 (x32 _).2 MC MM hI
  refine h_aload_n dL_law_558 rfl rfl ?_
  refine h_aload_n dL_law_559 rfl rfl ?_
  refine h_iload_n dL_law_560 rfl rfl ?_
  refine h_iconst dL_law_561 ?_
  refine h_iadd dL_law_562 ?_
  refine h_sld (i + 1) hLL dL_law_563 (by omega) (by omega) ?_
  refine h_aload_n dL_law_564 rfl rfl ?_
  refine h_iload_n dL_law_565 rfl rfl ?_
  refine h_iconst dL_law_566 ?_
  refine h_iadd dL_law_567 ?_
  refine h_sld (i + 2) hLL dL_law_568 (by omega) (by omega) ?_
  refine h_aload_n dL_law_569 rfl rfl ?_
  refine h_iload_n dL_law_570 rfl rfl ?_
  refine h_iconst dL_law_571 ?_
  refine h_iadd dL_law_572 ?_
  refine h_sld (i + 3) hLL dL_law_573 (by omega) (by omega) ?_
  refine h_i2l dL_law_574 rfl ?_
  refine h_bipush dL_law_575 rfl ?_
  refine h_lshl dL_law_577 ?_
  refine h_aload_n dL_law_578 rfl rfl ?_
  refine h_iload_n dL_law_579 rfl rfl ?_
  refine h_iconst dL_law_580 ?_
  refine h_iadd dL_law_581 ?_
  refine h_sld (i + 4) hLL dL_law_582 (by omega) (by omega) ?_
  refine h_i2l dL_law_583 rfl ?_
  refine h_ldc2 dL_law_584 kLL_13 ?_
  refine h_land dL_law_587 ?_
  refine h_lor dL_law_588 ?_
  refine h_aload_n dL_law_589 rfl rfl ?_
  refine h_iload_n dL_law_590 rfl rfl ?_
  refine h_iconst dL_law_591 ?_
  refine h_iadd dL_law_592 ?_
  refine h_sld (i + 5) hLL dL_law_593 (by omega) (by omega) ?_
  refine h_callC dL_law_594 lL_35 w1 rfl rfl rfl rfl rfl (by decide) (Nat.le_of_ble_eq_true rfl) (fun v MC1 h1 => ?_)
  obtain ⟨z, rfl, h2⟩ := hj v MC1 h1
  refine ⟨z, rfl, ?_⟩
  show GL L xs 597 _ [vi z] MC1 MM
  refine h_aload_n dL_law_597 rfl rfl ?_
  refine h_aload_n dL_law_598 rfl rfl ?_
  refine h_iload_n dL_law_599 rfl rfl ?_
  refine h_iconst dL_law_600 ?_
  refine h_iadd dL_law_601 ?_
  refine h_sld (i + 1) hLL dL_law_602 (by omega) (by omega) ?_
  refine h_aload_n dL_law_603 rfl rfl ?_
  refine h_iload_n dL_law_604 rfl rfl ?_
  refine h_iconst dL_law_605 ?_
  refine h_iadd dL_law_606 ?_
  refine h_sld (i + 2) hLL dL_law_607 (by omega) (by omega) ?_
  refine h_aload_n dL_law_608 rfl rfl ?_
  refine h_iload_n dL_law_609 rfl rfl ?_
  refine h_iconst dL_law_610 ?_
  refine h_iadd dL_law_611 ?_
  refine h_sld (i + 3) hLL dL_law_612 (by omega) (by omega) ?_
  refine h_i2l dL_law_613 rfl ?_
  refine h_bipush dL_law_614 rfl ?_
  refine h_lshl dL_law_616 ?_
  refine h_aload_n dL_law_617 rfl rfl ?_
  refine h_iload_n dL_law_618 rfl rfl ?_
  refine h_iconst dL_law_619 ?_
  refine h_iadd dL_law_620 ?_
  refine h_sld (i + 4) hLL dL_law_621 (by omega) (by omega) ?_
  refine h_i2l dL_law_622 rfl ?_
  refine h_ldc2 dL_law_623 kLL_13 ?_
  refine h_land dL_law_626 ?_
  refine h_lor dL_law_627 ?_
  refine h_aload_n dL_law_628 rfl rfl ?_
  refine h_iload_n dL_law_629 rfl rfl ?_
  refine h_iconst dL_law_630 ?_
  refine h_iadd dL_law_631 ?_
  refine h_sld (i + 5) hLL dL_law_632 (by omega) (by omega) ?_
  refine h_callM dL_law_633 lL_38 w2 rfl rfl rfl rfl rfl (by decide) (Nat.le_of_ble_eq_true rfl) (fun w MM1 h3 => ?_)
  obtain ⟨rfl, hI2⟩ := h2 w MM1 h3
  refine ⟨z, rfl, ?_⟩
  show GL L xs 636 _ [vi z, vi z] MC1 MM1
  refine h_icmp_same (tgt := 1515) dL_law_636 rfl ?_
  exact next _ _ hI2
theorem cs_5 {L : Nat} {xs : Nat → Int32} (hLL : L ≤ 4608) {i : Nat} (hi : i + 9 ≤ L) (next : ∀ MC MM, Inv MC MM → GL L xs 1515 [some (vr 0), some (vr 1), some (vr 2), some (vi (i : Int))] [] MC MM) {MC MM : Mem} (hI : Inv MC MM) : GL L xs 641 [some (vr 0), some (vr 1), some (vr 2), some (vi (i : Int))] [] MC MM := by
  obtain ⟨P1, P2, w1, w2, hj⟩ := p_witness (y := (xs (i + 1)).toInt) (s := (xs (i + 2)).toInt) (c := lgv (xs (i + 3)) (xs (i + 4))) (t := (xs (i + 5)).toInt) (m := lgv (xs (i + 6)) (xs (i + 7))) (x32 _).1 (x32 _).2 (x32 _).1 (x32 _).2 (x32 _).1 (x32 _).2 MC MM hI
  refine h_aload_n dL_law_641 rfl rfl ?_
  refine h_aload_n dL_law_642 rfl rfl ?_
  refine h_iload_n dL_law_643 rfl rfl ?_
  refine h_iconst dL_law_644 ?_
  refine h_iadd dL_law_645 ?_
  refine h_sld (i + 1) hLL dL_law_646 (by omega) (by omega) ?_
  refine h_aload_n dL_law_647 rfl rfl ?_
  refine h_iload_n dL_law_648 rfl rfl ?_
  refine h_iconst dL_law_649 ?_
  refine h_iadd dL_law_650 ?_
  refine h_sld (i + 2) hLL dL_law_651 (by omega) (by omega) ?_
  refine h_aload_n dL_law_652 rfl rfl ?_
  refine h_iload_n dL_law_653 rfl rfl ?_
  refine h_iconst dL_law_654 ?_
  refine h_iadd dL_law_655 ?_
  refine h_sld (i + 3) hLL dL_law_656 (by omega) (by omega) ?_
  refine h_i2l dL_law_657 rfl ?_
  refine h_bipush dL_law_658 rfl ?_
  refine h_lshl dL_law_660 ?_
  refine h_aload_n dL_law_661 rfl rfl ?_
  refine h_iload_n dL_law_662 rfl rfl ?_
  refine h_iconst dL_law_663 ?_
  refine h_iadd dL_law_664 ?_
  refine h_sld (i + 4) hLL dL_law_665 (by omega) (by omega) ?_
  refine h_i2l dL_law_666 rfl ?_
  refine h_ldc2 dL_law_667 kLL_13 ?_
  refine h_land dL_law_670 ?_
  refine h_lor dL_law_671 ?_
  refine h_aload_n dL_law_672 rfl rfl ?_
  refine h_iload_n dL_law_673 rfl rfl ?_
  refine h_iconst dL_law_674 ?_
  refine h_iadd dL_law_675 ?_
  refine h_sld (i + 5) hLL dL_law_676 (by omega) (by omega) ?_
  refine h_aload_n dL_law_677 rfl rfl ?_
  refine h_iload_n dL_law_678 rfl rfl ?_
  refine h_bipush dL_law_679 rfl ?_
  refine h_iadd dL_law_681 ?_
  refine h_sld (i + 6) hLL dL_law_682 (by omega) (by omega) ?_
  refine h_i2l dL_law_683 rfl ?_
  refine h_bipush dL_law_684 rfl ?_
  refine h_lshl dL_law_686 ?_
  refine h_aload_n dL_law_687 rfl rfl ?_
  refine h_iload_n dL_law_688 rfl rfl ?_
  refine h_bipush dL_law_689 rfl ?_
  refine h_iadd dL_law_691 ?_
  refine h_sld (i + 7) hLL dL_law_692 (by omega) (by omega) ?_
  refine h_i2l dL_law_693 rfl ?_
  refine h_ldc2 dL_law_694 kLL_13 ?_
  refine h_land dL_law_697 ?_
  refine h_lor dL_law_698 ?_
  refine h_callC dL_law_699 lL_39 w1 rfl rfl rfl rfl rfl (by decide) (Nat.le_of_ble_eq_true rfl) (fun v MC1 h1 => ?_)
  obtain ⟨z, rfl, h2⟩ := hj v MC1 h1
  refine ⟨z, rfl, ?_⟩
  show GL L xs 702 _ [vi z] MC1 MM
  refine h_aload_n dL_law_702 rfl rfl ?_
  refine h_aload_n dL_law_703 rfl rfl ?_
  refine h_iload_n dL_law_704 rfl rfl ?_
  refine h_iconst dL_law_705 ?_
  refine h_iadd dL_law_706 ?_
  refine h_sld (i + 1) hLL dL_law_707 (by omega) (by omega) ?_
  refine h_aload_n dL_law_708 rfl rfl ?_
  refine h_iload_n dL_law_709 rfl rfl ?_
  refine h_iconst dL_law_710 ?_
  refine h_iadd dL_law_711 ?_
  refine h_sld (i + 2) hLL dL_law_712 (by omega) (by omega) ?_
  refine h_aload_n dL_law_713 rfl rfl ?_
  refine h_iload_n dL_law_714 rfl rfl ?_
  refine h_iconst dL_law_715 ?_
  refine h_iadd dL_law_716 ?_
  refine h_sld (i + 3) hLL dL_law_717 (by omega) (by omega) ?_
  refine h_i2l dL_law_718 rfl ?_
  refine h_bipush dL_law_719 rfl ?_
  refine h_lshl dL_law_721 ?_
  refine h_aload_n dL_law_722 rfl rfl ?_
  refine h_iload_n dL_law_723 rfl rfl ?_
  refine h_iconst dL_law_724 ?_
  refine h_iadd dL_law_725 ?_
  refine h_sld (i + 4) hLL dL_law_726 (by omega) (by omega) ?_
  refine h_i2l dL_law_727 rfl ?_
  refine h_ldc2 dL_law_728 kLL_13 ?_
  refine h_land dL_law_731 ?_
  refine h_lor dL_law_732 ?_
  refine h_aload_n dL_law_733 rfl rfl ?_
  refine h_iload_n dL_law_734 rfl rfl ?_
  refine h_iconst dL_law_735 ?_
  refine h_iadd dL_law_736 ?_
  refine h_sld (i + 5) hLL dL_law_737 (by omega) (by omega) ?_
  refine h_aload_n dL_law_738 rfl rfl ?_
  refine h_iload_n dL_law_739 rfl rfl ?_
  refine h_bipush dL_law_740 rfl ?_
  refine h_iadd dL_law_742 ?_
  refine h_sld (i + 6) hLL dL_law_743 (by omega) (by omega) ?_
  refine h_i2l dL_law_744 rfl ?_
  refine h_bipush dL_law_745 rfl ?_
  refine h_lshl dL_law_747 ?_
  refine h_aload_n dL_law_748 rfl rfl ?_
  refine h_iload_n dL_law_749 rfl rfl ?_
  refine h_bipush dL_law_750 rfl ?_
  refine h_iadd dL_law_752 ?_
  refine h_sld (i + 7) hLL dL_law_753 (by omega) (by omega) ?_
  refine h_i2l dL_law_754 rfl ?_
  refine h_ldc2 dL_law_755 kLL_13 ?_
  refine h_land dL_law_758 ?_
  refine h_lor dL_law_759 ?_
  refine h_callM dL_law_760 lL_43 w2 rfl rfl rfl rfl rfl (by decide) (Nat.le_of_ble_eq_true rfl) (fun w MM1 h3 => ?_)
  obtain ⟨rfl, hI2⟩ := h2 w MM1 h3
  refine ⟨z, rfl, ?_⟩
  show GL L xs 763 _ [vi z, vi z] MC1 MM1
  refine h_icmp_same (tgt := 1515) dL_law_763 rfl ?_
  exact next _ _ hI2
theorem cs_6 {L : Nat} {xs : Nat → Int32} (hLL : L ≤ 4608) {i : Nat} (hi : i + 9 ≤ L) (next : ∀ MC MM, Inv MC MM → GL L xs 1515 [some (vr 0), some (vr 1), some (vr 2), some (vi (i : Int))] [] MC MM) {MC MM : Mem} (hI : Inv MC MM) : GL L xs 768 [some (vr 0), some (vr 1), some (vr 2), some (vi (i : Int))] [] MC MM := by
  obtain ⟨P1, P2, w1, w2, hj⟩ := p_copy (r := (xs (i + 1)).toInt) (a := lgv (xs (i + 2)) (xs (i + 3))) (b := lgv (xs (i + 4)) (xs (i + 5))) (c := lgv (xs (i + 6)) (xs (i + 7))) (x32 _).1 (x32 _).2 MC MM hI
  refine h_aload_n dL_law_768 rfl rfl ?_
  refine h_aload_n dL_law_769 rfl rfl ?_
  refine h_iload_n dL_law_770 rfl rfl ?_
  refine h_iconst dL_law_771 ?_
  refine h_iadd dL_law_772 ?_
  refine h_sld (i + 1) hLL dL_law_773 (by omega) (by omega) ?_
  refine h_aload_n dL_law_774 rfl rfl ?_
  refine h_iload_n dL_law_775 rfl rfl ?_
  refine h_iconst dL_law_776 ?_
  refine h_iadd dL_law_777 ?_
  refine h_sld (i + 2) hLL dL_law_778 (by omega) (by omega) ?_
  refine h_i2l dL_law_779 rfl ?_
  refine h_bipush dL_law_780 rfl ?_
  refine h_lshl dL_law_782 ?_
  refine h_aload_n dL_law_783 rfl rfl ?_
  refine h_iload_n dL_law_784 rfl rfl ?_
  refine h_iconst dL_law_785 ?_
  refine h_iadd dL_law_786 ?_
  refine h_sld (i + 3) hLL dL_law_787 (by omega) (by omega) ?_
  refine h_i2l dL_law_788 rfl ?_
  refine h_ldc2 dL_law_789 kLL_13 ?_
  refine h_land dL_law_792 ?_
  refine h_lor dL_law_793 ?_
  refine h_aload_n dL_law_794 rfl rfl ?_
  refine h_iload_n dL_law_795 rfl rfl ?_
  refine h_iconst dL_law_796 ?_
  refine h_iadd dL_law_797 ?_
  refine h_sld (i + 4) hLL dL_law_798 (by omega) (by omega) ?_
  refine h_i2l dL_law_799 rfl ?_
  refine h_bipush dL_law_800 rfl ?_
  refine h_lshl dL_law_802 ?_
  refine h_aload_n dL_law_803 rfl rfl ?_
  refine h_iload_n dL_law_804 rfl rfl ?_
  refine h_iconst dL_law_805 ?_
  refine h_iadd dL_law_806 ?_
  refine h_sld (i + 5) hLL dL_law_807 (by omega) (by omega) ?_
  refine h_i2l dL_law_808 rfl ?_
  refine h_ldc2 dL_law_809 kLL_13 ?_
  refine h_land dL_law_812 ?_
  refine h_lor dL_law_813 ?_
  refine h_aload_n dL_law_814 rfl rfl ?_
  refine h_iload_n dL_law_815 rfl rfl ?_
  refine h_bipush dL_law_816 rfl ?_
  refine h_iadd dL_law_818 ?_
  refine h_sld (i + 6) hLL dL_law_819 (by omega) (by omega) ?_
  refine h_i2l dL_law_820 rfl ?_
  refine h_bipush dL_law_821 rfl ?_
  refine h_lshl dL_law_823 ?_
  refine h_aload_n dL_law_824 rfl rfl ?_
  refine h_iload_n dL_law_825 rfl rfl ?_
  refine h_bipush dL_law_826 rfl ?_
  refine h_iadd dL_law_828 ?_
  refine h_sld (i + 7) hLL dL_law_829 (by omega) (by omega) ?_
  refine h_i2l dL_law_830 rfl ?_
  refine h_ldc2 dL_law_831 kLL_13 ?_
  refine h_land dL_law_834 ?_
  refine h_lor dL_law_835 ?_
  refine h_callC dL_law_836 lL_44 w1 rfl rfl rfl rfl rfl (by decide) (Nat.le_of_ble_eq_true rfl) (fun v MC1 h1 => ?_)
  obtain ⟨z, rfl, h2⟩ := hj v MC1 h1
  refine ⟨z, rfl, ?_⟩
  show GL L xs 839 _ [vi z] MC1 MM
  refine h_aload_n dL_law_839 rfl rfl ?_
  refine h_aload_n dL_law_840 rfl rfl ?_
  refine h_iload_n dL_law_841 rfl rfl ?_
  refine h_iconst dL_law_842 ?_
  refine h_iadd dL_law_843 ?_
  refine h_sld (i + 1) hLL dL_law_844 (by omega) (by omega) ?_
  refine h_aload_n dL_law_845 rfl rfl ?_
  refine h_iload_n dL_law_846 rfl rfl ?_
  refine h_iconst dL_law_847 ?_
  refine h_iadd dL_law_848 ?_
  refine h_sld (i + 2) hLL dL_law_849 (by omega) (by omega) ?_
  refine h_i2l dL_law_850 rfl ?_
  refine h_bipush dL_law_851 rfl ?_
  refine h_lshl dL_law_853 ?_
  refine h_aload_n dL_law_854 rfl rfl ?_
  refine h_iload_n dL_law_855 rfl rfl ?_
  refine h_iconst dL_law_856 ?_
  refine h_iadd dL_law_857 ?_
  refine h_sld (i + 3) hLL dL_law_858 (by omega) (by omega) ?_
  refine h_i2l dL_law_859 rfl ?_
  refine h_ldc2 dL_law_860 kLL_13 ?_
  refine h_land dL_law_863 ?_
  refine h_lor dL_law_864 ?_
  refine h_aload_n dL_law_865 rfl rfl ?_
  refine h_iload_n dL_law_866 rfl rfl ?_
  refine h_iconst dL_law_867 ?_
  refine h_iadd dL_law_868 ?_
  refine h_sld (i + 4) hLL dL_law_869 (by omega) (by omega) ?_
  refine h_i2l dL_law_870 rfl ?_
  refine h_bipush dL_law_871 rfl ?_
  refine h_lshl dL_law_873 ?_
  refine h_aload_n dL_law_874 rfl rfl ?_
  refine h_iload_n dL_law_875 rfl rfl ?_
  refine h_iconst dL_law_876 ?_
  refine h_iadd dL_law_877 ?_
  refine h_sld (i + 5) hLL dL_law_878 (by omega) (by omega) ?_
  refine h_i2l dL_law_879 rfl ?_
  refine h_ldc2 dL_law_880 kLL_13 ?_
  refine h_land dL_law_883 ?_
  refine h_lor dL_law_884 ?_
  refine h_aload_n dL_law_885 rfl rfl ?_
  refine h_iload_n dL_law_886 rfl rfl ?_
  refine h_bipush dL_law_887 rfl ?_
  refine h_iadd dL_law_889 ?_
  refine h_sld (i + 6) hLL dL_law_890 (by omega) (by omega) ?_
  refine h_i2l dL_law_891 rfl ?_
  refine h_bipush dL_law_892 rfl ?_
  refine h_lshl dL_law_894 ?_
  refine h_aload_n dL_law_895 rfl rfl ?_
  refine h_iload_n dL_law_896 rfl rfl ?_
  refine h_bipush dL_law_897 rfl ?_
  refine h_iadd dL_law_899 ?_
  refine h_sld (i + 7) hLL dL_law_900 (by omega) (by omega) ?_
  refine h_i2l dL_law_901 rfl ?_
  refine h_ldc2 dL_law_902 kLL_13 ?_
  refine h_land dL_law_905 ?_
  refine h_lor dL_law_906 ?_
  refine h_callM dL_law_907 lL_48 w2 rfl rfl rfl rfl rfl (by decide) (Nat.le_of_ble_eq_true rfl) (fun w MM1 h3 => ?_)
  obtain ⟨rfl, hI2⟩ := h2 w MM1 h3
  refine ⟨z, rfl, ?_⟩
  show GL L xs 910 _ [vi z, vi z] MC1 MM1
  refine h_icmp_same (tgt := 1515) dL_law_910 rfl ?_
  exact next _ _ hI2
theorem cs_7 {L : Nat} {xs : Nat → Int32} (hLL : L ≤ 4608) {i : Nat} (hi : i + 9 ≤ L) (next : ∀ MC MM, Inv MC MM → GL L xs 1515 [some (vr 0), some (vr 1), some (vr 2), some (vi (i : Int))] [] MC MM) {MC MM : Mem} (hI : Inv MC MM) : GL L xs 915 [some (vr 0), some (vr 1), some (vr 2), some (vi (i : Int))] [] MC MM := by
  obtain ⟨P1, P2, w1, w2, hj⟩ := p_drop   MC MM hI
  refine h_aload_n dL_law_915 rfl rfl ?_
  refine h_callC dL_law_916 lL_49 w1 rfl rfl rfl rfl rfl (by decide) (Nat.le_of_ble_eq_true rfl) (fun v MC1 h1 => ?_)
  obtain ⟨z, rfl, h2⟩ := hj v MC1 h1
  refine ⟨z, rfl, ?_⟩
  show GL L xs 919 _ [vi z] MC1 MM
  refine h_aload_n dL_law_919 rfl rfl ?_
  refine h_callM dL_law_920 lL_53 w2 rfl rfl rfl rfl rfl (by decide) (Nat.le_of_ble_eq_true rfl) (fun w MM1 h3 => ?_)
  obtain ⟨rfl, hI2⟩ := h2 w MM1 h3
  refine ⟨z, rfl, ?_⟩
  show GL L xs 923 _ [vi z, vi z] MC1 MM1
  refine h_icmp_same (tgt := 1515) dL_law_923 rfl ?_
  exact next _ _ hI2
theorem cs_8 {L : Nat} {xs : Nat → Int32} (hLL : L ≤ 4608) {i : Nat} (hi : i + 9 ≤ L) (next : ∀ MC MM, Inv MC MM → GL L xs 1515 [some (vr 0), some (vr 1), some (vr 2), some (vi (i : Int))] [] MC MM) {MC MM : Mem} (hI : Inv MC MM) : GL L xs 928 [some (vr 0), some (vr 1), some (vr 2), some (vi (i : Int))] [] MC MM := by
  obtain ⟨P1, P2, w1, w2, hj⟩ := p_laws (g := (xs (i + 1)).toInt) (mo := (xs (i + 2)).toInt) (fa := (xs (i + 3)).toInt) (li := (xs (i + 4)).toInt) (ro := (xs (i + 5)).toInt) (x32 _).1 (x32 _).2 (x32 _).1 (x32 _).2 (x32 _).1 (x32 _).2 (x32 _).1 (x32 _).2 (x32 _).1 (x32 _).2 MC MM hI
  refine h_aload_n dL_law_928 rfl rfl ?_
  refine h_aload_n dL_law_929 rfl rfl ?_
  refine h_iload_n dL_law_930 rfl rfl ?_
  refine h_iconst dL_law_931 ?_
  refine h_iadd dL_law_932 ?_
  refine h_sld (i + 1) hLL dL_law_933 (by omega) (by omega) ?_
  refine h_aload_n dL_law_934 rfl rfl ?_
  refine h_iload_n dL_law_935 rfl rfl ?_
  refine h_iconst dL_law_936 ?_
  refine h_iadd dL_law_937 ?_
  refine h_sld (i + 2) hLL dL_law_938 (by omega) (by omega) ?_
  refine h_aload_n dL_law_939 rfl rfl ?_
  refine h_iload_n dL_law_940 rfl rfl ?_
  refine h_iconst dL_law_941 ?_
  refine h_iadd dL_law_942 ?_
  refine h_sld (i + 3) hLL dL_law_943 (by omega) (by omega) ?_
  refine h_aload_n dL_law_944 rfl rfl ?_
  refine h_iload_n dL_law_945 rfl rfl ?_
  refine h_iconst dL_law_946 ?_
  refine h_iadd dL_law_947 ?_
  refine h_sld (i + 4) hLL dL_law_948 (by omega) (by omega) ?_
  refine h_aload_n dL_law_949 rfl rfl ?_
  refine h_iload_n dL_law_950 rfl rfl ?_
  refine h_iconst dL_law_951 ?_
  refine h_iadd dL_law_952 ?_
  refine h_sld (i + 5) hLL dL_law_953 (by omega) (by omega) ?_
  refine h_callC dL_law_954 lL_54 w1 rfl rfl rfl rfl rfl (by decide) (Nat.le_of_ble_eq_true rfl) (fun v MC1 h1 => ?_)
  obtain ⟨z, rfl, h2⟩ := hj v MC1 h1
  refine ⟨z, rfl, ?_⟩
  show GL L xs 957 _ [vi z] MC1 MM
  refine h_aload_n dL_law_957 rfl rfl ?_
  refine h_aload_n dL_law_958 rfl rfl ?_
  refine h_iload_n dL_law_959 rfl rfl ?_
  refine h_iconst dL_law_960 ?_
  refine h_iadd dL_law_961 ?_
  refine h_sld (i + 1) hLL dL_law_962 (by omega) (by omega) ?_
  refine h_aload_n dL_law_963 rfl rfl ?_
  refine h_iload_n dL_law_964 rfl rfl ?_
  refine h_iconst dL_law_965 ?_
  refine h_iadd dL_law_966 ?_
  refine h_sld (i + 2) hLL dL_law_967 (by omega) (by omega) ?_
  refine h_aload_n dL_law_968 rfl rfl ?_
  refine h_iload_n dL_law_969 rfl rfl ?_
  refine h_iconst dL_law_970 ?_
  refine h_iadd dL_law_971 ?_
  refine h_sld (i + 3) hLL dL_law_972 (by omega) (by omega) ?_
  refine h_aload_n dL_law_973 rfl rfl ?_
  refine h_iload_n dL_law_974 rfl rfl ?_
  refine h_iconst dL_law_975 ?_
  refine h_iadd dL_law_976 ?_
  refine h_sld (i + 4) hLL dL_law_977 (by omega) (by omega) ?_
  refine h_aload_n dL_law_978 rfl rfl ?_
  refine h_iload_n dL_law_979 rfl rfl ?_
  refine h_iconst dL_law_980 ?_
  refine h_iadd dL_law_981 ?_
  refine h_sld (i + 5) hLL dL_law_982 (by omega) (by omega) ?_
  refine h_callM dL_law_983 lL_58 w2 rfl rfl rfl rfl rfl (by decide) (Nat.le_of_ble_eq_true rfl) (fun w MM1 h3 => ?_)
  obtain ⟨rfl, hI2⟩ := h2 w MM1 h3
  refine ⟨z, rfl, ?_⟩
  show GL L xs 986 _ [vi z, vi z] MC1 MM1
  refine h_icmp_same (tgt := 1515) dL_law_986 rfl ?_
  exact next _ _ hI2
theorem cs_9 {L : Nat} {xs : Nat → Int32} (hLL : L ≤ 4608) {i : Nat} (hi : i + 9 ≤ L) (next : ∀ MC MM, Inv MC MM → GL L xs 1515 [some (vr 0), some (vr 1), some (vr 2), some (vi (i : Int))] [] MC MM) {MC MM : Mem} (hI : Inv MC MM) : GL L xs 991 [some (vr 0), some (vr 1), some (vr 2), some (vi (i : Int))] [] MC MM := by
  obtain ⟨P1, P2, w1, w2, hj⟩ := p_sound (a := (xs (i + 1)).toInt) (b := (xs (i + 2)).toInt) (z := bi ((xs (i + 3)).toInt ≠ 0)) (bi_01 _) (x32 _).1 (x32 _).2 (x32 _).1 (x32 _).2 MC MM hI
  refine h_aload_n dL_law_991 rfl rfl ?_
  refine h_aload_n dL_law_992 rfl rfl ?_
  refine h_iload_n dL_law_993 rfl rfl ?_
  refine h_iconst dL_law_994 ?_
  refine h_iadd dL_law_995 ?_
  refine h_sld (i + 1) hLL dL_law_996 (by omega) (by omega) ?_
  refine h_aload_n dL_law_997 rfl rfl ?_
  refine h_iload_n dL_law_998 rfl rfl ?_
  refine h_iconst dL_law_999 ?_
  refine h_iadd dL_law_1000 ?_
  refine h_sld (i + 2) hLL dL_law_1001 (by omega) (by omega) ?_
  refine h_aload_n dL_law_1002 rfl rfl ?_
  refine h_iload_n dL_law_1003 rfl rfl ?_
  refine h_iconst dL_law_1004 ?_
  refine h_iadd dL_law_1005 ?_
  refine h_sld (i + 3) hLL dL_law_1006 (by omega) (by omega) ?_
  refine h_ne0 (t1 := 1014) (t2 := 1015) dL_law_1007 rfl dL_law_1010 dL_law_1011 rfl dL_law_1014 rfl (x32 _).1 (x32 _).2 ?_
  refine h_callC dL_law_1015 lL_59 w1 rfl rfl rfl rfl rfl (by decide) (Nat.le_of_ble_eq_true rfl) (fun v MC1 h1 => ?_)
  obtain ⟨z, rfl, h2⟩ := hj v MC1 h1
  refine ⟨z, rfl, ?_⟩
  show GL L xs 1018 _ [vi z] MC1 MM
  refine h_aload_n dL_law_1018 rfl rfl ?_
  refine h_aload_n dL_law_1019 rfl rfl ?_
  refine h_iload_n dL_law_1020 rfl rfl ?_
  refine h_iconst dL_law_1021 ?_
  refine h_iadd dL_law_1022 ?_
  refine h_sld (i + 1) hLL dL_law_1023 (by omega) (by omega) ?_
  refine h_aload_n dL_law_1024 rfl rfl ?_
  refine h_iload_n dL_law_1025 rfl rfl ?_
  refine h_iconst dL_law_1026 ?_
  refine h_iadd dL_law_1027 ?_
  refine h_sld (i + 2) hLL dL_law_1028 (by omega) (by omega) ?_
  refine h_aload_n dL_law_1029 rfl rfl ?_
  refine h_iload_n dL_law_1030 rfl rfl ?_
  refine h_iconst dL_law_1031 ?_
  refine h_iadd dL_law_1032 ?_
  refine h_sld (i + 3) hLL dL_law_1033 (by omega) (by omega) ?_
  refine h_ne0 (t1 := 1041) (t2 := 1042) dL_law_1034 rfl dL_law_1037 dL_law_1038 rfl dL_law_1041 rfl (x32 _).1 (x32 _).2 ?_
  refine h_callM dL_law_1042 lL_63 w2 rfl rfl rfl rfl rfl (by decide) (Nat.le_of_ble_eq_true rfl) (fun w MM1 h3 => ?_)
  obtain ⟨rfl, hI2⟩ := h2 w MM1 h3
  refine ⟨z, rfl, ?_⟩
  show GL L xs 1045 _ [vi z, vi z] MC1 MM1
  refine h_icmp_same (tgt := 1515) dL_law_1045 rfl ?_
  exact next _ _ hI2
theorem cs_10 {L : Nat} {xs : Nat → Int32} (hLL : L ≤ 4608) {i : Nat} (hi : i + 9 ≤ L) (next : ∀ MC MM, Inv MC MM → GL L xs 1515 [some (vr 0), some (vr 1), some (vr 2), some (vi (i : Int))] [] MC MM) {MC MM : Mem} (hI : Inv MC MM) : GL L xs 1050 [some (vr 0), some (vr 1), some (vr 2), some (vi (i : Int))] [] MC MM := by
  obtain ⟨P1, P2, w1, w2, hj⟩ := p_budget (c := (xs (i + 1)).toInt) (p := (xs (i + 2)).toInt) (x32 _).1 (x32 _).2 (x32 _).1 (x32 _).2 MC MM hI
  refine h_aload_n dL_law_1050 rfl rfl ?_
  refine h_aload_n dL_law_1051 rfl rfl ?_
  refine h_iload_n dL_law_1052 rfl rfl ?_
  refine h_iconst dL_law_1053 ?_
  refine h_iadd dL_law_1054 ?_
  refine h_sld (i + 1) hLL dL_law_1055 (by omega) (by omega) ?_
  refine h_aload_n dL_law_1056 rfl rfl ?_
  refine h_iload_n dL_law_1057 rfl rfl ?_
  refine h_iconst dL_law_1058 ?_
  refine h_iadd dL_law_1059 ?_
  refine h_sld (i + 2) hLL dL_law_1060 (by omega) (by omega) ?_
  refine h_callC dL_law_1061 lL_64 w1 rfl rfl rfl rfl rfl (by decide) (Nat.le_of_ble_eq_true rfl) (fun v MC1 h1 => ?_)
  obtain ⟨z, rfl, h2⟩ := hj v MC1 h1
  refine ⟨z, rfl, ?_⟩
  show GL L xs 1064 _ [vi z] MC1 MM
  refine h_aload_n dL_law_1064 rfl rfl ?_
  refine h_aload_n dL_law_1065 rfl rfl ?_
  refine h_iload_n dL_law_1066 rfl rfl ?_
  refine h_iconst dL_law_1067 ?_
  refine h_iadd dL_law_1068 ?_
  refine h_sld (i + 1) hLL dL_law_1069 (by omega) (by omega) ?_
  refine h_aload_n dL_law_1070 rfl rfl ?_
  refine h_iload_n dL_law_1071 rfl rfl ?_
  refine h_iconst dL_law_1072 ?_
  refine h_iadd dL_law_1073 ?_
  refine h_sld (i + 2) hLL dL_law_1074 (by omega) (by omega) ?_
  refine h_callM dL_law_1075 lL_68 w2 rfl rfl rfl rfl rfl (by decide) (Nat.le_of_ble_eq_true rfl) (fun w MM1 h3 => ?_)
  obtain ⟨rfl, hI2⟩ := h2 w MM1 h3
  refine ⟨z, rfl, ?_⟩
  show GL L xs 1078 _ [vi z, vi z] MC1 MM1
  refine h_icmp_same (tgt := 1515) dL_law_1078 rfl ?_
  exact next _ _ hI2
theorem cs_11 {L : Nat} {xs : Nat → Int32} (hLL : L ≤ 4608) {i : Nat} (hi : i + 9 ≤ L) (next : ∀ MC MM, Inv MC MM → GL L xs 1515 [some (vr 0), some (vr 1), some (vr 2), some (vi (i : Int))] [] MC MM) {MC MM : Mem} (hI : Inv MC MM) : GL L xs 1083 [some (vr 0), some (vr 1), some (vr 2), some (vi (i : Int))] [] MC MM := by
  obtain ⟨P1, P2, w1, w2, hj⟩ := p_far (a := lgv (xs (i + 1)) (xs (i + 2))) (b := lgv (xs (i + 3)) (xs (i + 4)))  MC MM hI
  refine h_aload_n dL_law_1083 rfl rfl ?_
  refine h_aload_n dL_law_1084 rfl rfl ?_
  refine h_iload_n dL_law_1085 rfl rfl ?_
  refine h_iconst dL_law_1086 ?_
  refine h_iadd dL_law_1087 ?_
  refine h_sld (i + 1) hLL dL_law_1088 (by omega) (by omega) ?_
  refine h_i2l dL_law_1089 rfl ?_
  refine h_bipush dL_law_1090 rfl ?_
  refine h_lshl dL_law_1092 ?_
  refine h_aload_n dL_law_1093 rfl rfl ?_
  refine h_iload_n dL_law_1094 rfl rfl ?_
  refine h_iconst dL_law_1095 ?_
  refine h_iadd dL_law_1096 ?_
  refine h_sld (i + 2) hLL dL_law_1097 (by omega) (by omega) ?_
  refine h_i2l dL_law_1098 rfl ?_
  refine h_ldc2 dL_law_1099 kLL_13 ?_
  refine h_land dL_law_1102 ?_
  refine h_lor dL_law_1103 ?_
  refine h_aload_n dL_law_1104 rfl rfl ?_
  refine h_iload_n dL_law_1105 rfl rfl ?_
  refine h_iconst dL_law_1106 ?_
  refine h_iadd dL_law_1107 ?_
  refine h_sld (i + 3) hLL dL_law_1108 (by omega) (by omega) ?_
  refine h_i2l dL_law_1109 rfl ?_
  refine h_bipush dL_law_1110 rfl ?_
  refine h_lshl dL_law_1112 ?_
  refine h_aload_n dL_law_1113 rfl rfl ?_
  refine h_iload_n dL_law_1114 rfl rfl ?_
  refine h_iconst dL_law_1115 ?_
  refine h_iadd dL_law_1116 ?_
  refine h_sld (i + 4) hLL dL_law_1117 (by omega) (by omega) ?_
  refine h_i2l dL_law_1118 rfl ?_
  refine h_ldc2 dL_law_1119 kLL_13 ?_
  refine h_land dL_law_1122 ?_
  refine h_lor dL_law_1123 ?_
  refine h_callC dL_law_1124 lL_69 w1 rfl rfl rfl rfl rfl (by decide) (Nat.le_of_ble_eq_true rfl) (fun v MC1 h1 => ?_)
  obtain ⟨z, rfl, h2⟩ := hj v MC1 h1
  refine ⟨z, rfl, ?_⟩
  show GL L xs 1127 _ [vi z] MC1 MM
  refine h_aload_n dL_law_1127 rfl rfl ?_
  refine h_aload_n dL_law_1128 rfl rfl ?_
  refine h_iload_n dL_law_1129 rfl rfl ?_
  refine h_iconst dL_law_1130 ?_
  refine h_iadd dL_law_1131 ?_
  refine h_sld (i + 1) hLL dL_law_1132 (by omega) (by omega) ?_
  refine h_i2l dL_law_1133 rfl ?_
  refine h_bipush dL_law_1134 rfl ?_
  refine h_lshl dL_law_1136 ?_
  refine h_aload_n dL_law_1137 rfl rfl ?_
  refine h_iload_n dL_law_1138 rfl rfl ?_
  refine h_iconst dL_law_1139 ?_
  refine h_iadd dL_law_1140 ?_
  refine h_sld (i + 2) hLL dL_law_1141 (by omega) (by omega) ?_
  refine h_i2l dL_law_1142 rfl ?_
  refine h_ldc2 dL_law_1143 kLL_13 ?_
  refine h_land dL_law_1146 ?_
  refine h_lor dL_law_1147 ?_
  refine h_aload_n dL_law_1148 rfl rfl ?_
  refine h_iload_n dL_law_1149 rfl rfl ?_
  refine h_iconst dL_law_1150 ?_
  refine h_iadd dL_law_1151 ?_
  refine h_sld (i + 3) hLL dL_law_1152 (by omega) (by omega) ?_
  refine h_i2l dL_law_1153 rfl ?_
  refine h_bipush dL_law_1154 rfl ?_
  refine h_lshl dL_law_1156 ?_
  refine h_aload_n dL_law_1157 rfl rfl ?_
  refine h_iload_n dL_law_1158 rfl rfl ?_
  refine h_iconst dL_law_1159 ?_
  refine h_iadd dL_law_1160 ?_
  refine h_sld (i + 4) hLL dL_law_1161 (by omega) (by omega) ?_
  refine h_i2l dL_law_1162 rfl ?_
  refine h_ldc2 dL_law_1163 kLL_13 ?_
  refine h_land dL_law_1166 ?_
  refine h_lor dL_law_1167 ?_
  refine h_callM dL_law_1168 lL_73 w2 rfl rfl rfl rfl rfl (by decide) (Nat.le_of_ble_eq_true rfl) (fun w MM1 h3 => ?_)
  obtain ⟨rfl, hI2⟩ := h2 w MM1 h3
  refine ⟨z, rfl, ?_⟩
  show GL L xs 1171 _ [vi z, vi z] MC1 MM1
  refine h_icmp_same (tgt := 1515) dL_law_1171 rfl ?_
  exact next _ _ hI2
theorem cs_12 {L : Nat} {xs : Nat → Int32} (hLL : L ≤ 4608) {i : Nat} (hi : i + 9 ≤ L) (next : ∀ MC MM, Inv MC MM → GL L xs 1515 [some (vr 0), some (vr 1), some (vr 2), some (vi (i : Int))] [] MC MM) {MC MM : Mem} (hI : Inv MC MM) : GL L xs 1176 [some (vr 0), some (vr 1), some (vr 2), some (vi (i : Int))] [] MC MM := by
  obtain ⟨P1, P2, w1, w2, hj⟩ := p_role (r := (xs (i + 1)).toInt) (w := (xs (i + 2)).toInt) (x32 _).1 (x32 _).2 (x32 _).1 (x32 _).2 MC MM hI
  refine h_aload_n dL_law_1176 rfl rfl ?_
  refine h_aload_n dL_law_1177 rfl rfl ?_
  refine h_iload_n dL_law_1178 rfl rfl ?_
  refine h_iconst dL_law_1179 ?_
  refine h_iadd dL_law_1180 ?_
  refine h_sld (i + 1) hLL dL_law_1181 (by omega) (by omega) ?_
  refine h_aload_n dL_law_1182 rfl rfl ?_
  refine h_iload_n dL_law_1183 rfl rfl ?_
  refine h_iconst dL_law_1184 ?_
  refine h_iadd dL_law_1185 ?_
  refine h_sld (i + 2) hLL dL_law_1186 (by omega) (by omega) ?_
  refine h_callC dL_law_1187 lL_74 w1 rfl rfl rfl rfl rfl (by decide) (Nat.le_of_ble_eq_true rfl) (fun v MC1 h1 => ?_)
  obtain ⟨z, rfl, h2⟩ := hj v MC1 h1
  refine ⟨z, rfl, ?_⟩
  show GL L xs 1190 _ [vi z] MC1 MM
  refine h_aload_n dL_law_1190 rfl rfl ?_
  refine h_aload_n dL_law_1191 rfl rfl ?_
  refine h_iload_n dL_law_1192 rfl rfl ?_
  refine h_iconst dL_law_1193 ?_
  refine h_iadd dL_law_1194 ?_
  refine h_sld (i + 1) hLL dL_law_1195 (by omega) (by omega) ?_
  refine h_aload_n dL_law_1196 rfl rfl ?_
  refine h_iload_n dL_law_1197 rfl rfl ?_
  refine h_iconst dL_law_1198 ?_
  refine h_iadd dL_law_1199 ?_
  refine h_sld (i + 2) hLL dL_law_1200 (by omega) (by omega) ?_
  refine h_callM dL_law_1201 lL_78 w2 rfl rfl rfl rfl rfl (by decide) (Nat.le_of_ble_eq_true rfl) (fun w MM1 h3 => ?_)
  obtain ⟨rfl, hI2⟩ := h2 w MM1 h3
  refine ⟨z, rfl, ?_⟩
  show GL L xs 1204 _ [vi z, vi z] MC1 MM1
  refine h_icmp_same (tgt := 1515) dL_law_1204 rfl ?_
  exact next _ _ hI2
theorem cs_13 {L : Nat} {xs : Nat → Int32} (hLL : L ≤ 4608) {i : Nat} (hi : i + 9 ≤ L) (next : ∀ MC MM, Inv MC MM → GL L xs 1515 [some (vr 0), some (vr 1), some (vr 2), some (vi (i : Int))] [] MC MM) {MC MM : Mem} (hI : Inv MC MM) : GL L xs 1209 [some (vr 0), some (vr 1), some (vr 2), some (vi (i : Int))] [] MC MM := by
  obtain ⟨P1, P2, w1, w2, hj⟩ := p_ways   MC MM hI
  refine h_aload_n dL_law_1209 rfl rfl ?_
  refine h_callC dL_law_1210 lL_79 w1 rfl rfl rfl rfl rfl (by decide) (Nat.le_of_ble_eq_true rfl) (fun v MC1 h1 => ?_)
  obtain ⟨z, rfl, h2⟩ := hj v MC1 h1
  refine ⟨z, rfl, ?_⟩
  show GL L xs 1213 _ [vi z] MC1 MM
  refine h_aload_n dL_law_1213 rfl rfl ?_
  refine h_callM dL_law_1214 lL_83 w2 rfl rfl rfl rfl rfl (by decide) (Nat.le_of_ble_eq_true rfl) (fun w MM1 h3 => ?_)
  obtain ⟨rfl, hI2⟩ := h2 w MM1 h3
  refine ⟨z, rfl, ?_⟩
  show GL L xs 1217 _ [vi z, vi z] MC1 MM1
  refine h_icmp_same (tgt := 1515) dL_law_1217 rfl ?_
  exact next _ _ hI2
theorem cs_14 {L : Nat} {xs : Nat → Int32} (hLL : L ≤ 4608) {i : Nat} (hi : i + 9 ≤ L) (next : ∀ MC MM, Inv MC MM → GL L xs 1515 [some (vr 0), some (vr 1), some (vr 2), some (vi (i : Int))] [] MC MM) {MC MM : Mem} (hI : Inv MC MM) : GL L xs 1222 [some (vr 0), some (vr 1), some (vr 2), some (vi (i : Int))] [] MC MM := by
  obtain ⟨P1, P2, w1, w2, hj⟩ := p_person (k := (xs (i + 1)).toInt) (r := (xs (i + 2)).toInt) (x32 _).1 (x32 _).2 (x32 _).1 (x32 _).2 MC MM hI
  refine h_aload_n dL_law_1222 rfl rfl ?_
  refine h_aload_n dL_law_1223 rfl rfl ?_
  refine h_iload_n dL_law_1224 rfl rfl ?_
  refine h_iconst dL_law_1225 ?_
  refine h_iadd dL_law_1226 ?_
  refine h_sld (i + 1) hLL dL_law_1227 (by omega) (by omega) ?_
  refine h_aload_n dL_law_1228 rfl rfl ?_
  refine h_iload_n dL_law_1229 rfl rfl ?_
  refine h_iconst dL_law_1230 ?_
  refine h_iadd dL_law_1231 ?_
  refine h_sld (i + 2) hLL dL_law_1232 (by omega) (by omega) ?_
  refine h_callC dL_law_1233 lL_84 w1 rfl rfl rfl rfl rfl (by decide) (Nat.le_of_ble_eq_true rfl) (fun v MC1 h1 => ?_)
  obtain ⟨z, rfl, h2⟩ := hj v MC1 h1
  refine ⟨z, rfl, ?_⟩
  show GL L xs 1236 _ [vi z] MC1 MM
  refine h_aload_n dL_law_1236 rfl rfl ?_
  refine h_aload_n dL_law_1237 rfl rfl ?_
  refine h_iload_n dL_law_1238 rfl rfl ?_
  refine h_iconst dL_law_1239 ?_
  refine h_iadd dL_law_1240 ?_
  refine h_sld (i + 1) hLL dL_law_1241 (by omega) (by omega) ?_
  refine h_aload_n dL_law_1242 rfl rfl ?_
  refine h_iload_n dL_law_1243 rfl rfl ?_
  refine h_iconst dL_law_1244 ?_
  refine h_iadd dL_law_1245 ?_
  refine h_sld (i + 2) hLL dL_law_1246 (by omega) (by omega) ?_
  refine h_callM dL_law_1247 lL_87 w2 rfl rfl rfl rfl rfl (by decide) (Nat.le_of_ble_eq_true rfl) (fun w MM1 h3 => ?_)
  obtain ⟨rfl, hI2⟩ := h2 w MM1 h3
  refine ⟨z, rfl, ?_⟩
  show GL L xs 1250 _ [vi z, vi z] MC1 MM1
  refine h_icmp_same (tgt := 1515) dL_law_1250 rfl ?_
  exact next _ _ hI2
theorem cs_15 {L : Nat} {xs : Nat → Int32} (hLL : L ≤ 4608) {i : Nat} (hi : i + 9 ≤ L) (next : ∀ MC MM, Inv MC MM → GL L xs 1515 [some (vr 0), some (vr 1), some (vr 2), some (vi (i : Int))] [] MC MM) {MC MM : Mem} (hI : Inv MC MM) : GL L xs 1255 [some (vr 0), some (vr 1), some (vr 2), some (vi (i : Int))] [] MC MM := by
  obtain ⟨P1, P2, w1, w2, hj⟩ := p_cost (k := (xs (i + 1)).toInt) (x32 _).1 (x32 _).2 MC MM hI
  refine h_aload_n dL_law_1255 rfl rfl ?_
  refine h_aload_n dL_law_1256 rfl rfl ?_
  refine h_iload_n dL_law_1257 rfl rfl ?_
  refine h_iconst dL_law_1258 ?_
  refine h_iadd dL_law_1259 ?_
  refine h_sld (i + 1) hLL dL_law_1260 (by omega) (by omega) ?_
  refine h_callC dL_law_1261 lL_88 w1 rfl rfl rfl rfl rfl (by decide) (Nat.le_of_ble_eq_true rfl) (fun v MC1 h1 => ?_)
  obtain ⟨z, rfl, h2⟩ := hj v MC1 h1
  refine ⟨z, rfl, ?_⟩
  show GL L xs 1264 _ [vi z] MC1 MM
  refine h_aload_n dL_law_1264 rfl rfl ?_
  refine h_aload_n dL_law_1265 rfl rfl ?_
  refine h_iload_n dL_law_1266 rfl rfl ?_
  refine h_iconst dL_law_1267 ?_
  refine h_iadd dL_law_1268 ?_
  refine h_sld (i + 1) hLL dL_law_1269 (by omega) (by omega) ?_
  refine h_callM dL_law_1270 lL_92 w2 rfl rfl rfl rfl rfl (by decide) (Nat.le_of_ble_eq_true rfl) (fun w MM1 h3 => ?_)
  obtain ⟨rfl, hI2⟩ := h2 w MM1 h3
  refine ⟨z, rfl, ?_⟩
  show GL L xs 1273 _ [vi z, vi z] MC1 MM1
  refine h_icmp_same (tgt := 1515) dL_law_1273 rfl ?_
  exact next _ _ hI2
theorem cs_16 {L : Nat} {xs : Nat → Int32} (hLL : L ≤ 4608) {i : Nat} (hi : i + 9 ≤ L) (next : ∀ MC MM, Inv MC MM → GL L xs 1515 [some (vr 0), some (vr 1), some (vr 2), some (vi (i : Int))] [] MC MM) {MC MM : Mem} (hI : Inv MC MM) : GL L xs 1278 [some (vr 0), some (vr 1), some (vr 2), some (vi (i : Int))] [] MC MM := by
  obtain ⟨P1, P2, w1, w2, hj⟩ := p_link (a := (xs (i + 1)).toInt) (c := (xs (i + 2)).toInt) (x32 _).1 (x32 _).2 (x32 _).1 (x32 _).2 MC MM hI
  refine h_aload_n dL_law_1278 rfl rfl ?_
  refine h_aload_n dL_law_1279 rfl rfl ?_
  refine h_iload_n dL_law_1280 rfl rfl ?_
  refine h_iconst dL_law_1281 ?_
  refine h_iadd dL_law_1282 ?_
  refine h_sld (i + 1) hLL dL_law_1283 (by omega) (by omega) ?_
  refine h_aload_n dL_law_1284 rfl rfl ?_
  refine h_iload_n dL_law_1285 rfl rfl ?_
  refine h_iconst dL_law_1286 ?_
  refine h_iadd dL_law_1287 ?_
  refine h_sld (i + 2) hLL dL_law_1288 (by omega) (by omega) ?_
  refine h_callC dL_law_1289 lL_93 w1 rfl rfl rfl rfl rfl (by decide) (Nat.le_of_ble_eq_true rfl) (fun v MC1 h1 => ?_)
  obtain ⟨z, rfl, h2⟩ := hj v MC1 h1
  refine ⟨z, rfl, ?_⟩
  show GL L xs 1292 _ [vi z] MC1 MM
  refine h_aload_n dL_law_1292 rfl rfl ?_
  refine h_aload_n dL_law_1293 rfl rfl ?_
  refine h_iload_n dL_law_1294 rfl rfl ?_
  refine h_iconst dL_law_1295 ?_
  refine h_iadd dL_law_1296 ?_
  refine h_sld (i + 1) hLL dL_law_1297 (by omega) (by omega) ?_
  refine h_aload_n dL_law_1298 rfl rfl ?_
  refine h_iload_n dL_law_1299 rfl rfl ?_
  refine h_iconst dL_law_1300 ?_
  refine h_iadd dL_law_1301 ?_
  refine h_sld (i + 2) hLL dL_law_1302 (by omega) (by omega) ?_
  refine h_callM dL_law_1303 lL_96 w2 rfl rfl rfl rfl rfl (by decide) (Nat.le_of_ble_eq_true rfl) (fun w MM1 h3 => ?_)
  obtain ⟨rfl, hI2⟩ := h2 w MM1 h3
  refine ⟨z, rfl, ?_⟩
  show GL L xs 1306 _ [vi z, vi z] MC1 MM1
  refine h_icmp_same (tgt := 1515) dL_law_1306 rfl ?_
  exact next _ _ hI2
theorem cs_17 {L : Nat} {xs : Nat → Int32} (hLL : L ≤ 4608) {i : Nat} (hi : i + 9 ≤ L) (next : ∀ MC MM, Inv MC MM → GL L xs 1515 [some (vr 0), some (vr 1), some (vr 2), some (vi (i : Int))] [] MC MM) {MC MM : Mem} (hI : Inv MC MM) : GL L xs 1311 [some (vr 0), some (vr 1), some (vr 2), some (vi (i : Int))] [] MC MM := by
  obtain ⟨P1, P2, w1, w2, hj⟩ := p_first (a := (xs (i + 1)).toInt) (c := (xs (i + 2)).toInt) (z := bi ((xs (i + 3)).toInt ≠ 0)) (bi_01 _) (x32 _).1 (x32 _).2 (x32 _).1 (x32 _).2 MC MM hI
  refine h_aload_n dL_law_1311 rfl rfl ?_
  refine h_aload_n dL_law_1312 rfl rfl ?_
  refine h_iload_n dL_law_1313 rfl rfl ?_
  refine h_iconst dL_law_1314 ?_
  refine h_iadd dL_law_1315 ?_
  refine h_sld (i + 1) hLL dL_law_1316 (by omega) (by omega) ?_
  refine h_aload_n dL_law_1317 rfl rfl ?_
  refine h_iload_n dL_law_1318 rfl rfl ?_
  refine h_iconst dL_law_1319 ?_
  refine h_iadd dL_law_1320 ?_
  refine h_sld (i + 2) hLL dL_law_1321 (by omega) (by omega) ?_
  refine h_aload_n dL_law_1322 rfl rfl ?_
  refine h_iload_n dL_law_1323 rfl rfl ?_
  refine h_iconst dL_law_1324 ?_
  refine h_iadd dL_law_1325 ?_
  refine h_sld (i + 3) hLL dL_law_1326 (by omega) (by omega) ?_
  refine h_ne0 (t1 := 1334) (t2 := 1335) dL_law_1327 rfl dL_law_1330 dL_law_1331 rfl dL_law_1334 rfl (x32 _).1 (x32 _).2 ?_
  refine h_callC dL_law_1335 lL_97 w1 rfl rfl rfl rfl rfl (by decide) (Nat.le_of_ble_eq_true rfl) (fun v MC1 h1 => ?_)
  obtain ⟨z, rfl, h2⟩ := hj v MC1 h1
  refine ⟨z, rfl, ?_⟩
  show GL L xs 1338 _ [vi z] MC1 MM
  refine h_aload_n dL_law_1338 rfl rfl ?_
  refine h_aload_n dL_law_1339 rfl rfl ?_
  refine h_iload_n dL_law_1340 rfl rfl ?_
  refine h_iconst dL_law_1341 ?_
  refine h_iadd dL_law_1342 ?_
  refine h_sld (i + 1) hLL dL_law_1343 (by omega) (by omega) ?_
  refine h_aload_n dL_law_1344 rfl rfl ?_
  refine h_iload_n dL_law_1345 rfl rfl ?_
  refine h_iconst dL_law_1346 ?_
  refine h_iadd dL_law_1347 ?_
  refine h_sld (i + 2) hLL dL_law_1348 (by omega) (by omega) ?_
  refine h_aload_n dL_law_1349 rfl rfl ?_
  refine h_iload_n dL_law_1350 rfl rfl ?_
  refine h_iconst dL_law_1351 ?_
  refine h_iadd dL_law_1352 ?_
  refine h_sld (i + 3) hLL dL_law_1353 (by omega) (by omega) ?_
  refine h_ne0 (t1 := 1361) (t2 := 1362) dL_law_1354 rfl dL_law_1357 dL_law_1358 rfl dL_law_1361 rfl (x32 _).1 (x32 _).2 ?_
  refine h_callM dL_law_1362 lL_101 w2 rfl rfl rfl rfl rfl (by decide) (Nat.le_of_ble_eq_true rfl) (fun w MM1 h3 => ?_)
  obtain ⟨rfl, hI2⟩ := h2 w MM1 h3
  refine ⟨z, rfl, ?_⟩
  show GL L xs 1365 _ [vi z, vi z] MC1 MM1
  refine h_icmp_same (tgt := 1515) dL_law_1365 rfl ?_
  exact next _ _ hI2
theorem cs_18 {L : Nat} {xs : Nat → Int32} (hLL : L ≤ 4608) {i : Nat} (hi : i + 9 ≤ L) (next : ∀ MC MM, Inv MC MM → GL L xs 1515 [some (vr 0), some (vr 1), some (vr 2), some (vi (i : Int))] [] MC MM) {MC MM : Mem} (hI : Inv MC MM) : GL L xs 1370 [some (vr 0), some (vr 1), some (vr 2), some (vi (i : Int))] [] MC MM := by
  obtain ⟨P1, P2, w1, w2, hj⟩ := p_why (a := (xs (i + 1)).toInt) (c := (xs (i + 2)).toInt) (x32 _).1 (x32 _).2 (x32 _).1 (x32 _).2 MC MM hI
  refine h_aload_n dL_law_1370 rfl rfl ?_
  refine h_aload_n dL_law_1371 rfl rfl ?_
  refine h_iload_n dL_law_1372 rfl rfl ?_
  refine h_iconst dL_law_1373 ?_
  refine h_iadd dL_law_1374 ?_
  refine h_sld (i + 1) hLL dL_law_1375 (by omega) (by omega) ?_
  refine h_aload_n dL_law_1376 rfl rfl ?_
  refine h_iload_n dL_law_1377 rfl rfl ?_
  refine h_iconst dL_law_1378 ?_
  refine h_iadd dL_law_1379 ?_
  refine h_sld (i + 2) hLL dL_law_1380 (by omega) (by omega) ?_
  refine h_callC dL_law_1381 lL_102 w1 rfl rfl rfl rfl rfl (by decide) (Nat.le_of_ble_eq_true rfl) (fun v MC1 h1 => ?_)
  obtain ⟨z, rfl, h2⟩ := hj v MC1 h1
  refine ⟨z, rfl, ?_⟩
  show GL L xs 1384 _ [vi z] MC1 MM
  refine h_aload_n dL_law_1384 rfl rfl ?_
  refine h_aload_n dL_law_1385 rfl rfl ?_
  refine h_iload_n dL_law_1386 rfl rfl ?_
  refine h_iconst dL_law_1387 ?_
  refine h_iadd dL_law_1388 ?_
  refine h_sld (i + 1) hLL dL_law_1389 (by omega) (by omega) ?_
  refine h_aload_n dL_law_1390 rfl rfl ?_
  refine h_iload_n dL_law_1391 rfl rfl ?_
  refine h_iconst dL_law_1392 ?_
  refine h_iadd dL_law_1393 ?_
  refine h_sld (i + 2) hLL dL_law_1394 (by omega) (by omega) ?_
  refine h_callM dL_law_1395 lL_105 w2 rfl rfl rfl rfl rfl (by decide) (Nat.le_of_ble_eq_true rfl) (fun w MM1 h3 => ?_)
  obtain ⟨rfl, hI2⟩ := h2 w MM1 h3
  refine ⟨z, rfl, ?_⟩
  show GL L xs 1398 _ [vi z, vi z] MC1 MM1
  refine h_icmp_same (tgt := 1515) dL_law_1398 rfl ?_
  exact next _ _ hI2
theorem cs_19 {L : Nat} {xs : Nat → Int32} (hLL : L ≤ 4608) {i : Nat} (hi : i + 9 ≤ L) (next : ∀ MC MM, Inv MC MM → GL L xs 1515 [some (vr 0), some (vr 1), some (vr 2), some (vi (i : Int))] [] MC MM) {MC MM : Mem} (hI : Inv MC MM) : GL L xs 1403 [some (vr 0), some (vr 1), some (vr 2), some (vi (i : Int))] [] MC MM := by
  obtain ⟨P1, P2, w1, w2, hj⟩ := p_quarrel   MC MM hI
  refine h_aload_n dL_law_1403 rfl rfl ?_
  refine h_callC dL_law_1404 lL_106 w1 rfl rfl rfl rfl rfl (by decide) (Nat.le_of_ble_eq_true rfl) (fun v MC1 h1 => ?_)
  obtain ⟨z, rfl, h2⟩ := hj v MC1 h1
  refine ⟨z, rfl, ?_⟩
  show GL L xs 1407 _ [vi z] MC1 MM
  refine h_aload_n dL_law_1407 rfl rfl ?_
  refine h_callM dL_law_1408 lL_109 w2 rfl rfl rfl rfl rfl (by decide) (Nat.le_of_ble_eq_true rfl) (fun w MM1 h3 => ?_)
  obtain ⟨rfl, hI2⟩ := h2 w MM1 h3
  refine ⟨z, rfl, ?_⟩
  show GL L xs 1411 _ [vi z, vi z] MC1 MM1
  refine h_icmp_same (tgt := 1515) dL_law_1411 rfl ?_
  exact next _ _ hI2
theorem cs_20 {L : Nat} {xs : Nat → Int32} (hLL : L ≤ 4608) {i : Nat} (hi : i + 9 ≤ L) (next : ∀ MC MM, Inv MC MM → GL L xs 1515 [some (vr 0), some (vr 1), some (vr 2), some (vi (i : Int))] [] MC MM) {MC MM : Mem} (hI : Inv MC MM) : GL L xs 1416 [some (vr 0), some (vr 1), some (vr 2), some (vi (i : Int))] [] MC MM := by
  obtain ⟨P1, P2, w1, w2, hj⟩ := p_kin (k := (xs (i + 1)).toInt) (a := (xs (i + 2)).toInt) (c := (xs (i + 3)).toInt) (x32 _).1 (x32 _).2 (x32 _).1 (x32 _).2 (x32 _).1 (x32 _).2 MC MM hI
  refine h_aload_n dL_law_1416 rfl rfl ?_
  refine h_aload_n dL_law_1417 rfl rfl ?_
  refine h_iload_n dL_law_1418 rfl rfl ?_
  refine h_iconst dL_law_1419 ?_
  refine h_iadd dL_law_1420 ?_
  refine h_sld (i + 1) hLL dL_law_1421 (by omega) (by omega) ?_
  refine h_aload_n dL_law_1422 rfl rfl ?_
  refine h_iload_n dL_law_1423 rfl rfl ?_
  refine h_iconst dL_law_1424 ?_
  refine h_iadd dL_law_1425 ?_
  refine h_sld (i + 2) hLL dL_law_1426 (by omega) (by omega) ?_
  refine h_aload_n dL_law_1427 rfl rfl ?_
  refine h_iload_n dL_law_1428 rfl rfl ?_
  refine h_iconst dL_law_1429 ?_
  refine h_iadd dL_law_1430 ?_
  refine h_sld (i + 3) hLL dL_law_1431 (by omega) (by omega) ?_
  refine h_callC dL_law_1432 lL_110 w1 rfl rfl rfl rfl rfl (by decide) (Nat.le_of_ble_eq_true rfl) (fun v MC1 h1 => ?_)
  obtain ⟨z, rfl, h2⟩ := hj v MC1 h1
  refine ⟨z, rfl, ?_⟩
  show GL L xs 1435 _ [vi z] MC1 MM
  refine h_aload_n dL_law_1435 rfl rfl ?_
  refine h_aload_n dL_law_1436 rfl rfl ?_
  refine h_iload_n dL_law_1437 rfl rfl ?_
  refine h_iconst dL_law_1438 ?_
  refine h_iadd dL_law_1439 ?_
  refine h_sld (i + 1) hLL dL_law_1440 (by omega) (by omega) ?_
  refine h_aload_n dL_law_1441 rfl rfl ?_
  refine h_iload_n dL_law_1442 rfl rfl ?_
  refine h_iconst dL_law_1443 ?_
  refine h_iadd dL_law_1444 ?_
  refine h_sld (i + 2) hLL dL_law_1445 (by omega) (by omega) ?_
  refine h_aload_n dL_law_1446 rfl rfl ?_
  refine h_iload_n dL_law_1447 rfl rfl ?_
  refine h_iconst dL_law_1448 ?_
  refine h_iadd dL_law_1449 ?_
  refine h_sld (i + 3) hLL dL_law_1450 (by omega) (by omega) ?_
  refine h_callM dL_law_1451 lL_114 w2 rfl rfl rfl rfl rfl (by decide) (Nat.le_of_ble_eq_true rfl) (fun w MM1 h3 => ?_)
  obtain ⟨rfl, hI2⟩ := h2 w MM1 h3
  refine ⟨z, rfl, ?_⟩
  show GL L xs 1454 _ [vi z, vi z] MC1 MM1
  refine h_icmp_same (tgt := 1515) dL_law_1454 rfl ?_
  exact next _ _ hI2
theorem cs_21 {L : Nat} {xs : Nat → Int32} (hLL : L ≤ 4608) {i : Nat} (hi : i + 9 ≤ L) (next : ∀ MC MM, Inv MC MM → GL L xs 1515 [some (vr 0), some (vr 1), some (vr 2), some (vi (i : Int))] [] MC MM) {MC MM : Mem} (hI : Inv MC MM) : GL L xs 1459 [some (vr 0), some (vr 1), some (vr 2), some (vi (i : Int))] [] MC MM := by
  obtain ⟨P1, P2, w1, w2, hj⟩ := p_always (a := (xs (i + 1)).toInt) (c := (xs (i + 2)).toInt) (x32 _).1 (x32 _).2 (x32 _).1 (x32 _).2 MC MM hI
  refine h_aload_n dL_law_1459 rfl rfl ?_
  refine h_aload_n dL_law_1460 rfl rfl ?_
  refine h_iload_n dL_law_1461 rfl rfl ?_
  refine h_iconst dL_law_1462 ?_
  refine h_iadd dL_law_1463 ?_
  refine h_sld (i + 1) hLL dL_law_1464 (by omega) (by omega) ?_
  refine h_aload_n dL_law_1465 rfl rfl ?_
  refine h_iload_n dL_law_1466 rfl rfl ?_
  refine h_iconst dL_law_1467 ?_
  refine h_iadd dL_law_1468 ?_
  refine h_sld (i + 2) hLL dL_law_1469 (by omega) (by omega) ?_
  refine h_callC dL_law_1470 lL_115 w1 rfl rfl rfl rfl rfl (by decide) (Nat.le_of_ble_eq_true rfl) (fun v MC1 h1 => ?_)
  obtain ⟨z, rfl, h2⟩ := hj v MC1 h1
  refine ⟨z, rfl, ?_⟩
  show GL L xs 1473 _ [vi z] MC1 MM
  refine h_aload_n dL_law_1473 rfl rfl ?_
  refine h_aload_n dL_law_1474 rfl rfl ?_
  refine h_iload_n dL_law_1475 rfl rfl ?_
  refine h_iconst dL_law_1476 ?_
  refine h_iadd dL_law_1477 ?_
  refine h_sld (i + 1) hLL dL_law_1478 (by omega) (by omega) ?_
  refine h_aload_n dL_law_1479 rfl rfl ?_
  refine h_iload_n dL_law_1480 rfl rfl ?_
  refine h_iconst dL_law_1481 ?_
  refine h_iadd dL_law_1482 ?_
  refine h_sld (i + 2) hLL dL_law_1483 (by omega) (by omega) ?_
  refine h_callM dL_law_1484 lL_118 w2 rfl rfl rfl rfl rfl (by decide) (Nat.le_of_ble_eq_true rfl) (fun w MM1 h3 => ?_)
  obtain ⟨rfl, hI2⟩ := h2 w MM1 h3
  refine ⟨z, rfl, ?_⟩
  show GL L xs 1487 _ [vi z, vi z] MC1 MM1
  refine h_icmp_same (tgt := 1515) dL_law_1487 rfl ?_
  exact next _ _ hI2
theorem cs_22 {L : Nat} {xs : Nat → Int32} (hLL : L ≤ 4608) {i : Nat} (hi : i + 9 ≤ L) (next : ∀ MC MM, Inv MC MM → GL L xs 1515 [some (vr 0), some (vr 1), some (vr 2), some (vi (i : Int))] [] MC MM) {MC MM : Mem} (hI : Inv MC MM) : GL L xs 1492 [some (vr 0), some (vr 1), some (vr 2), some (vi (i : Int))] [] MC MM := by
  obtain ⟨P1, P2, w1, w2, hj⟩ := p_about (w := (xs (i + 1)).toInt) (x32 _).1 (x32 _).2 MC MM hI
  refine h_aload_n dL_law_1492 rfl rfl ?_
  refine h_aload_n dL_law_1493 rfl rfl ?_
  refine h_iload_n dL_law_1494 rfl rfl ?_
  refine h_iconst dL_law_1495 ?_
  refine h_iadd dL_law_1496 ?_
  refine h_sld (i + 1) hLL dL_law_1497 (by omega) (by omega) ?_
  refine h_callC dL_law_1498 lL_119 w1 rfl rfl rfl rfl rfl (by decide) (Nat.le_of_ble_eq_true rfl) (fun v MC1 h1 => ?_)
  obtain ⟨z, rfl, h2⟩ := hj v MC1 h1
  refine ⟨z, rfl, ?_⟩
  show GL L xs 1501 _ [vi z] MC1 MM
  refine h_aload_n dL_law_1501 rfl rfl ?_
  refine h_aload_n dL_law_1502 rfl rfl ?_
  refine h_iload_n dL_law_1503 rfl rfl ?_
  refine h_iconst dL_law_1504 ?_
  refine h_iadd dL_law_1505 ?_
  refine h_sld (i + 1) hLL dL_law_1506 (by omega) (by omega) ?_
  refine h_callM dL_law_1507 lL_122 w2 rfl rfl rfl rfl rfl (by decide) (Nat.le_of_ble_eq_true rfl) (fun w MM1 h3 => ?_)
  obtain ⟨rfl, hI2⟩ := h2 w MM1 h3
  refine ⟨z, rfl, ?_⟩
  show GL L xs 1510 _ [vi z, vi z] MC1 MM1
  refine h_icmp_same (tgt := 1515) dL_law_1510 rfl ?_
  exact next _ _ hI2
