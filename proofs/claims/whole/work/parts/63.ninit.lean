/-! MODULE 59: the constructors. -/
theorem ar_int : Cond.arrayClass .int ∈ goodTbl := gmem 135 (by decide +kernel)
theorem ar_long : Cond.arrayClass .long ∈ goodTbl := gmem 136 (by decide +kernel)
theorem ar_boolean : Cond.arrayClass .boolean ∈ goodTbl := gmem 187 (by decide +kernel)
theorem ar_byte : Cond.arrayClass .byte ∈ goodTbl := gmem 944 (by decide +kernel)
theorem ob_i : Cond.instanceMethod Lib.objectInit ∈ goodTbl := gmem 69 (by decide +kernel)
theorem ob_c : Cond.code Lib.objectInit ⟨#[0xb1]⟩ 1 none ∈ goodTbl := gmem 70 (by decide +kernel)
abbrev Mz : Mem := (fun _ _ => 0, fun _ _ => 0)
theorem fsX9 : ∀ ad j, j < 8 → defaultValue (tyX9 j) = vp_V (fvN ad (fun _ => 0) 0 [some 1000, some 1000, some 1000, some 1000, some 1000, some 1000, some 1000, none]) j := by
  intro ad j hj
  rcases (show j = 0 ∨ j = 1 ∨ j = 2 ∨ j = 3 ∨ j = 4 ∨ j = 5 ∨ j = 6 ∨ j = 7 by omega) with rfl | rfl | rfl | rfl | rfl | rfl | rfl | rfl <;> rfl
theorem inX9 : Cond.instantiable RX9 8 ∈ goodTbl := gmem 64 (by decide +kernel)
theorem iiX9 : Cond.initialized RX9 ∈ goodTbl := gmem 48 (by decide +kernel)
theorem fsX10 : ∀ ad j, j < 42 → defaultValue (tyX10 j) = vp_V (fvN ad (fun _ => 0) 0 [some 1000, some 1000, some 1000, some 1000, some 1000, some 1000, some 1000, some 1000, some 1000, some 1000, some 1000, some 1000, none, none, none, none, none, none, none, none, none, none, some 1000, some 1000, some 1000, some 1000, some 1000, some 1000, none, none, none, none, none, none, none, some 1000, some 1000, none, none, none, some 1000, some 1000]) j := by
  intro ad j hj
  rcases (show j = 0 ∨ j = 1 ∨ j = 2 ∨ j = 3 ∨ j = 4 ∨ j = 5 ∨ j = 6 ∨ j = 7 ∨ j = 8 ∨ j = 9 ∨ j = 10 ∨ j = 11 ∨ j = 12 ∨ j = 13 ∨ j = 14 ∨ j = 15 ∨ j = 16 ∨ j = 17 ∨ j = 18 ∨ j = 19 ∨ j = 20 ∨ j = 21 ∨ j = 22 ∨ j = 23 ∨ j = 24 ∨ j = 25 ∨ j = 26 ∨ j = 27 ∨ j = 28 ∨ j = 29 ∨ j = 30 ∨ j = 31 ∨ j = 32 ∨ j = 33 ∨ j = 34 ∨ j = 35 ∨ j = 36 ∨ j = 37 ∨ j = 38 ∨ j = 39 ∨ j = 40 ∨ j = 41 by omega) with rfl | rfl | rfl | rfl | rfl | rfl | rfl | rfl | rfl | rfl | rfl | rfl | rfl | rfl | rfl | rfl | rfl | rfl | rfl | rfl | rfl | rfl | rfl | rfl | rfl | rfl | rfl | rfl | rfl | rfl | rfl | rfl | rfl | rfl | rfl | rfl | rfl | rfl | rfl | rfl | rfl | rfl <;> rfl
theorem inX10 : Cond.instantiable RX10 42 ∈ goodTbl := gmem 811 (by decide +kernel)
theorem iiX10 : Cond.initialized RX10 ∈ goodTbl := gmem 58 (by decide +kernel)
theorem moX9 : Cond.methodLink RX9 3 Lib.objectInit ∈ goodTbl := gmem 68 (by decide +kernel)
theorem fsX0 : ∀ ad j, j < 13 → defaultValue (tyX0 j) = vp_V (fvN ad (fun _ => 0) 0 [some 1000, some 1000, some 1000, some 1000, some 1000, some 1000, some 1000, some 1000, some 1000, some 1000, none, none, none]) j := by
  intro ad j hj
  rcases (show j = 0 ∨ j = 1 ∨ j = 2 ∨ j = 3 ∨ j = 4 ∨ j = 5 ∨ j = 6 ∨ j = 7 ∨ j = 8 ∨ j = 9 ∨ j = 10 ∨ j = 11 ∨ j = 12 by omega) with rfl | rfl | rfl | rfl | rfl | rfl | rfl | rfl | rfl | rfl | rfl | rfl | rfl <;> rfl
theorem inX0 : Cond.instantiable RX0 13 ∈ goodTbl := gmem 72 (by decide +kernel)
theorem iiX0 : Cond.initialized RX0 ∈ goodTbl := gmem 49 (by decide +kernel)
theorem clX9_9 : Cond.classLink RX9 9 RX0 ∈ goodTbl := gmem 71 (by decide +kernel)
theorem liX9_11 : IOK RX9 11 mX0_init 0 := ⟨Or.inr ⟨"KinBench", nmem 73 (by decide +kernel)⟩, gmem 74 (by decide +kernel), gmem 49 (by decide +kernel), kcX0_init, by decide, by decide +kernel, rfl, rfl⟩
theorem moX0 : Cond.methodLink RX0 3 Lib.objectInit ∈ goodTbl := gmem 76 (by decide +kernel)
theorem nfX0_9 : Cond.fieldLink RX0 9 RX0 (TX0 0).2.1 (TX0 0).2.2.1 ∈ goodTbl := gmem 77 (by decide +kernel)
theorem nfX0_15 : Cond.fieldLink RX0 15 RX0 (TX0 1).2.1 (TX0 1).2.2.1 ∈ goodTbl := gmem 78 (by decide +kernel)
theorem nfX0_18 : Cond.fieldLink RX0 18 RX0 (TX0 2).2.1 (TX0 2).2.2.1 ∈ goodTbl := gmem 79 (by decide +kernel)
theorem nfX0_21 : Cond.fieldLink RX0 21 RX0 (TX0 3).2.1 (TX0 3).2.2.1 ∈ goodTbl := gmem 80 (by decide +kernel)
theorem nfX0_24 : Cond.fieldLink RX0 24 RX0 (TX0 4).2.1 (TX0 4).2.2.1 ∈ goodTbl := gmem 82 (by decide +kernel)
theorem nfX0_27 : Cond.fieldLink RX0 27 RX0 (TX0 5).2.1 (TX0 5).2.2.1 ∈ goodTbl := gmem 85 (by decide +kernel)
theorem nfX0_30 : Cond.fieldLink RX0 30 RX0 (TX0 6).2.1 (TX0 6).2.2.1 ∈ goodTbl := gmem 88 (by decide +kernel)
theorem nfX0_33 : Cond.fieldLink RX0 33 RX0 (TX0 7).2.1 (TX0 7).2.2.1 ∈ goodTbl := gmem 91 (by decide +kernel)
theorem nfX0_36 : Cond.fieldLink RX0 36 RX0 (TX0 8).2.1 (TX0 8).2.2.1 ∈ goodTbl := gmem 94 (by decide +kernel)
theorem nfX0_39 : Cond.fieldLink RX0 39 RX0 (TX0 9).2.1 (TX0 9).2.2.1 ∈ goodTbl := gmem 97 (by decide +kernel)
theorem n_X0_init : WN [.inr (8, [some 1000, some 1000, some 1000, some 1000, some 1000, some 1000, some 1000, none]), .inr (0, [some 1000, some 1000, some 1000, some 1000, some 1000, some 1000, some 1000, some 1000, some 1000, some 1000, none, none, none])] (Mz) [vr 1] [.inr (8, [some 1000, some 1000, some 1000, some 1000, some 1000, some 1000, some 1000, none]), .inr (0, [some 2, some 3, some 4, some 5, some 6, some 7, some 8, some 9, some 10, some 11, none, none, none]), .inl (0, 8), .inl (0, 8), .inl (0, 8), .inl (0, 14), .inl (0, 14), .inl (0, 14), .inl (0, 14), .inl (0, 14), .inl (0, 14), .inl (1, 14)] (si (si (si (Mz) 1 10 0) 1 11 0) 1 12 0) 1 10 122 mX0_init := by
  refine wn_of (by decide +kernel) (Nat.le_of_ble_eq_true rfl) ?_
  refine n_aload_n dX0_init_0 rfl rfl ?_
  refine n_obj dX0_init_1 moX0 ob_i ob_c (by decide) (Nat.le_of_ble_eq_true rfl) ?_
  refine n_aload_n dX0_init_4 rfl rfl ?_
  refine n_bipush dX0_init_5 rfl ?_
  refine n_newa_int (pn := 2) (n := 8) dX0_init_7 ar_int rfl (by decide) (by decide) (Nat.le_of_ble_eq_true rfl) (Nat.le_of_ble_eq_true rfl) rfl rfl rfl ⟨rfl, rfl⟩ (by decide) ?_
  refine n_putr dX0_init_9 fX0_9 nfX0_9 rfl rfl (tyX0_ok 0 (by decide)) (fun _ => rfl) (fun _ => rfl) rfl (by decide) (by decide) ?_
  refine n_aload_n dX0_init_12 rfl rfl ?_
  refine n_bipush dX0_init_13 rfl ?_
  refine n_newa_int (pn := 3) (n := 8) dX0_init_15 ar_int rfl (by decide) (by decide) (Nat.le_of_ble_eq_true rfl) (Nat.le_of_ble_eq_true rfl) rfl rfl rfl ⟨rfl, rfl⟩ (by decide) ?_
  refine n_putr dX0_init_17 fX0_15 nfX0_15 rfl rfl (tyX0_ok 1 (by decide)) (fun _ => rfl) (fun _ => rfl) rfl (by decide) (by decide) ?_
  refine n_aload_n dX0_init_20 rfl rfl ?_
  refine n_bipush dX0_init_21 rfl ?_
  refine n_newa_int (pn := 4) (n := 8) dX0_init_23 ar_int rfl (by decide) (by decide) (Nat.le_of_ble_eq_true rfl) (Nat.le_of_ble_eq_true rfl) rfl rfl rfl ⟨rfl, rfl⟩ (by decide) ?_
  refine n_putr dX0_init_25 fX0_18 nfX0_18 rfl rfl (tyX0_ok 2 (by decide)) (fun _ => rfl) (fun _ => rfl) rfl (by decide) (by decide) ?_
  refine n_aload_n dX0_init_28 rfl rfl ?_
  refine n_bipush dX0_init_29 rfl ?_
  refine n_newa_int (pn := 5) (n := 14) dX0_init_31 ar_int rfl (by decide) (by decide) (Nat.le_of_ble_eq_true rfl) (Nat.le_of_ble_eq_true rfl) rfl rfl rfl ⟨rfl, rfl⟩ (by decide) ?_
  refine n_putr dX0_init_33 fX0_21 nfX0_21 rfl rfl (tyX0_ok 3 (by decide)) (fun _ => rfl) (fun _ => rfl) rfl (by decide) (by decide) ?_
  refine n_aload_n dX0_init_36 rfl rfl ?_
  refine n_bipush dX0_init_37 rfl ?_
  refine n_newa_int (pn := 6) (n := 14) dX0_init_39 ar_int rfl (by decide) (by decide) (Nat.le_of_ble_eq_true rfl) (Nat.le_of_ble_eq_true rfl) rfl rfl rfl ⟨rfl, rfl⟩ (by decide) ?_
  refine n_putr dX0_init_41 fX0_24 nfX0_24 rfl rfl (tyX0_ok 4 (by decide)) (fun _ => rfl) (fun _ => rfl) rfl (by decide) (by decide) ?_
  refine n_aload_n dX0_init_44 rfl rfl ?_
  refine n_bipush dX0_init_45 rfl ?_
  refine n_newa_int (pn := 7) (n := 14) dX0_init_47 ar_int rfl (by decide) (by decide) (Nat.le_of_ble_eq_true rfl) (Nat.le_of_ble_eq_true rfl) rfl rfl rfl ⟨rfl, rfl⟩ (by decide) ?_
  refine n_putr dX0_init_49 fX0_27 nfX0_27 rfl rfl (tyX0_ok 5 (by decide)) (fun _ => rfl) (fun _ => rfl) rfl (by decide) (by decide) ?_
  refine n_aload_n dX0_init_52 rfl rfl ?_
  refine n_bipush dX0_init_53 rfl ?_
  refine n_newa_int (pn := 8) (n := 14) dX0_init_55 ar_int rfl (by decide) (by decide) (Nat.le_of_ble_eq_true rfl) (Nat.le_of_ble_eq_true rfl) rfl rfl rfl ⟨rfl, rfl⟩ (by decide) ?_
  refine n_putr dX0_init_57 fX0_30 nfX0_30 rfl rfl (tyX0_ok 6 (by decide)) (fun _ => rfl) (fun _ => rfl) rfl (by decide) (by decide) ?_
  refine n_aload_n dX0_init_60 rfl rfl ?_
  refine n_bipush dX0_init_61 rfl ?_
  refine n_newa_int (pn := 9) (n := 14) dX0_init_63 ar_int rfl (by decide) (by decide) (Nat.le_of_ble_eq_true rfl) (Nat.le_of_ble_eq_true rfl) rfl rfl rfl ⟨rfl, rfl⟩ (by decide) ?_
  refine n_putr dX0_init_65 fX0_33 nfX0_33 rfl rfl (tyX0_ok 7 (by decide)) (fun _ => rfl) (fun _ => rfl) rfl (by decide) (by decide) ?_
  refine n_aload_n dX0_init_68 rfl rfl ?_
  refine n_bipush dX0_init_69 rfl ?_
  refine n_newa_int (pn := 10) (n := 14) dX0_init_71 ar_int rfl (by decide) (by decide) (Nat.le_of_ble_eq_true rfl) (Nat.le_of_ble_eq_true rfl) rfl rfl rfl ⟨rfl, rfl⟩ (by decide) ?_
  refine n_putr dX0_init_73 fX0_36 nfX0_36 rfl rfl (tyX0_ok 8 (by decide)) (fun _ => rfl) (fun _ => rfl) rfl (by decide) (by decide) ?_
  refine n_aload_n dX0_init_76 rfl rfl ?_
  refine n_bipush dX0_init_77 rfl ?_
  refine n_newa_long (pn := 11) (n := 14) dX0_init_79 ar_long rfl (by decide) (by decide) (Nat.le_of_ble_eq_true rfl) (Nat.le_of_ble_eq_true rfl) rfl rfl rfl ⟨rfl, rfl⟩ (by decide) ?_
  refine n_putr dX0_init_81 fX0_39 nfX0_39 rfl rfl (tyX0_ok 9 (by decide)) (fun _ => rfl) (fun _ => rfl) rfl (by decide) (by decide) ?_
  refine n_aload_n dX0_init_84 rfl rfl ?_
  refine n_iconst dX0_init_85 ?_
  refine n_putg dX0_init_86 fX0_43 rfl rfl rfl (tyX0_ok 10 (by decide)) (by decide) (by decide) ?_
  refine n_aload_n dX0_init_89 rfl rfl ?_
  refine n_iconst dX0_init_90 ?_
  refine n_putg dX0_init_91 fX0_47 rfl rfl rfl (tyX0_ok 11 (by decide)) (by decide) (by decide) ?_
  refine n_aload_n dX0_init_94 rfl rfl ?_
  refine n_iconst dX0_init_95 ?_
  refine n_putg dX0_init_96 fX0_50 rfl rfl rfl (tyX0_ok 12 (by decide)) (by decide) (by decide) ?_
  exact n_vret dX0_init_99 rfl rfl rfl rfl rfl
theorem nfX9_12 : Cond.fieldLink RX9 12 RX9 (TX9 0).2.1 (TX9 0).2.2.1 ∈ goodTbl := gmem 392 (by decide +kernel)
theorem fsX5 : ∀ ad j, j < 7 → defaultValue (tyX5 j) = vp_V (fvN ad (fun _ => 0) 0 [none, none, none, none, none, none, none]) j := by
  intro ad j hj
  rcases (show j = 0 ∨ j = 1 ∨ j = 2 ∨ j = 3 ∨ j = 4 ∨ j = 5 ∨ j = 6 by omega) with rfl | rfl | rfl | rfl | rfl | rfl | rfl <;> rfl
theorem inX5 : Cond.instantiable RX5 7 ∈ goodTbl := gmem 138 (by decide +kernel)
theorem iiX5 : Cond.initialized RX5 ∈ goodTbl := gmem 50 (by decide +kernel)
theorem clX9_16 : Cond.classLink RX9 16 RX5 ∈ goodTbl := gmem 137 (by decide +kernel)
theorem liX9_18 : IOK RX9 18 mX5_init 0 := ⟨Or.inr ⟨"KinBench", nmem 139 (by decide +kernel)⟩, gmem 140 (by decide +kernel), gmem 50 (by decide +kernel), kcX5_init, by decide, by decide +kernel, rfl, rfl⟩
theorem moX5 : Cond.methodLink RX5 3 Lib.objectInit ∈ goodTbl := gmem 142 (by decide +kernel)
theorem n_X5_init : WN [.inr (8, [some 1, some 1000, some 1000, some 1000, some 1000, some 1000, some 1000, none]), .inr (0, [some 2, some 3, some 4, some 5, some 6, some 7, some 8, some 9, some 10, some 11, none, none, none]), .inl (0, 8), .inl (0, 8), .inl (0, 8), .inl (0, 14), .inl (0, 14), .inl (0, 14), .inl (0, 14), .inl (0, 14), .inl (0, 14), .inl (1, 14), .inr (4, [none, none, none, none, none, none, none])] (si (si (si (Mz) 1 10 0) 1 11 0) 1 12 0) [vr 12] [.inr (8, [some 1, some 1000, some 1000, some 1000, some 1000, some 1000, some 1000, none]), .inr (0, [some 2, some 3, some 4, some 5, some 6, some 7, some 8, some 9, some 10, some 11, none, none, none]), .inl (0, 8), .inl (0, 8), .inl (0, 8), .inl (0, 14), .inl (0, 14), .inl (0, 14), .inl (0, 14), .inl (0, 14), .inl (0, 14), .inl (1, 14), .inr (4, [none, none, none, none, none, none, none])] (si (si (si (si (si (si (si (si (si (si (Mz) 1 10 0) 1 11 0) 1 12 0) 12 0 14) 12 1 50) 12 2 70) 12 3 100) 12 4 2) 12 5 0) 12 6 0) 1 0 0 mX5_init := by
  refine wn_of (by decide +kernel) (Nat.le_of_ble_eq_true rfl) ?_
  refine n_aload_n dX5_init_0 rfl rfl ?_
  refine n_obj dX5_init_1 moX5 ob_i ob_c (by decide) (Nat.le_of_ble_eq_true rfl) ?_
  refine n_aload_n dX5_init_4 rfl rfl ?_
  refine n_bipush dX5_init_5 rfl ?_
  refine n_putg dX5_init_7 fX5_9 rfl rfl rfl (tyX5_ok 0 (by decide)) (by decide) (by decide) ?_
  refine n_aload_n dX5_init_10 rfl rfl ?_
  refine n_bipush dX5_init_11 rfl ?_
  refine n_putg dX5_init_13 fX5_15 rfl rfl rfl (tyX5_ok 1 (by decide)) (by decide) (by decide) ?_
  refine n_aload_n dX5_init_16 rfl rfl ?_
  refine n_bipush dX5_init_17 rfl ?_
  refine n_putg dX5_init_19 fX5_18 rfl rfl rfl (tyX5_ok 2 (by decide)) (by decide) (by decide) ?_
  refine n_aload_n dX5_init_22 rfl rfl ?_
  refine n_bipush dX5_init_23 rfl ?_
  refine n_putg dX5_init_25 fX5_21 rfl rfl rfl (tyX5_ok 3 (by decide)) (by decide) (by decide) ?_
  refine n_aload_n dX5_init_28 rfl rfl ?_
  refine n_iconst dX5_init_29 ?_
  refine n_putg dX5_init_30 fX5_24 rfl rfl rfl (tyX5_ok 4 (by decide)) (by decide) (by decide) ?_
  refine n_aload_n dX5_init_33 rfl rfl ?_
  refine n_iconst dX5_init_34 ?_
  refine n_putg dX5_init_35 fX5_27 rfl rfl rfl (tyX5_ok 5 (by decide)) (by decide) (by decide) ?_
  refine n_aload_n dX5_init_38 rfl rfl ?_
  refine n_iconst dX5_init_39 ?_
  refine n_putg dX5_init_40 fX5_30 rfl rfl rfl (tyX5_ok 6 (by decide)) (by decide) (by decide) ?_
  exact n_vret dX5_init_43 rfl rfl rfl rfl rfl
theorem nfX9_19 : Cond.fieldLink RX9 19 RX9 (TX9 1).2.1 (TX9 1).2.2.1 ∈ goodTbl := gmem 393 (by decide +kernel)
theorem fsX1 : ∀ ad j, j < 2 → defaultValue (tyX1 j) = vp_V (fvN ad (fun _ => 0) 0 [some 1000, some 1000]) j := by
  intro ad j hj
  rcases (show j = 0 ∨ j = 1 by omega) with rfl | rfl <;> rfl
theorem inX1 : Cond.instantiable RX1 2 ∈ goodTbl := gmem 175 (by decide +kernel)
theorem iiX1 : Cond.initialized RX1 ∈ goodTbl := gmem 51 (by decide +kernel)
theorem clX9_23 : Cond.classLink RX9 23 RX1 ∈ goodTbl := gmem 174 (by decide +kernel)
theorem liX9_25 : IOK RX9 25 mX1_init 0 := ⟨Or.inr ⟨"KinBench", nmem 176 (by decide +kernel)⟩, gmem 177 (by decide +kernel), gmem 51 (by decide +kernel), kcX1_init, by decide, by decide +kernel, rfl, rfl⟩
theorem moX1 : Cond.methodLink RX1 5 Lib.objectInit ∈ goodTbl := gmem 179 (by decide +kernel)
theorem nfX1_11 : Cond.fieldLink RX1 11 RX1 (TX1 0).2.1 (TX1 0).2.2.1 ∈ goodTbl := gmem 180 (by decide +kernel)
theorem nfX1_15 : Cond.fieldLink RX1 15 RX1 (TX1 1).2.1 (TX1 1).2.2.1 ∈ goodTbl := gmem 181 (by decide +kernel)
theorem n_X1_init : WN [.inr (8, [some 1, some 12, some 1000, some 1000, some 1000, some 1000, some 1000, none]), .inr (0, [some 2, some 3, some 4, some 5, some 6, some 7, some 8, some 9, some 10, some 11, none, none, none]), .inl (0, 8), .inl (0, 8), .inl (0, 8), .inl (0, 14), .inl (0, 14), .inl (0, 14), .inl (0, 14), .inl (0, 14), .inl (0, 14), .inl (1, 14), .inr (4, [none, none, none, none, none, none, none]), .inr (1, [some 1000, some 1000])] (si (si (si (si (si (si (si (si (si (si (Mz) 1 10 0) 1 11 0) 1 12 0) 12 0 14) 12 1 50) 12 2 70) 12 3 100) 12 4 2) 12 5 0) 12 6 0) [vr 13] [.inr (8, [some 1, some 12, some 1000, some 1000, some 1000, some 1000, some 1000, none]), .inr (0, [some 2, some 3, some 4, some 5, some 6, some 7, some 8, some 9, some 10, some 11, none, none, none]), .inl (0, 8), .inl (0, 8), .inl (0, 8), .inl (0, 14), .inl (0, 14), .inl (0, 14), .inl (0, 14), .inl (0, 14), .inl (0, 14), .inl (1, 14), .inr (4, [none, none, none, none, none, none, none]), .inr (1, [some 14, some 15]), .inl (2, 1024), .inl (0, 9)] (si (si (si (si (si (si (si (si (si (si (Mz) 1 10 0) 1 11 0) 1 12 0) 12 0 14) 12 1 50) 12 2 70) 12 3 100) 12 4 2) 12 5 0) 12 6 0) 1 2 1033 mX1_init := by
  refine wn_of (by decide +kernel) (Nat.le_of_ble_eq_true rfl) ?_
  refine n_aload_n dX1_init_0 rfl rfl ?_
  refine n_obj dX1_init_1 moX1 ob_i ob_c (by decide) (Nat.le_of_ble_eq_true rfl) ?_
  refine n_aload_n dX1_init_4 rfl rfl ?_
  refine n_sipush dX1_init_5 rfl ?_
  refine n_newa_boolean (pn := 14) (n := 1024) dX1_init_8 ar_boolean rfl (by decide) (by decide) (Nat.le_of_ble_eq_true rfl) (Nat.le_of_ble_eq_true rfl) rfl rfl rfl ⟨rfl, rfl⟩ (by decide) ?_
  refine n_putr dX1_init_10 fX1_11 nfX1_11 rfl rfl (tyX1_ok 0 (by decide)) (fun _ => rfl) (fun _ => rfl) rfl (by decide) (by decide) ?_
  refine n_aload_n dX1_init_13 rfl rfl ?_
  refine n_bipush dX1_init_14 rfl ?_
  refine n_newa_int (pn := 15) (n := 9) dX1_init_16 ar_int rfl (by decide) (by decide) (Nat.le_of_ble_eq_true rfl) (Nat.le_of_ble_eq_true rfl) rfl rfl rfl ⟨rfl, rfl⟩ (by decide) ?_
  refine n_putr dX1_init_18 fX1_15 nfX1_15 rfl rfl (tyX1_ok 1 (by decide)) (fun _ => rfl) (fun _ => rfl) rfl (by decide) (by decide) ?_
  exact n_vret dX1_init_21 rfl rfl rfl rfl rfl
theorem nfX9_26 : Cond.fieldLink RX9 26 RX9 (TX9 2).2.1 (TX9 2).2.2.1 ∈ goodTbl := gmem 394 (by decide +kernel)
theorem fsX8 : ∀ ad j, j < 12 → defaultValue (tyX8 j) = vp_V (fvN ad (fun _ => 0) 0 [some 1000, some 1000, some 1000, some 1000, some 1000, some 1000, some 1000, some 1000, some 1000, some 1000, none, none]) j := by
  intro ad j hj
  rcases (show j = 0 ∨ j = 1 ∨ j = 2 ∨ j = 3 ∨ j = 4 ∨ j = 5 ∨ j = 6 ∨ j = 7 ∨ j = 8 ∨ j = 9 ∨ j = 10 ∨ j = 11 by omega) with rfl | rfl | rfl | rfl | rfl | rfl | rfl | rfl | rfl | rfl | rfl | rfl <;> rfl
theorem inX8 : Cond.instantiable RX8 12 ∈ goodTbl := gmem 189 (by decide +kernel)
theorem iiX8 : Cond.initialized RX8 ∈ goodTbl := gmem 52 (by decide +kernel)
theorem clX9_30 : Cond.classLink RX9 30 RX8 ∈ goodTbl := gmem 188 (by decide +kernel)
theorem liX9_32 : IOK RX9 32 mX8_init 3 := ⟨Or.inl (gmem 190 (by decide +kernel)), gmem 191 (by decide +kernel), gmem 52 (by decide +kernel), kcX8_init, by decide, by decide +kernel, rfl, rfl⟩
theorem moX8 : Cond.methodLink RX8 5 Lib.objectInit ∈ goodTbl := gmem 193 (by decide +kernel)
theorem nfX8_11 : Cond.fieldLink RX8 11 RX8 (TX8 3).2.1 (TX8 3).2.2.1 ∈ goodTbl := gmem 197 (by decide +kernel)
theorem nfX8_15 : Cond.fieldLink RX8 15 RX8 (TX8 4).2.1 (TX8 4).2.2.1 ∈ goodTbl := gmem 199 (by decide +kernel)
theorem nfX8_18 : Cond.fieldLink RX8 18 RX8 (TX8 5).2.1 (TX8 5).2.2.1 ∈ goodTbl := gmem 201 (by decide +kernel)
theorem nfX8_21 : Cond.fieldLink RX8 21 RX8 (TX8 6).2.1 (TX8 6).2.2.1 ∈ goodTbl := gmem 203 (by decide +kernel)
theorem nfX8_24 : Cond.fieldLink RX8 24 RX8 (TX8 7).2.1 (TX8 7).2.2.1 ∈ goodTbl := gmem 205 (by decide +kernel)
theorem nfX8_27 : Cond.fieldLink RX8 27 RX8 (TX8 8).2.1 (TX8 8).2.2.1 ∈ goodTbl := gmem 207 (by decide +kernel)
theorem nfX8_30 : Cond.fieldLink RX8 30 RX8 (TX8 9).2.1 (TX8 9).2.2.1 ∈ goodTbl := gmem 209 (by decide +kernel)
theorem nfX8_40 : Cond.fieldLink RX8 40 RX8 (TX8 0).2.1 (TX8 0).2.2.1 ∈ goodTbl := gmem 194 (by decide +kernel)
theorem nfX8_44 : Cond.fieldLink RX8 44 RX8 (TX8 1).2.1 (TX8 1).2.2.1 ∈ goodTbl := gmem 195 (by decide +kernel)
theorem nfX8_48 : Cond.fieldLink RX8 48 RX8 (TX8 2).2.1 (TX8 2).2.2.1 ∈ goodTbl := gmem 196 (by decide +kernel)
theorem n_X8_init : WN [.inr (8, [some 1, some 12, some 13, some 1000, some 1000, some 1000, some 1000, none]), .inr (0, [some 2, some 3, some 4, some 5, some 6, some 7, some 8, some 9, some 10, some 11, none, none, none]), .inl (0, 8), .inl (0, 8), .inl (0, 8), .inl (0, 14), .inl (0, 14), .inl (0, 14), .inl (0, 14), .inl (0, 14), .inl (0, 14), .inl (1, 14), .inr (4, [none, none, none, none, none, none, none]), .inr (1, [some 14, some 15]), .inl (2, 1024), .inl (0, 9), .inr (7, [some 1000, some 1000, some 1000, some 1000, some 1000, some 1000, some 1000, some 1000, some 1000, some 1000, none, none])] (si (si (si (si (si (si (si (si (si (si (Mz) 1 10 0) 1 11 0) 1 12 0) 12 0 14) 12 1 50) 12 2 70) 12 3 100) 12 4 2) 12 5 0) 12 6 0) [vr 16, vr 1, vr 12, vr 13] [.inr (8, [some 1, some 12, some 13, some 1000, some 1000, some 1000, some 1000, none]), .inr (0, [some 2, some 3, some 4, some 5, some 6, some 7, some 8, some 9, some 10, some 11, none, none, none]), .inl (0, 8), .inl (0, 8), .inl (0, 8), .inl (0, 14), .inl (0, 14), .inl (0, 14), .inl (0, 14), .inl (0, 14), .inl (0, 14), .inl (1, 14), .inr (4, [none, none, none, none, none, none, none]), .inr (1, [some 14, some 15]), .inl (2, 1024), .inl (0, 9), .inr (7, [some 1, some 12, some 13, some 17, some 18, some 19, some 20, some 21, some 22, some 23, none, none]), .inl (0, 14), .inl (0, 14), .inl (0, 14), .inl (0, 14), .inl (0, 14), .inl (0, 14), .inl (0, 196)] (si (si (si (si (si (si (si (si (si (si (si (si (Mz) 1 10 0) 1 11 0) 1 12 0) 12 0 14) 12 1 50) 12 2 70) 12 3 100) 12 4 2) 12 5 0) 12 6 0) 16 10 0) 16 11 0) 1 7 280 mX8_init := by
  refine wn_of (by decide +kernel) (Nat.le_of_ble_eq_true rfl) ?_
  refine n_aload_n dX8_init_0 rfl rfl ?_
  refine n_obj dX8_init_1 moX8 ob_i ob_c (by decide) (Nat.le_of_ble_eq_true rfl) ?_
  refine n_aload_n dX8_init_4 rfl rfl ?_
  refine n_bipush dX8_init_5 rfl ?_
  refine n_newa_int (pn := 17) (n := 14) dX8_init_7 ar_int rfl (by decide) (by decide) (Nat.le_of_ble_eq_true rfl) (Nat.le_of_ble_eq_true rfl) rfl rfl rfl ⟨rfl, rfl⟩ (by decide) ?_
  refine n_putr dX8_init_9 fX8_11 nfX8_11 rfl rfl (tyX8_ok 3 (by decide)) (fun _ => rfl) (fun _ => rfl) rfl (by decide) (by decide) ?_
  refine n_aload_n dX8_init_12 rfl rfl ?_
  refine n_bipush dX8_init_13 rfl ?_
  refine n_newa_int (pn := 18) (n := 14) dX8_init_15 ar_int rfl (by decide) (by decide) (Nat.le_of_ble_eq_true rfl) (Nat.le_of_ble_eq_true rfl) rfl rfl rfl ⟨rfl, rfl⟩ (by decide) ?_
  refine n_putr dX8_init_17 fX8_15 nfX8_15 rfl rfl (tyX8_ok 4 (by decide)) (fun _ => rfl) (fun _ => rfl) rfl (by decide) (by decide) ?_
  refine n_aload_n dX8_init_20 rfl rfl ?_
  refine n_bipush dX8_init_21 rfl ?_
  refine n_newa_int (pn := 19) (n := 14) dX8_init_23 ar_int rfl (by decide) (by decide) (Nat.le_of_ble_eq_true rfl) (Nat.le_of_ble_eq_true rfl) rfl rfl rfl ⟨rfl, rfl⟩ (by decide) ?_
  refine n_putr dX8_init_25 fX8_18 nfX8_18 rfl rfl (tyX8_ok 5 (by decide)) (fun _ => rfl) (fun _ => rfl) rfl (by decide) (by decide) ?_
  refine n_aload_n dX8_init_28 rfl rfl ?_
  refine n_bipush dX8_init_29 rfl ?_
  refine n_newa_int (pn := 20) (n := 14) dX8_init_31 ar_int rfl (by decide) (by decide) (Nat.le_of_ble_eq_true rfl) (Nat.le_of_ble_eq_true rfl) rfl rfl rfl ⟨rfl, rfl⟩ (by decide) ?_
  refine n_putr dX8_init_33 fX8_21 nfX8_21 rfl rfl (tyX8_ok 6 (by decide)) (fun _ => rfl) (fun _ => rfl) rfl (by decide) (by decide) ?_
  refine n_aload_n dX8_init_36 rfl rfl ?_
  refine n_bipush dX8_init_37 rfl ?_
  refine n_newa_int (pn := 21) (n := 14) dX8_init_39 ar_int rfl (by decide) (by decide) (Nat.le_of_ble_eq_true rfl) (Nat.le_of_ble_eq_true rfl) rfl rfl rfl ⟨rfl, rfl⟩ (by decide) ?_
  refine n_putr dX8_init_41 fX8_24 nfX8_24 rfl rfl (tyX8_ok 7 (by decide)) (fun _ => rfl) (fun _ => rfl) rfl (by decide) (by decide) ?_
  refine n_aload_n dX8_init_44 rfl rfl ?_
  refine n_bipush dX8_init_45 rfl ?_
  refine n_newa_int (pn := 22) (n := 14) dX8_init_47 ar_int rfl (by decide) (by decide) (Nat.le_of_ble_eq_true rfl) (Nat.le_of_ble_eq_true rfl) rfl rfl rfl ⟨rfl, rfl⟩ (by decide) ?_
  refine n_putr dX8_init_49 fX8_27 nfX8_27 rfl rfl (tyX8_ok 8 (by decide)) (fun _ => rfl) (fun _ => rfl) rfl (by decide) (by decide) ?_
  refine n_aload_n dX8_init_52 rfl rfl ?_
  refine n_sipush dX8_init_53 rfl ?_
  refine n_newa_int (pn := 23) (n := 196) dX8_init_56 ar_int rfl (by decide) (by decide) (Nat.le_of_ble_eq_true rfl) (Nat.le_of_ble_eq_true rfl) rfl rfl rfl ⟨rfl, rfl⟩ (by decide) ?_
  refine n_putr dX8_init_58 fX8_30 nfX8_30 rfl rfl (tyX8_ok 9 (by decide)) (fun _ => rfl) (fun _ => rfl) rfl (by decide) (by decide) ?_
  refine n_aload_n dX8_init_61 rfl rfl ?_
  refine n_iconst dX8_init_62 ?_
  refine n_putg dX8_init_63 fX8_33 rfl rfl rfl (tyX8_ok 10 (by decide)) (by decide) (by decide) ?_
  refine n_aload_n dX8_init_66 rfl rfl ?_
  refine n_iconst dX8_init_67 ?_
  refine n_putg dX8_init_68 fX8_37 rfl rfl rfl (tyX8_ok 11 (by decide)) (by decide) (by decide) ?_
  refine n_aload_n dX8_init_71 rfl rfl ?_
  refine n_aload_n dX8_init_72 rfl rfl ?_
  refine n_putr dX8_init_73 fX8_40 nfX8_40 rfl rfl (tyX8_ok 0 (by decide)) (fun _ => rfl) (fun _ => rfl) rfl (by decide) (by decide) ?_
  refine n_aload_n dX8_init_76 rfl rfl ?_
  refine n_aload_n dX8_init_77 rfl rfl ?_
  refine n_putr dX8_init_78 fX8_44 nfX8_44 rfl rfl (tyX8_ok 1 (by decide)) (fun _ => rfl) (fun _ => rfl) rfl (by decide) (by decide) ?_
  refine n_aload_n dX8_init_81 rfl rfl ?_
  refine n_aload_n dX8_init_82 rfl rfl ?_
  refine n_putr dX8_init_83 fX8_48 nfX8_48 rfl rfl (tyX8_ok 2 (by decide)) (fun _ => rfl) (fun _ => rfl) rfl (by decide) (by decide) ?_
  exact n_vret dX8_init_86 rfl rfl rfl rfl rfl
theorem nfX9_35 : Cond.fieldLink RX9 35 RX9 (TX9 3).2.1 (TX9 3).2.2.1 ∈ goodTbl := gmem 395 (by decide +kernel)
theorem fsX6 : ∀ ad j, j < 14 → defaultValue (tyX6 j) = vp_V (fvN ad (fun _ => 0) 0 [some 1000, some 1000, some 1000, some 1000, some 1000, some 1000, some 1000, some 1000, some 1000, none, none, none, none, none]) j := by
  intro ad j hj
  rcases (show j = 0 ∨ j = 1 ∨ j = 2 ∨ j = 3 ∨ j = 4 ∨ j = 5 ∨ j = 6 ∨ j = 7 ∨ j = 8 ∨ j = 9 ∨ j = 10 ∨ j = 11 ∨ j = 12 ∨ j = 13 by omega) with rfl | rfl | rfl | rfl | rfl | rfl | rfl | rfl | rfl | rfl | rfl | rfl | rfl | rfl <;> rfl
theorem inX6 : Cond.instantiable RX6 14 ∈ goodTbl := gmem 241 (by decide +kernel)
theorem iiX6 : Cond.initialized RX6 ∈ goodTbl := gmem 53 (by decide +kernel)
theorem clX9_39 : Cond.classLink RX9 39 RX6 ∈ goodTbl := gmem 240 (by decide +kernel)
theorem liX9_41 : IOK RX9 41 mX6_init 3 := ⟨Or.inl (gmem 242 (by decide +kernel)), gmem 243 (by decide +kernel), gmem 53 (by decide +kernel), kcX6_init, by decide, by decide +kernel, rfl, rfl⟩
theorem moX6 : Cond.methodLink RX6 3 Lib.objectInit ∈ goodTbl := gmem 245 (by decide +kernel)
theorem nfX6_9 : Cond.fieldLink RX6 9 RX6 (TX6 3).2.1 (TX6 3).2.2.1 ∈ goodTbl := gmem 305 (by decide +kernel)
theorem nfX6_15 : Cond.fieldLink RX6 15 RX6 (TX6 4).2.1 (TX6 4).2.2.1 ∈ goodTbl := gmem 306 (by decide +kernel)
theorem nfX6_18 : Cond.fieldLink RX6 18 RX6 (TX6 5).2.1 (TX6 5).2.2.1 ∈ goodTbl := gmem 307 (by decide +kernel)
theorem nfX6_21 : Cond.fieldLink RX6 21 RX6 (TX6 6).2.1 (TX6 6).2.2.1 ∈ goodTbl := gmem 309 (by decide +kernel)
theorem nfX6_50 : Cond.fieldLink RX6 50 RX6 (TX6 0).2.1 (TX6 0).2.2.1 ∈ goodTbl := gmem 302 (by decide +kernel)
theorem nfX6_54 : Cond.fieldLink RX6 54 RX6 (TX6 1).2.1 (TX6 1).2.2.1 ∈ goodTbl := gmem 303 (by decide +kernel)
theorem fsX4 : ∀ ad j, j < 14 → defaultValue (tyX4 j) = vp_V (fvN ad (fun _ => 0) 0 [some 1000, some 1000, some 1000, some 1000, some 1000, some 1000, some 1000, some 1000, some 1000, some 1000, some 1000, some 1000, some 1000, none]) j := by
  intro ad j hj
  rcases (show j = 0 ∨ j = 1 ∨ j = 2 ∨ j = 3 ∨ j = 4 ∨ j = 5 ∨ j = 6 ∨ j = 7 ∨ j = 8 ∨ j = 9 ∨ j = 10 ∨ j = 11 ∨ j = 12 ∨ j = 13 by omega) with rfl | rfl | rfl | rfl | rfl | rfl | rfl | rfl | rfl | rfl | rfl | rfl | rfl | rfl <;> rfl
theorem inX4 : Cond.instantiable RX4 14 ∈ goodTbl := gmem 253 (by decide +kernel)
theorem iiX4 : Cond.initialized RX4 ∈ goodTbl := gmem 55 (by decide +kernel)
theorem clX6_58 : Cond.classLink RX6 58 RX4 ∈ goodTbl := gmem 252 (by decide +kernel)
theorem liX6_60 : IOK RX6 60 mX4_init 1 := ⟨Or.inl (gmem 254 (by decide +kernel)), gmem 255 (by decide +kernel), gmem 55 (by decide +kernel), kcX4_init, by decide, by decide +kernel, rfl, rfl⟩
theorem moX4 : Cond.methodLink RX4 3 Lib.objectInit ∈ goodTbl := gmem 257 (by decide +kernel)
theorem nfX4_9 : Cond.fieldLink RX4 9 RX4 (TX4 1).2.1 (TX4 1).2.2.1 ∈ goodTbl := gmem 259 (by decide +kernel)
theorem nfX4_15 : Cond.fieldLink RX4 15 RX4 (TX4 2).2.1 (TX4 2).2.2.1 ∈ goodTbl := gmem 260 (by decide +kernel)
theorem nfX4_18 : Cond.fieldLink RX4 18 RX4 (TX4 3).2.1 (TX4 3).2.2.1 ∈ goodTbl := gmem 261 (by decide +kernel)
theorem nfX4_21 : Cond.fieldLink RX4 21 RX4 (TX4 4).2.1 (TX4 4).2.2.1 ∈ goodTbl := gmem 262 (by decide +kernel)
theorem nfX4_24 : Cond.fieldLink RX4 24 RX4 (TX4 5).2.1 (TX4 5).2.2.1 ∈ goodTbl := gmem 263 (by decide +kernel)
theorem nfX4_27 : Cond.fieldLink RX4 27 RX4 (TX4 6).2.1 (TX4 6).2.2.1 ∈ goodTbl := gmem 264 (by decide +kernel)
theorem nfX4_30 : Cond.fieldLink RX4 30 RX4 (TX4 7).2.1 (TX4 7).2.2.1 ∈ goodTbl := gmem 265 (by decide +kernel)
theorem nfX4_33 : Cond.fieldLink RX4 33 RX4 (TX4 8).2.1 (TX4 8).2.2.1 ∈ goodTbl := gmem 266 (by decide +kernel)
theorem nfX4_36 : Cond.fieldLink RX4 36 RX4 (TX4 9).2.1 (TX4 9).2.2.1 ∈ goodTbl := gmem 267 (by decide +kernel)
theorem nfX4_39 : Cond.fieldLink RX4 39 RX4 (TX4 10).2.1 (TX4 10).2.2.1 ∈ goodTbl := gmem 268 (by decide +kernel)
theorem nfX4_42 : Cond.fieldLink RX4 42 RX4 (TX4 11).2.1 (TX4 11).2.2.1 ∈ goodTbl := gmem 269 (by decide +kernel)
theorem nfX4_45 : Cond.fieldLink RX4 45 RX4 (TX4 12).2.1 (TX4 12).2.2.1 ∈ goodTbl := gmem 270 (by decide +kernel)
theorem nfX4_52 : Cond.fieldLink RX4 52 RX4 (TX4 0).2.1 (TX4 0).2.2.1 ∈ goodTbl := gmem 258 (by decide +kernel)
theorem n_X4_init : WN [.inr (8, [some 1, some 12, some 13, some 16, some 1000, some 1000, some 1000, none]), .inr (0, [some 2, some 3, some 4, some 5, some 6, some 7, some 8, some 9, some 10, some 11, none, none, none]), .inl (0, 8), .inl (0, 8), .inl (0, 8), .inl (0, 14), .inl (0, 14), .inl (0, 14), .inl (0, 14), .inl (0, 14), .inl (0, 14), .inl (1, 14), .inr (4, [none, none, none, none, none, none, none]), .inr (1, [some 14, some 15]), .inl (2, 1024), .inl (0, 9), .inr (7, [some 1, some 12, some 13, some 17, some 18, some 19, some 20, some 21, some 22, some 23, none, none]), .inl (0, 14), .inl (0, 14), .inl (0, 14), .inl (0, 14), .inl (0, 14), .inl (0, 14), .inl (0, 196), .inr (5, [some 1, some 16, some 1000, some 25, some 26, some 27, some 28, some 1000, some 1000, none, none, none, none, none]), .inl (0, 14), .inl (0, 14), .inl (0, 14), .inl (0, 14), .inr (3, [some 1000, some 1000, some 1000, some 1000, some 1000, some 1000, some 1000, some 1000, some 1000, some 1000, some 1000, some 1000, some 1000, none])] (si (si (si (si (si (si (si (si (si (si (si (si (si (si (si (si (si (Mz) 1 10 0) 1 11 0) 1 12 0) 12 0 14) 12 1 50) 12 2 70) 12 3 100) 12 4 2) 12 5 0) 12 6 0) 16 10 0) 16 11 0) 24 9 0) 24 10 0) 24 11 0) 24 12 0) 24 13 0) [vr 29, vr 16] [.inr (8, [some 1, some 12, some 13, some 16, some 1000, some 1000, some 1000, none]), .inr (0, [some 2, some 3, some 4, some 5, some 6, some 7, some 8, some 9, some 10, some 11, none, none, none]), .inl (0, 8), .inl (0, 8), .inl (0, 8), .inl (0, 14), .inl (0, 14), .inl (0, 14), .inl (0, 14), .inl (0, 14), .inl (0, 14), .inl (1, 14), .inr (4, [none, none, none, none, none, none, none]), .inr (1, [some 14, some 15]), .inl (2, 1024), .inl (0, 9), .inr (7, [some 1, some 12, some 13, some 17, some 18, some 19, some 20, some 21, some 22, some 23, none, none]), .inl (0, 14), .inl (0, 14), .inl (0, 14), .inl (0, 14), .inl (0, 14), .inl (0, 14), .inl (0, 196), .inr (5, [some 1, some 16, some 1000, some 25, some 26, some 27, some 28, some 1000, some 1000, none, none, none, none, none]), .inl (0, 14), .inl (0, 14), .inl (0, 14), .inl (0, 14), .inr (3, [some 16, some 30, some 31, some 32, some 33, some 34, some 35, some 36, some 37, some 38, some 39, some 40, some 41, none]), .inl (0, 14), .inl (0, 14), .inl (0, 14), .inl (0, 14), .inl (0, 14), .inl (0, 14), .inl (0, 196), .inl (0, 14), .inl (0, 14), .inl (0, 14), .inl (0, 14), .inl (0, 14)] (si (si (si (si (si (si (si (si (si (si (si (si (si (si (si (si (si (si (Mz) 1 10 0) 1 11 0) 1 12 0) 12 0 14) 12 1 50) 12 2 70) 12 3 100) 12 4 2) 12 5 0) 12 6 0) 16 10 0) 16 11 0) 24 9 0) 24 10 0) 24 11 0) 24 12 0) 24 13 0) 29 13 0) 1 12 350 mX4_init := by
  refine wn_of (by decide +kernel) (Nat.le_of_ble_eq_true rfl) ?_
  refine n_aload_n dX4_init_0 rfl rfl ?_
  refine n_obj dX4_init_1 moX4 ob_i ob_c (by decide) (Nat.le_of_ble_eq_true rfl) ?_
  refine n_aload_n dX4_init_4 rfl rfl ?_
  refine n_bipush dX4_init_5 rfl ?_
  refine n_newa_int (pn := 30) (n := 14) dX4_init_7 ar_int rfl (by decide) (by decide) (Nat.le_of_ble_eq_true rfl) (Nat.le_of_ble_eq_true rfl) rfl rfl rfl ⟨rfl, rfl⟩ (by decide) ?_
  refine n_putr dX4_init_9 fX4_9 nfX4_9 rfl rfl (tyX4_ok 1 (by decide)) (fun _ => rfl) (fun _ => rfl) rfl (by decide) (by decide) ?_
  refine n_aload_n dX4_init_12 rfl rfl ?_
  refine n_bipush dX4_init_13 rfl ?_
  refine n_newa_int (pn := 31) (n := 14) dX4_init_15 ar_int rfl (by decide) (by decide) (Nat.le_of_ble_eq_true rfl) (Nat.le_of_ble_eq_true rfl) rfl rfl rfl ⟨rfl, rfl⟩ (by decide) ?_
  refine n_putr dX4_init_17 fX4_15 nfX4_15 rfl rfl (tyX4_ok 2 (by decide)) (fun _ => rfl) (fun _ => rfl) rfl (by decide) (by decide) ?_
  refine n_aload_n dX4_init_20 rfl rfl ?_
  refine n_bipush dX4_init_21 rfl ?_
  refine n_newa_int (pn := 32) (n := 14) dX4_init_23 ar_int rfl (by decide) (by decide) (Nat.le_of_ble_eq_true rfl) (Nat.le_of_ble_eq_true rfl) rfl rfl rfl ⟨rfl, rfl⟩ (by decide) ?_
  refine n_putr dX4_init_25 fX4_18 nfX4_18 rfl rfl (tyX4_ok 3 (by decide)) (fun _ => rfl) (fun _ => rfl) rfl (by decide) (by decide) ?_
  refine n_aload_n dX4_init_28 rfl rfl ?_
  refine n_bipush dX4_init_29 rfl ?_
  refine n_newa_int (pn := 33) (n := 14) dX4_init_31 ar_int rfl (by decide) (by decide) (Nat.le_of_ble_eq_true rfl) (Nat.le_of_ble_eq_true rfl) rfl rfl rfl ⟨rfl, rfl⟩ (by decide) ?_
  refine n_putr dX4_init_33 fX4_21 nfX4_21 rfl rfl (tyX4_ok 4 (by decide)) (fun _ => rfl) (fun _ => rfl) rfl (by decide) (by decide) ?_
  refine n_aload_n dX4_init_36 rfl rfl ?_
  refine n_bipush dX4_init_37 rfl ?_
  refine n_newa_int (pn := 34) (n := 14) dX4_init_39 ar_int rfl (by decide) (by decide) (Nat.le_of_ble_eq_true rfl) (Nat.le_of_ble_eq_true rfl) rfl rfl rfl ⟨rfl, rfl⟩ (by decide) ?_
  refine n_putr dX4_init_41 fX4_24 nfX4_24 rfl rfl (tyX4_ok 5 (by decide)) (fun _ => rfl) (fun _ => rfl) rfl (by decide) (by decide) ?_
  refine n_aload_n dX4_init_44 rfl rfl ?_
  refine n_bipush dX4_init_45 rfl ?_
  refine n_newa_int (pn := 35) (n := 14) dX4_init_47 ar_int rfl (by decide) (by decide) (Nat.le_of_ble_eq_true rfl) (Nat.le_of_ble_eq_true rfl) rfl rfl rfl ⟨rfl, rfl⟩ (by decide) ?_
  refine n_putr dX4_init_49 fX4_27 nfX4_27 rfl rfl (tyX4_ok 6 (by decide)) (fun _ => rfl) (fun _ => rfl) rfl (by decide) (by decide) ?_
  refine n_aload_n dX4_init_52 rfl rfl ?_
  refine n_sipush dX4_init_53 rfl ?_
  refine n_newa_int (pn := 36) (n := 196) dX4_init_56 ar_int rfl (by decide) (by decide) (Nat.le_of_ble_eq_true rfl) (Nat.le_of_ble_eq_true rfl) rfl rfl rfl ⟨rfl, rfl⟩ (by decide) ?_
  refine n_putr dX4_init_58 fX4_30 nfX4_30 rfl rfl (tyX4_ok 7 (by decide)) (fun _ => rfl) (fun _ => rfl) rfl (by decide) (by decide) ?_
  refine n_aload_n dX4_init_61 rfl rfl ?_
  refine n_bipush dX4_init_62 rfl ?_
  refine n_newa_int (pn := 37) (n := 14) dX4_init_64 ar_int rfl (by decide) (by decide) (Nat.le_of_ble_eq_true rfl) (Nat.le_of_ble_eq_true rfl) rfl rfl rfl ⟨rfl, rfl⟩ (by decide) ?_
  refine n_putr dX4_init_66 fX4_33 nfX4_33 rfl rfl (tyX4_ok 8 (by decide)) (fun _ => rfl) (fun _ => rfl) rfl (by decide) (by decide) ?_
  refine n_aload_n dX4_init_69 rfl rfl ?_
  refine n_bipush dX4_init_70 rfl ?_
  refine n_newa_int (pn := 38) (n := 14) dX4_init_72 ar_int rfl (by decide) (by decide) (Nat.le_of_ble_eq_true rfl) (Nat.le_of_ble_eq_true rfl) rfl rfl rfl ⟨rfl, rfl⟩ (by decide) ?_
  refine n_putr dX4_init_74 fX4_36 nfX4_36 rfl rfl (tyX4_ok 9 (by decide)) (fun _ => rfl) (fun _ => rfl) rfl (by decide) (by decide) ?_
  refine n_aload_n dX4_init_77 rfl rfl ?_
  refine n_bipush dX4_init_78 rfl ?_
  refine n_newa_int (pn := 39) (n := 14) dX4_init_80 ar_int rfl (by decide) (by decide) (Nat.le_of_ble_eq_true rfl) (Nat.le_of_ble_eq_true rfl) rfl rfl rfl ⟨rfl, rfl⟩ (by decide) ?_
  refine n_putr dX4_init_82 fX4_39 nfX4_39 rfl rfl (tyX4_ok 10 (by decide)) (fun _ => rfl) (fun _ => rfl) rfl (by decide) (by decide) ?_
  refine n_aload_n dX4_init_85 rfl rfl ?_
  refine n_bipush dX4_init_86 rfl ?_
  refine n_newa_int (pn := 40) (n := 14) dX4_init_88 ar_int rfl (by decide) (by decide) (Nat.le_of_ble_eq_true rfl) (Nat.le_of_ble_eq_true rfl) rfl rfl rfl ⟨rfl, rfl⟩ (by decide) ?_
  refine n_putr dX4_init_90 fX4_42 nfX4_42 rfl rfl (tyX4_ok 11 (by decide)) (fun _ => rfl) (fun _ => rfl) rfl (by decide) (by decide) ?_
  refine n_aload_n dX4_init_93 rfl rfl ?_
  refine n_bipush dX4_init_94 rfl ?_
  refine n_newa_int (pn := 41) (n := 14) dX4_init_96 ar_int rfl (by decide) (by decide) (Nat.le_of_ble_eq_true rfl) (Nat.le_of_ble_eq_true rfl) rfl rfl rfl ⟨rfl, rfl⟩ (by decide) ?_
  refine n_putr dX4_init_98 fX4_45 nfX4_45 rfl rfl (tyX4_ok 12 (by decide)) (fun _ => rfl) (fun _ => rfl) rfl (by decide) (by decide) ?_
  refine n_aload_n dX4_init_101 rfl rfl ?_
  refine n_iconst dX4_init_102 ?_
  refine n_putg dX4_init_103 fX4_48 rfl rfl rfl (tyX4_ok 13 (by decide)) (by decide) (by decide) ?_
  refine n_aload_n dX4_init_106 rfl rfl ?_
  refine n_aload_n dX4_init_107 rfl rfl ?_
  refine n_putr dX4_init_108 fX4_52 nfX4_52 rfl rfl (tyX4_ok 0 (by decide)) (fun _ => rfl) (fun _ => rfl) rfl (by decide) (by decide) ?_
  exact n_vret dX4_init_111 rfl rfl rfl rfl rfl
theorem nfX6_63 : Cond.fieldLink RX6 63 RX6 (TX6 2).2.1 (TX6 2).2.2.1 ∈ goodTbl := gmem 304 (by decide +kernel)
theorem nfX6_67 : Cond.fieldLink RX6 67 RX6 (TX6 7).2.1 (TX6 7).2.2.1 ∈ goodTbl := gmem 310 (by decide +kernel)
theorem nfX6_71 : Cond.fieldLink RX6 71 RX6 (TX6 8).2.1 (TX6 8).2.2.1 ∈ goodTbl := gmem 311 (by decide +kernel)
theorem n_X6_init : WN [.inr (8, [some 1, some 12, some 13, some 16, some 1000, some 1000, some 1000, none]), .inr (0, [some 2, some 3, some 4, some 5, some 6, some 7, some 8, some 9, some 10, some 11, none, none, none]), .inl (0, 8), .inl (0, 8), .inl (0, 8), .inl (0, 14), .inl (0, 14), .inl (0, 14), .inl (0, 14), .inl (0, 14), .inl (0, 14), .inl (1, 14), .inr (4, [none, none, none, none, none, none, none]), .inr (1, [some 14, some 15]), .inl (2, 1024), .inl (0, 9), .inr (7, [some 1, some 12, some 13, some 17, some 18, some 19, some 20, some 21, some 22, some 23, none, none]), .inl (0, 14), .inl (0, 14), .inl (0, 14), .inl (0, 14), .inl (0, 14), .inl (0, 14), .inl (0, 196), .inr (5, [some 1000, some 1000, some 1000, some 1000, some 1000, some 1000, some 1000, some 1000, some 1000, none, none, none, none, none])] (si (si (si (si (si (si (si (si (si (si (si (si (Mz) 1 10 0) 1 11 0) 1 12 0) 12 0 14) 12 1 50) 12 2 70) 12 3 100) 12 4 2) 12 5 0) 12 6 0) 16 10 0) 16 11 0) [vr 24, vr 1, vr 16, vi 3000] [.inr (8, [some 1, some 12, some 13, some 16, some 1000, some 1000, some 1000, none]), .inr (0, [some 2, some 3, some 4, some 5, some 6, some 7, some 8, some 9, some 10, some 11, none, none, none]), .inl (0, 8), .inl (0, 8), .inl (0, 8), .inl (0, 14), .inl (0, 14), .inl (0, 14), .inl (0, 14), .inl (0, 14), .inl (0, 14), .inl (1, 14), .inr (4, [none, none, none, none, none, none, none]), .inr (1, [some 14, some 15]), .inl (2, 1024), .inl (0, 9), .inr (7, [some 1, some 12, some 13, some 17, some 18, some 19, some 20, some 21, some 22, some 23, none, none]), .inl (0, 14), .inl (0, 14), .inl (0, 14), .inl (0, 14), .inl (0, 14), .inl (0, 14), .inl (0, 196), .inr (5, [some 1, some 16, some 29, some 25, some 26, some 27, some 28, some 42, some 43, none, none, none, none, none]), .inl (0, 14), .inl (0, 14), .inl (0, 14), .inl (0, 14), .inr (3, [some 16, some 30, some 31, some 32, some 33, some 34, some 35, some 36, some 37, some 38, some 39, some 40, some 41, none]), .inl (0, 14), .inl (0, 14), .inl (0, 14), .inl (0, 14), .inl (0, 14), .inl (0, 14), .inl (0, 196), .inl (0, 14), .inl (0, 14), .inl (0, 14), .inl (0, 14), .inl (0, 14), .inl (1, 3000), .inl (0, 3000)] (si (si (si (si (si (si (si (si (si (si (si (si (si (si (si (si (si (si (Mz) 1 10 0) 1 11 0) 1 12 0) 12 0 14) 12 1 50) 12 2 70) 12 3 100) 12 4 2) 12 5 0) 12 6 0) 16 10 0) 16 11 0) 24 9 0) 24 10 0) 24 11 0) 24 12 0) 24 13 0) 29 13 0) 2 19 6420 mX6_init := by
  refine wn_of (by decide +kernel) (Nat.le_of_ble_eq_true rfl) ?_
  refine n_aload_n dX6_init_0 rfl rfl ?_
  refine n_obj dX6_init_1 moX6 ob_i ob_c (by decide) (Nat.le_of_ble_eq_true rfl) ?_
  refine n_aload_n dX6_init_4 rfl rfl ?_
  refine n_bipush dX6_init_5 rfl ?_
  refine n_newa_int (pn := 25) (n := 14) dX6_init_7 ar_int rfl (by decide) (by decide) (Nat.le_of_ble_eq_true rfl) (Nat.le_of_ble_eq_true rfl) rfl rfl rfl ⟨rfl, rfl⟩ (by decide) ?_
  refine n_putr dX6_init_9 fX6_9 nfX6_9 rfl rfl (tyX6_ok 3 (by decide)) (fun _ => rfl) (fun _ => rfl) rfl (by decide) (by decide) ?_
  refine n_aload_n dX6_init_12 rfl rfl ?_
  refine n_bipush dX6_init_13 rfl ?_
  refine n_newa_int (pn := 26) (n := 14) dX6_init_15 ar_int rfl (by decide) (by decide) (Nat.le_of_ble_eq_true rfl) (Nat.le_of_ble_eq_true rfl) rfl rfl rfl ⟨rfl, rfl⟩ (by decide) ?_
  refine n_putr dX6_init_17 fX6_15 nfX6_15 rfl rfl (tyX6_ok 4 (by decide)) (fun _ => rfl) (fun _ => rfl) rfl (by decide) (by decide) ?_
  refine n_aload_n dX6_init_20 rfl rfl ?_
  refine n_bipush dX6_init_21 rfl ?_
  refine n_newa_int (pn := 27) (n := 14) dX6_init_23 ar_int rfl (by decide) (by decide) (Nat.le_of_ble_eq_true rfl) (Nat.le_of_ble_eq_true rfl) rfl rfl rfl ⟨rfl, rfl⟩ (by decide) ?_
  refine n_putr dX6_init_25 fX6_18 nfX6_18 rfl rfl (tyX6_ok 5 (by decide)) (fun _ => rfl) (fun _ => rfl) rfl (by decide) (by decide) ?_
  refine n_aload_n dX6_init_28 rfl rfl ?_
  refine n_bipush dX6_init_29 rfl ?_
  refine n_newa_int (pn := 28) (n := 14) dX6_init_31 ar_int rfl (by decide) (by decide) (Nat.le_of_ble_eq_true rfl) (Nat.le_of_ble_eq_true rfl) rfl rfl rfl ⟨rfl, rfl⟩ (by decide) ?_
  refine n_putr dX6_init_33 fX6_21 nfX6_21 rfl rfl (tyX6_ok 6 (by decide)) (fun _ => rfl) (fun _ => rfl) rfl (by decide) (by decide) ?_
  refine n_aload_n dX6_init_36 rfl rfl ?_
  refine n_iconst dX6_init_37 ?_
  refine n_putg dX6_init_38 fX6_24 rfl rfl rfl (tyX6_ok 9 (by decide)) (by decide) (by decide) ?_
  refine n_aload_n dX6_init_41 rfl rfl ?_
  refine n_iconst dX6_init_42 ?_
  refine n_putg dX6_init_43 fX6_28 rfl rfl rfl (tyX6_ok 10 (by decide)) (by decide) (by decide) ?_
  refine n_aload_n dX6_init_46 rfl rfl ?_
  refine n_iconst dX6_init_47 ?_
  refine n_putg dX6_init_48 fX6_31 rfl rfl rfl (tyX6_ok 11 (by decide)) (by decide) (by decide) ?_
  refine n_aload_n dX6_init_51 rfl rfl ?_
  refine n_iconst dX6_init_52 ?_
  refine n_putg dX6_init_53 fX6_34 rfl rfl rfl (tyX6_ok 12 (by decide)) (by decide) (by decide) ?_
  refine n_aload_n dX6_init_56 rfl rfl ?_
  refine n_iconst dX6_init_57 ?_
  refine n_putg dX6_init_58 fX6_37 rfl rfl rfl (tyX6_ok 13 (by decide)) (by decide) (by decide) ?_
  refine n_iconst dX6_init_61 ?_
  refine n_iload_n dX6_init_62 rfl rfl ?_
  refine n_sipush dX6_init_63 rfl ?_
  refine n_min dX6_init_66 lX6_41 (by decide) (Nat.le_of_ble_eq_true rfl) (Nat.le_of_ble_eq_true rfl) (Nat.le_of_ble_eq_true rfl) ?_
  rw [show min (3000 : Int) 3000 = 3000 by decide]
  refine n_max dX6_init_69 lX6_47 (by decide) (Nat.le_of_ble_eq_true rfl) (Nat.le_of_ble_eq_true rfl) (Nat.le_of_ble_eq_true rfl) ?_
  rw [show max (0 : Int) 3000 = 3000 by decide]
  refine n_istore (ls' := [some _, some _, some _, some _, some _]) dX6_init_72 (by decide) rfl ?_
  refine n_aload_n dX6_init_74 rfl rfl ?_
  refine n_aload_n dX6_init_75 rfl rfl ?_
  refine n_putr dX6_init_76 fX6_50 nfX6_50 rfl rfl (tyX6_ok 0 (by decide)) (fun _ => rfl) (fun _ => rfl) rfl (by decide) (by decide) ?_
  refine n_aload_n dX6_init_79 rfl rfl ?_
  refine n_aload_n dX6_init_80 rfl rfl ?_
  refine n_putr dX6_init_81 fX6_54 nfX6_54 rfl rfl (tyX6_ok 1 (by decide)) (fun _ => rfl) (fun _ => rfl) rfl (by decide) (by decide) ?_
  refine n_aload_n dX6_init_84 rfl rfl ?_
  refine n_new (ci := 3) (pn := 29) (L := [some 1000, some 1000, some 1000, some 1000, some 1000, some 1000, some 1000, some 1000, some 1000, some 1000, some 1000, some 1000, some 1000, none]) dX6_init_85 rfl tyX4_ok clX6_58 inX4 iiX4 rfl fsX4 rfl (Nat.le_of_ble_eq_true rfl) (Nat.le_of_ble_eq_true rfl) rfl rfl rfl rfl (by decide) ?_
  refine n_dup dX6_init_88 rfl ?_
  refine n_aload_n dX6_init_89 rfl rfl ?_
  refine n_callI (pn := 30) dX6_init_90 liX6_60 n_X4_init rfl rfl (by decide) (Nat.le_of_ble_eq_true rfl) (Nat.le_of_ble_eq_true rfl) rfl rfl rfl (by decide) (Nat.le_of_ble_eq_true rfl) ?_
  refine n_putr dX6_init_93 fX6_63 nfX6_63 rfl rfl (tyX6_ok 2 (by decide)) (fun _ => rfl) (fun _ => rfl) rfl (by decide) (by decide) ?_
  refine n_aload_n dX6_init_96 rfl rfl ?_
  refine n_iload dX6_init_97 rfl ?_
  refine n_newa_long (pn := 42) (n := 3000) dX6_init_99 ar_long rfl (by decide) (by decide) (Nat.le_of_ble_eq_true rfl) (Nat.le_of_ble_eq_true rfl) rfl rfl rfl ⟨rfl, rfl⟩ (by decide) ?_
  refine n_putr dX6_init_101 fX6_67 nfX6_67 rfl rfl (tyX6_ok 7 (by decide)) (fun _ => rfl) (fun _ => rfl) rfl (by decide) (by decide) ?_
  refine n_aload_n dX6_init_104 rfl rfl ?_
  refine n_iload dX6_init_105 rfl ?_
  refine n_newa_int (pn := 43) (n := 3000) dX6_init_107 ar_int rfl (by decide) (by decide) (Nat.le_of_ble_eq_true rfl) (Nat.le_of_ble_eq_true rfl) rfl rfl rfl ⟨rfl, rfl⟩ (by decide) ?_
  refine n_putr dX6_init_109 fX6_71 nfX6_71 rfl rfl (tyX6_ok 8 (by decide)) (fun _ => rfl) (fun _ => rfl) rfl (by decide) (by decide) ?_
  exact n_vret dX6_init_112 rfl rfl rfl rfl rfl
theorem nfX9_44 : Cond.fieldLink RX9 44 RX9 (TX9 4).2.1 (TX9 4).2.2.1 ∈ goodTbl := gmem 396 (by decide +kernel)
theorem fsX7 : ∀ ad j, j < 4 → defaultValue (tyX7 j) = vp_V (fvN ad (fun _ => 0) 0 [some 1000, some 1000, some 1000, some 1000]) j := by
  intro ad j hj
  rcases (show j = 0 ∨ j = 1 ∨ j = 2 ∨ j = 3 by omega) with rfl | rfl | rfl | rfl <;> rfl
theorem inX7 : Cond.instantiable RX7 4 ∈ goodTbl := gmem 352 (by decide +kernel)
theorem iiX7 : Cond.initialized RX7 ∈ goodTbl := gmem 56 (by decide +kernel)
theorem clX9_48 : Cond.classLink RX9 48 RX7 ∈ goodTbl := gmem 351 (by decide +kernel)
theorem n_X4_init_2 : WN [.inr (8, [some 1, some 12, some 13, some 16, some 24, some 1000, some 1000, none]), .inr (0, [some 2, some 3, some 4, some 5, some 6, some 7, some 8, some 9, some 10, some 11, none, none, none]), .inl (0, 8), .inl (0, 8), .inl (0, 8), .inl (0, 14), .inl (0, 14), .inl (0, 14), .inl (0, 14), .inl (0, 14), .inl (0, 14), .inl (1, 14), .inr (4, [none, none, none, none, none, none, none]), .inr (1, [some 14, some 15]), .inl (2, 1024), .inl (0, 9), .inr (7, [some 1, some 12, some 13, some 17, some 18, some 19, some 20, some 21, some 22, some 23, none, none]), .inl (0, 14), .inl (0, 14), .inl (0, 14), .inl (0, 14), .inl (0, 14), .inl (0, 14), .inl (0, 196), .inr (5, [some 1, some 16, some 29, some 25, some 26, some 27, some 28, some 42, some 43, none, none, none, none, none]), .inl (0, 14), .inl (0, 14), .inl (0, 14), .inl (0, 14), .inr (3, [some 16, some 30, some 31, some 32, some 33, some 34, some 35, some 36, some 37, some 38, some 39, some 40, some 41, none]), .inl (0, 14), .inl (0, 14), .inl (0, 14), .inl (0, 14), .inl (0, 14), .inl (0, 14), .inl (0, 196), .inl (0, 14), .inl (0, 14), .inl (0, 14), .inl (0, 14), .inl (0, 14), .inl (1, 3000), .inl (0, 3000), .inr (6, [some 1000, some 1000, some 1000, some 1000]), .inr (5, [some 1, some 16, some 1000, some 46, some 47, some 48, some 49, some 1000, some 1000, none, none, none, none, none]), .inl (0, 14), .inl (0, 14), .inl (0, 14), .inl (0, 14), .inr (3, [some 1000, some 1000, some 1000, some 1000, some 1000, some 1000, some 1000, some 1000, some 1000, some 1000, some 1000, some 1000, some 1000, none])] (si (si (si (si (si (si (si (si (si (si (si (si (si (si (si (si (si (si (si (si (si (si (si (Mz) 1 10 0) 1 11 0) 1 12 0) 12 0 14) 12 1 50) 12 2 70) 12 3 100) 12 4 2) 12 5 0) 12 6 0) 16 10 0) 16 11 0) 24 9 0) 24 10 0) 24 11 0) 24 12 0) 24 13 0) 29 13 0) 45 9 0) 45 10 0) 45 11 0) 45 12 0) 45 13 0) [vr 50, vr 16] [.inr (8, [some 1, some 12, some 13, some 16, some 24, some 1000, some 1000, none]), .inr (0, [some 2, some 3, some 4, some 5, some 6, some 7, some 8, some 9, some 10, some 11, none, none, none]), .inl (0, 8), .inl (0, 8), .inl (0, 8), .inl (0, 14), .inl (0, 14), .inl (0, 14), .inl (0, 14), .inl (0, 14), .inl (0, 14), .inl (1, 14), .inr (4, [none, none, none, none, none, none, none]), .inr (1, [some 14, some 15]), .inl (2, 1024), .inl (0, 9), .inr (7, [some 1, some 12, some 13, some 17, some 18, some 19, some 20, some 21, some 22, some 23, none, none]), .inl (0, 14), .inl (0, 14), .inl (0, 14), .inl (0, 14), .inl (0, 14), .inl (0, 14), .inl (0, 196), .inr (5, [some 1, some 16, some 29, some 25, some 26, some 27, some 28, some 42, some 43, none, none, none, none, none]), .inl (0, 14), .inl (0, 14), .inl (0, 14), .inl (0, 14), .inr (3, [some 16, some 30, some 31, some 32, some 33, some 34, some 35, some 36, some 37, some 38, some 39, some 40, some 41, none]), .inl (0, 14), .inl (0, 14), .inl (0, 14), .inl (0, 14), .inl (0, 14), .inl (0, 14), .inl (0, 196), .inl (0, 14), .inl (0, 14), .inl (0, 14), .inl (0, 14), .inl (0, 14), .inl (1, 3000), .inl (0, 3000), .inr (6, [some 1000, some 1000, some 1000, some 1000]), .inr (5, [some 1, some 16, some 1000, some 46, some 47, some 48, some 49, some 1000, some 1000, none, none, none, none, none]), .inl (0, 14), .inl (0, 14), .inl (0, 14), .inl (0, 14), .inr (3, [some 16, some 51, some 52, some 53, some 54, some 55, some 56, some 57, some 58, some 59, some 60, some 61, some 62, none]), .inl (0, 14), .inl (0, 14), .inl (0, 14), .inl (0, 14), .inl (0, 14), .inl (0, 14), .inl (0, 196), .inl (0, 14), .inl (0, 14), .inl (0, 14), .inl (0, 14), .inl (0, 14)] (si (si (si (si (si (si (si (si (si (si (si (si (si (si (si (si (si (si (si (si (si (si (si (si (Mz) 1 10 0) 1 11 0) 1 12 0) 12 0 14) 12 1 50) 12 2 70) 12 3 100) 12 4 2) 12 5 0) 12 6 0) 16 10 0) 16 11 0) 24 9 0) 24 10 0) 24 11 0) 24 12 0) 24 13 0) 29 13 0) 45 9 0) 45 10 0) 45 11 0) 45 12 0) 45 13 0) 50 13 0) 1 12 350 mX4_init := by
  refine wn_of (by decide +kernel) (Nat.le_of_ble_eq_true rfl) ?_
  refine n_aload_n dX4_init_0 rfl rfl ?_
  refine n_obj dX4_init_1 moX4 ob_i ob_c (by decide) (Nat.le_of_ble_eq_true rfl) ?_
  refine n_aload_n dX4_init_4 rfl rfl ?_
  refine n_bipush dX4_init_5 rfl ?_
  refine n_newa_int (pn := 51) (n := 14) dX4_init_7 ar_int rfl (by decide) (by decide) (Nat.le_of_ble_eq_true rfl) (Nat.le_of_ble_eq_true rfl) rfl rfl rfl ⟨rfl, rfl⟩ (by decide) ?_
  refine n_putr dX4_init_9 fX4_9 nfX4_9 rfl rfl (tyX4_ok 1 (by decide)) (fun _ => rfl) (fun _ => rfl) rfl (by decide) (by decide) ?_
  refine n_aload_n dX4_init_12 rfl rfl ?_
  refine n_bipush dX4_init_13 rfl ?_
  refine n_newa_int (pn := 52) (n := 14) dX4_init_15 ar_int rfl (by decide) (by decide) (Nat.le_of_ble_eq_true rfl) (Nat.le_of_ble_eq_true rfl) rfl rfl rfl ⟨rfl, rfl⟩ (by decide) ?_
  refine n_putr dX4_init_17 fX4_15 nfX4_15 rfl rfl (tyX4_ok 2 (by decide)) (fun _ => rfl) (fun _ => rfl) rfl (by decide) (by decide) ?_
  refine n_aload_n dX4_init_20 rfl rfl ?_
  refine n_bipush dX4_init_21 rfl ?_
  refine n_newa_int (pn := 53) (n := 14) dX4_init_23 ar_int rfl (by decide) (by decide) (Nat.le_of_ble_eq_true rfl) (Nat.le_of_ble_eq_true rfl) rfl rfl rfl ⟨rfl, rfl⟩ (by decide) ?_
  refine n_putr dX4_init_25 fX4_18 nfX4_18 rfl rfl (tyX4_ok 3 (by decide)) (fun _ => rfl) (fun _ => rfl) rfl (by decide) (by decide) ?_
  refine n_aload_n dX4_init_28 rfl rfl ?_
  refine n_bipush dX4_init_29 rfl ?_
  refine n_newa_int (pn := 54) (n := 14) dX4_init_31 ar_int rfl (by decide) (by decide) (Nat.le_of_ble_eq_true rfl) (Nat.le_of_ble_eq_true rfl) rfl rfl rfl ⟨rfl, rfl⟩ (by decide) ?_
  refine n_putr dX4_init_33 fX4_21 nfX4_21 rfl rfl (tyX4_ok 4 (by decide)) (fun _ => rfl) (fun _ => rfl) rfl (by decide) (by decide) ?_
  refine n_aload_n dX4_init_36 rfl rfl ?_
  refine n_bipush dX4_init_37 rfl ?_
  refine n_newa_int (pn := 55) (n := 14) dX4_init_39 ar_int rfl (by decide) (by decide) (Nat.le_of_ble_eq_true rfl) (Nat.le_of_ble_eq_true rfl) rfl rfl rfl ⟨rfl, rfl⟩ (by decide) ?_
  refine n_putr dX4_init_41 fX4_24 nfX4_24 rfl rfl (tyX4_ok 5 (by decide)) (fun _ => rfl) (fun _ => rfl) rfl (by decide) (by decide) ?_
  refine n_aload_n dX4_init_44 rfl rfl ?_
  refine n_bipush dX4_init_45 rfl ?_
  refine n_newa_int (pn := 56) (n := 14) dX4_init_47 ar_int rfl (by decide) (by decide) (Nat.le_of_ble_eq_true rfl) (Nat.le_of_ble_eq_true rfl) rfl rfl rfl ⟨rfl, rfl⟩ (by decide) ?_
  refine n_putr dX4_init_49 fX4_27 nfX4_27 rfl rfl (tyX4_ok 6 (by decide)) (fun _ => rfl) (fun _ => rfl) rfl (by decide) (by decide) ?_
  refine n_aload_n dX4_init_52 rfl rfl ?_
  refine n_sipush dX4_init_53 rfl ?_
  refine n_newa_int (pn := 57) (n := 196) dX4_init_56 ar_int rfl (by decide) (by decide) (Nat.le_of_ble_eq_true rfl) (Nat.le_of_ble_eq_true rfl) rfl rfl rfl ⟨rfl, rfl⟩ (by decide) ?_
  refine n_putr dX4_init_58 fX4_30 nfX4_30 rfl rfl (tyX4_ok 7 (by decide)) (fun _ => rfl) (fun _ => rfl) rfl (by decide) (by decide) ?_
  refine n_aload_n dX4_init_61 rfl rfl ?_
  refine n_bipush dX4_init_62 rfl ?_
  refine n_newa_int (pn := 58) (n := 14) dX4_init_64 ar_int rfl (by decide) (by decide) (Nat.le_of_ble_eq_true rfl) (Nat.le_of_ble_eq_true rfl) rfl rfl rfl ⟨rfl, rfl⟩ (by decide) ?_
  refine n_putr dX4_init_66 fX4_33 nfX4_33 rfl rfl (tyX4_ok 8 (by decide)) (fun _ => rfl) (fun _ => rfl) rfl (by decide) (by decide) ?_
  refine n_aload_n dX4_init_69 rfl rfl ?_
  refine n_bipush dX4_init_70 rfl ?_
  refine n_newa_int (pn := 59) (n := 14) dX4_init_72 ar_int rfl (by decide) (by decide) (Nat.le_of_ble_eq_true rfl) (Nat.le_of_ble_eq_true rfl) rfl rfl rfl ⟨rfl, rfl⟩ (by decide) ?_
  refine n_putr dX4_init_74 fX4_36 nfX4_36 rfl rfl (tyX4_ok 9 (by decide)) (fun _ => rfl) (fun _ => rfl) rfl (by decide) (by decide) ?_
  refine n_aload_n dX4_init_77 rfl rfl ?_
  refine n_bipush dX4_init_78 rfl ?_
  refine n_newa_int (pn := 60) (n := 14) dX4_init_80 ar_int rfl (by decide) (by decide) (Nat.le_of_ble_eq_true rfl) (Nat.le_of_ble_eq_true rfl) rfl rfl rfl ⟨rfl, rfl⟩ (by decide) ?_
  refine n_putr dX4_init_82 fX4_39 nfX4_39 rfl rfl (tyX4_ok 10 (by decide)) (fun _ => rfl) (fun _ => rfl) rfl (by decide) (by decide) ?_
  refine n_aload_n dX4_init_85 rfl rfl ?_
  refine n_bipush dX4_init_86 rfl ?_
  refine n_newa_int (pn := 61) (n := 14) dX4_init_88 ar_int rfl (by decide) (by decide) (Nat.le_of_ble_eq_true rfl) (Nat.le_of_ble_eq_true rfl) rfl rfl rfl ⟨rfl, rfl⟩ (by decide) ?_
  refine n_putr dX4_init_90 fX4_42 nfX4_42 rfl rfl (tyX4_ok 11 (by decide)) (fun _ => rfl) (fun _ => rfl) rfl (by decide) (by decide) ?_
  refine n_aload_n dX4_init_93 rfl rfl ?_
  refine n_bipush dX4_init_94 rfl ?_
  refine n_newa_int (pn := 62) (n := 14) dX4_init_96 ar_int rfl (by decide) (by decide) (Nat.le_of_ble_eq_true rfl) (Nat.le_of_ble_eq_true rfl) rfl rfl rfl ⟨rfl, rfl⟩ (by decide) ?_
  refine n_putr dX4_init_98 fX4_45 nfX4_45 rfl rfl (tyX4_ok 12 (by decide)) (fun _ => rfl) (fun _ => rfl) rfl (by decide) (by decide) ?_
  refine n_aload_n dX4_init_101 rfl rfl ?_
  refine n_iconst dX4_init_102 ?_
  refine n_putg dX4_init_103 fX4_48 rfl rfl rfl (tyX4_ok 13 (by decide)) (by decide) (by decide) ?_
  refine n_aload_n dX4_init_106 rfl rfl ?_
  refine n_aload_n dX4_init_107 rfl rfl ?_
  refine n_putr dX4_init_108 fX4_52 nfX4_52 rfl rfl (tyX4_ok 0 (by decide)) (fun _ => rfl) (fun _ => rfl) rfl (by decide) (by decide) ?_
  exact n_vret dX4_init_111 rfl rfl rfl rfl rfl
theorem n_X6_init_2 : WN [.inr (8, [some 1, some 12, some 13, some 16, some 24, some 1000, some 1000, none]), .inr (0, [some 2, some 3, some 4, some 5, some 6, some 7, some 8, some 9, some 10, some 11, none, none, none]), .inl (0, 8), .inl (0, 8), .inl (0, 8), .inl (0, 14), .inl (0, 14), .inl (0, 14), .inl (0, 14), .inl (0, 14), .inl (0, 14), .inl (1, 14), .inr (4, [none, none, none, none, none, none, none]), .inr (1, [some 14, some 15]), .inl (2, 1024), .inl (0, 9), .inr (7, [some 1, some 12, some 13, some 17, some 18, some 19, some 20, some 21, some 22, some 23, none, none]), .inl (0, 14), .inl (0, 14), .inl (0, 14), .inl (0, 14), .inl (0, 14), .inl (0, 14), .inl (0, 196), .inr (5, [some 1, some 16, some 29, some 25, some 26, some 27, some 28, some 42, some 43, none, none, none, none, none]), .inl (0, 14), .inl (0, 14), .inl (0, 14), .inl (0, 14), .inr (3, [some 16, some 30, some 31, some 32, some 33, some 34, some 35, some 36, some 37, some 38, some 39, some 40, some 41, none]), .inl (0, 14), .inl (0, 14), .inl (0, 14), .inl (0, 14), .inl (0, 14), .inl (0, 14), .inl (0, 196), .inl (0, 14), .inl (0, 14), .inl (0, 14), .inl (0, 14), .inl (0, 14), .inl (1, 3000), .inl (0, 3000), .inr (6, [some 1000, some 1000, some 1000, some 1000]), .inr (5, [some 1000, some 1000, some 1000, some 1000, some 1000, some 1000, some 1000, some 1000, some 1000, none, none, none, none, none])] (si (si (si (si (si (si (si (si (si (si (si (si (si (si (si (si (si (si (Mz) 1 10 0) 1 11 0) 1 12 0) 12 0 14) 12 1 50) 12 2 70) 12 3 100) 12 4 2) 12 5 0) 12 6 0) 16 10 0) 16 11 0) 24 9 0) 24 10 0) 24 11 0) 24 12 0) 24 13 0) 29 13 0) [vr 45, vr 1, vr 16, vi 0] [.inr (8, [some 1, some 12, some 13, some 16, some 24, some 1000, some 1000, none]), .inr (0, [some 2, some 3, some 4, some 5, some 6, some 7, some 8, some 9, some 10, some 11, none, none, none]), .inl (0, 8), .inl (0, 8), .inl (0, 8), .inl (0, 14), .inl (0, 14), .inl (0, 14), .inl (0, 14), .inl (0, 14), .inl (0, 14), .inl (1, 14), .inr (4, [none, none, none, none, none, none, none]), .inr (1, [some 14, some 15]), .inl (2, 1024), .inl (0, 9), .inr (7, [some 1, some 12, some 13, some 17, some 18, some 19, some 20, some 21, some 22, some 23, none, none]), .inl (0, 14), .inl (0, 14), .inl (0, 14), .inl (0, 14), .inl (0, 14), .inl (0, 14), .inl (0, 196), .inr (5, [some 1, some 16, some 29, some 25, some 26, some 27, some 28, some 42, some 43, none, none, none, none, none]), .inl (0, 14), .inl (0, 14), .inl (0, 14), .inl (0, 14), .inr (3, [some 16, some 30, some 31, some 32, some 33, some 34, some 35, some 36, some 37, some 38, some 39, some 40, some 41, none]), .inl (0, 14), .inl (0, 14), .inl (0, 14), .inl (0, 14), .inl (0, 14), .inl (0, 14), .inl (0, 196), .inl (0, 14), .inl (0, 14), .inl (0, 14), .inl (0, 14), .inl (0, 14), .inl (1, 3000), .inl (0, 3000), .inr (6, [some 1000, some 1000, some 1000, some 1000]), .inr (5, [some 1, some 16, some 50, some 46, some 47, some 48, some 49, some 63, some 64, none, none, none, none, none]), .inl (0, 14), .inl (0, 14), .inl (0, 14), .inl (0, 14), .inr (3, [some 16, some 51, some 52, some 53, some 54, some 55, some 56, some 57, some 58, some 59, some 60, some 61, some 62, none]), .inl (0, 14), .inl (0, 14), .inl (0, 14), .inl (0, 14), .inl (0, 14), .inl (0, 14), .inl (0, 196), .inl (0, 14), .inl (0, 14), .inl (0, 14), .inl (0, 14), .inl (0, 14), .inl (1, 0), .inl (0, 0)] (si (si (si (si (si (si (si (si (si (si (si (si (si (si (si (si (si (si (si (si (si (si (si (si (Mz) 1 10 0) 1 11 0) 1 12 0) 12 0 14) 12 1 50) 12 2 70) 12 3 100) 12 4 2) 12 5 0) 12 6 0) 16 10 0) 16 11 0) 24 9 0) 24 10 0) 24 11 0) 24 12 0) 24 13 0) 29 13 0) 45 9 0) 45 10 0) 45 11 0) 45 12 0) 45 13 0) 50 13 0) 2 19 420 mX6_init := by
  refine wn_of (by decide +kernel) (Nat.le_of_ble_eq_true rfl) ?_
  refine n_aload_n dX6_init_0 rfl rfl ?_
  refine n_obj dX6_init_1 moX6 ob_i ob_c (by decide) (Nat.le_of_ble_eq_true rfl) ?_
  refine n_aload_n dX6_init_4 rfl rfl ?_
  refine n_bipush dX6_init_5 rfl ?_
  refine n_newa_int (pn := 46) (n := 14) dX6_init_7 ar_int rfl (by decide) (by decide) (Nat.le_of_ble_eq_true rfl) (Nat.le_of_ble_eq_true rfl) rfl rfl rfl ⟨rfl, rfl⟩ (by decide) ?_
  refine n_putr dX6_init_9 fX6_9 nfX6_9 rfl rfl (tyX6_ok 3 (by decide)) (fun _ => rfl) (fun _ => rfl) rfl (by decide) (by decide) ?_
  refine n_aload_n dX6_init_12 rfl rfl ?_
  refine n_bipush dX6_init_13 rfl ?_
  refine n_newa_int (pn := 47) (n := 14) dX6_init_15 ar_int rfl (by decide) (by decide) (Nat.le_of_ble_eq_true rfl) (Nat.le_of_ble_eq_true rfl) rfl rfl rfl ⟨rfl, rfl⟩ (by decide) ?_
  refine n_putr dX6_init_17 fX6_15 nfX6_15 rfl rfl (tyX6_ok 4 (by decide)) (fun _ => rfl) (fun _ => rfl) rfl (by decide) (by decide) ?_
  refine n_aload_n dX6_init_20 rfl rfl ?_
  refine n_bipush dX6_init_21 rfl ?_
  refine n_newa_int (pn := 48) (n := 14) dX6_init_23 ar_int rfl (by decide) (by decide) (Nat.le_of_ble_eq_true rfl) (Nat.le_of_ble_eq_true rfl) rfl rfl rfl ⟨rfl, rfl⟩ (by decide) ?_
  refine n_putr dX6_init_25 fX6_18 nfX6_18 rfl rfl (tyX6_ok 5 (by decide)) (fun _ => rfl) (fun _ => rfl) rfl (by decide) (by decide) ?_
  refine n_aload_n dX6_init_28 rfl rfl ?_
  refine n_bipush dX6_init_29 rfl ?_
  refine n_newa_int (pn := 49) (n := 14) dX6_init_31 ar_int rfl (by decide) (by decide) (Nat.le_of_ble_eq_true rfl) (Nat.le_of_ble_eq_true rfl) rfl rfl rfl ⟨rfl, rfl⟩ (by decide) ?_
  refine n_putr dX6_init_33 fX6_21 nfX6_21 rfl rfl (tyX6_ok 6 (by decide)) (fun _ => rfl) (fun _ => rfl) rfl (by decide) (by decide) ?_
  refine n_aload_n dX6_init_36 rfl rfl ?_
  refine n_iconst dX6_init_37 ?_
  refine n_putg dX6_init_38 fX6_24 rfl rfl rfl (tyX6_ok 9 (by decide)) (by decide) (by decide) ?_
  refine n_aload_n dX6_init_41 rfl rfl ?_
  refine n_iconst dX6_init_42 ?_
  refine n_putg dX6_init_43 fX6_28 rfl rfl rfl (tyX6_ok 10 (by decide)) (by decide) (by decide) ?_
  refine n_aload_n dX6_init_46 rfl rfl ?_
  refine n_iconst dX6_init_47 ?_
  refine n_putg dX6_init_48 fX6_31 rfl rfl rfl (tyX6_ok 11 (by decide)) (by decide) (by decide) ?_
  refine n_aload_n dX6_init_51 rfl rfl ?_
  refine n_iconst dX6_init_52 ?_
  refine n_putg dX6_init_53 fX6_34 rfl rfl rfl (tyX6_ok 12 (by decide)) (by decide) (by decide) ?_
  refine n_aload_n dX6_init_56 rfl rfl ?_
  refine n_iconst dX6_init_57 ?_
  refine n_putg dX6_init_58 fX6_37 rfl rfl rfl (tyX6_ok 13 (by decide)) (by decide) (by decide) ?_
  refine n_iconst dX6_init_61 ?_
  refine n_iload_n dX6_init_62 rfl rfl ?_
  refine n_sipush dX6_init_63 rfl ?_
  refine n_min dX6_init_66 lX6_41 (by decide) (Nat.le_of_ble_eq_true rfl) (Nat.le_of_ble_eq_true rfl) (Nat.le_of_ble_eq_true rfl) ?_
  rw [show min (0 : Int) 3000 = 0 by decide]
  refine n_max dX6_init_69 lX6_47 (by decide) (Nat.le_of_ble_eq_true rfl) (Nat.le_of_ble_eq_true rfl) (Nat.le_of_ble_eq_true rfl) ?_
  rw [show max (0 : Int) 0 = 0 by decide]
  refine n_istore (ls' := [some _, some _, some _, some _, some _]) dX6_init_72 (by decide) rfl ?_
  refine n_aload_n dX6_init_74 rfl rfl ?_
  refine n_aload_n dX6_init_75 rfl rfl ?_
  refine n_putr dX6_init_76 fX6_50 nfX6_50 rfl rfl (tyX6_ok 0 (by decide)) (fun _ => rfl) (fun _ => rfl) rfl (by decide) (by decide) ?_
  refine n_aload_n dX6_init_79 rfl rfl ?_
  refine n_aload_n dX6_init_80 rfl rfl ?_
  refine n_putr dX6_init_81 fX6_54 nfX6_54 rfl rfl (tyX6_ok 1 (by decide)) (fun _ => rfl) (fun _ => rfl) rfl (by decide) (by decide) ?_
  refine n_aload_n dX6_init_84 rfl rfl ?_
  refine n_new (ci := 3) (pn := 50) (L := [some 1000, some 1000, some 1000, some 1000, some 1000, some 1000, some 1000, some 1000, some 1000, some 1000, some 1000, some 1000, some 1000, none]) dX6_init_85 rfl tyX4_ok clX6_58 inX4 iiX4 rfl fsX4 rfl (Nat.le_of_ble_eq_true rfl) (Nat.le_of_ble_eq_true rfl) rfl rfl rfl rfl (by decide) ?_
  refine n_dup dX6_init_88 rfl ?_
  refine n_aload_n dX6_init_89 rfl rfl ?_
  refine n_callI (pn := 51) dX6_init_90 liX6_60 n_X4_init_2 rfl rfl (by decide) (Nat.le_of_ble_eq_true rfl) (Nat.le_of_ble_eq_true rfl) rfl rfl rfl (by decide) (Nat.le_of_ble_eq_true rfl) ?_
  refine n_putr dX6_init_93 fX6_63 nfX6_63 rfl rfl (tyX6_ok 2 (by decide)) (fun _ => rfl) (fun _ => rfl) rfl (by decide) (by decide) ?_
  refine n_aload_n dX6_init_96 rfl rfl ?_
  refine n_iload dX6_init_97 rfl ?_
  refine n_newa_long (pn := 63) (n := 0) dX6_init_99 ar_long rfl (by decide) (by decide) (Nat.le_of_ble_eq_true rfl) (Nat.le_of_ble_eq_true rfl) rfl rfl rfl ⟨rfl, rfl⟩ (by decide) ?_
  refine n_putr dX6_init_101 fX6_67 nfX6_67 rfl rfl (tyX6_ok 7 (by decide)) (fun _ => rfl) (fun _ => rfl) rfl (by decide) (by decide) ?_
  refine n_aload_n dX6_init_104 rfl rfl ?_
  refine n_iload dX6_init_105 rfl ?_
  refine n_newa_int (pn := 64) (n := 0) dX6_init_107 ar_int rfl (by decide) (by decide) (Nat.le_of_ble_eq_true rfl) (Nat.le_of_ble_eq_true rfl) rfl rfl rfl ⟨rfl, rfl⟩ (by decide) ?_
  refine n_putr dX6_init_109 fX6_71 nfX6_71 rfl rfl (tyX6_ok 8 (by decide)) (fun _ => rfl) (fun _ => rfl) rfl (by decide) (by decide) ?_
  exact n_vret dX6_init_112 rfl rfl rfl rfl rfl
theorem liX9_50 : IOK RX9 50 mX7_init 2 := ⟨Or.inl (gmem 353 (by decide +kernel)), gmem 354 (by decide +kernel), gmem 56 (by decide +kernel), kcX7_init, by decide, by decide +kernel, rfl, rfl⟩
theorem moX7 : Cond.methodLink RX7 3 Lib.objectInit ∈ goodTbl := gmem 356 (by decide +kernel)
theorem nfX7_9 : Cond.fieldLink RX7 9 RX7 (TX7 2).2.1 (TX7 2).2.2.1 ∈ goodTbl := gmem 359 (by decide +kernel)
theorem nfX7_15 : Cond.fieldLink RX7 15 RX7 (TX7 3).2.1 (TX7 3).2.2.1 ∈ goodTbl := gmem 360 (by decide +kernel)
theorem nfX7_18 : Cond.fieldLink RX7 18 RX7 (TX7 0).2.1 (TX7 0).2.2.1 ∈ goodTbl := gmem 357 (by decide +kernel)
theorem nfX7_22 : Cond.fieldLink RX7 22 RX7 (TX7 1).2.1 (TX7 1).2.2.1 ∈ goodTbl := gmem 358 (by decide +kernel)
theorem n_X7_init : WN [.inr (8, [some 1, some 12, some 13, some 16, some 24, some 1000, some 1000, none]), .inr (0, [some 2, some 3, some 4, some 5, some 6, some 7, some 8, some 9, some 10, some 11, none, none, none]), .inl (0, 8), .inl (0, 8), .inl (0, 8), .inl (0, 14), .inl (0, 14), .inl (0, 14), .inl (0, 14), .inl (0, 14), .inl (0, 14), .inl (1, 14), .inr (4, [none, none, none, none, none, none, none]), .inr (1, [some 14, some 15]), .inl (2, 1024), .inl (0, 9), .inr (7, [some 1, some 12, some 13, some 17, some 18, some 19, some 20, some 21, some 22, some 23, none, none]), .inl (0, 14), .inl (0, 14), .inl (0, 14), .inl (0, 14), .inl (0, 14), .inl (0, 14), .inl (0, 196), .inr (5, [some 1, some 16, some 29, some 25, some 26, some 27, some 28, some 42, some 43, none, none, none, none, none]), .inl (0, 14), .inl (0, 14), .inl (0, 14), .inl (0, 14), .inr (3, [some 16, some 30, some 31, some 32, some 33, some 34, some 35, some 36, some 37, some 38, some 39, some 40, some 41, none]), .inl (0, 14), .inl (0, 14), .inl (0, 14), .inl (0, 14), .inl (0, 14), .inl (0, 14), .inl (0, 196), .inl (0, 14), .inl (0, 14), .inl (0, 14), .inl (0, 14), .inl (0, 14), .inl (1, 3000), .inl (0, 3000), .inr (6, [some 1000, some 1000, some 1000, some 1000]), .inr (5, [some 1, some 16, some 50, some 46, some 47, some 48, some 49, some 63, some 64, none, none, none, none, none]), .inl (0, 14), .inl (0, 14), .inl (0, 14), .inl (0, 14), .inr (3, [some 16, some 51, some 52, some 53, some 54, some 55, some 56, some 57, some 58, some 59, some 60, some 61, some 62, none]), .inl (0, 14), .inl (0, 14), .inl (0, 14), .inl (0, 14), .inl (0, 14), .inl (0, 14), .inl (0, 196), .inl (0, 14), .inl (0, 14), .inl (0, 14), .inl (0, 14), .inl (0, 14), .inl (1, 0), .inl (0, 0)] (si (si (si (si (si (si (si (si (si (si (si (si (si (si (si (si (si (si (si (si (si (si (si (si (Mz) 1 10 0) 1 11 0) 1 12 0) 12 0 14) 12 1 50) 12 2 70) 12 3 100) 12 4 2) 12 5 0) 12 6 0) 16 10 0) 16 11 0) 24 9 0) 24 10 0) 24 11 0) 24 12 0) 24 13 0) 29 13 0) 45 9 0) 45 10 0) 45 11 0) 45 12 0) 45 13 0) 50 13 0) [vr 44, vr 1, vr 45] [.inr (8, [some 1, some 12, some 13, some 16, some 24, some 1000, some 1000, none]), .inr (0, [some 2, some 3, some 4, some 5, some 6, some 7, some 8, some 9, some 10, some 11, none, none, none]), .inl (0, 8), .inl (0, 8), .inl (0, 8), .inl (0, 14), .inl (0, 14), .inl (0, 14), .inl (0, 14), .inl (0, 14), .inl (0, 14), .inl (1, 14), .inr (4, [none, none, none, none, none, none, none]), .inr (1, [some 14, some 15]), .inl (2, 1024), .inl (0, 9), .inr (7, [some 1, some 12, some 13, some 17, some 18, some 19, some 20, some 21, some 22, some 23, none, none]), .inl (0, 14), .inl (0, 14), .inl (0, 14), .inl (0, 14), .inl (0, 14), .inl (0, 14), .inl (0, 196), .inr (5, [some 1, some 16, some 29, some 25, some 26, some 27, some 28, some 42, some 43, none, none, none, none, none]), .inl (0, 14), .inl (0, 14), .inl (0, 14), .inl (0, 14), .inr (3, [some 16, some 30, some 31, some 32, some 33, some 34, some 35, some 36, some 37, some 38, some 39, some 40, some 41, none]), .inl (0, 14), .inl (0, 14), .inl (0, 14), .inl (0, 14), .inl (0, 14), .inl (0, 14), .inl (0, 196), .inl (0, 14), .inl (0, 14), .inl (0, 14), .inl (0, 14), .inl (0, 14), .inl (1, 3000), .inl (0, 3000), .inr (6, [some 1, some 45, some 65, some 66]), .inr (5, [some 1, some 16, some 50, some 46, some 47, some 48, some 49, some 63, some 64, none, none, none, none, none]), .inl (0, 14), .inl (0, 14), .inl (0, 14), .inl (0, 14), .inr (3, [some 16, some 51, some 52, some 53, some 54, some 55, some 56, some 57, some 58, some 59, some 60, some 61, some 62, none]), .inl (0, 14), .inl (0, 14), .inl (0, 14), .inl (0, 14), .inl (0, 14), .inl (0, 14), .inl (0, 196), .inl (0, 14), .inl (0, 14), .inl (0, 14), .inl (0, 14), .inl (0, 14), .inl (1, 0), .inl (0, 0), .inl (0, 256), .inl (0, 3584)] (si (si (si (si (si (si (si (si (si (si (si (si (si (si (si (si (si (si (si (si (si (si (si (si (Mz) 1 10 0) 1 11 0) 1 12 0) 12 0 14) 12 1 50) 12 2 70) 12 3 100) 12 4 2) 12 5 0) 12 6 0) 16 10 0) 16 11 0) 24 9 0) 24 10 0) 24 11 0) 24 12 0) 24 13 0) 29 13 0) 45 9 0) 45 10 0) 45 11 0) 45 12 0) 45 13 0) 50 13 0) 1 2 3840 mX7_init := by
  refine wn_of (by decide +kernel) (Nat.le_of_ble_eq_true rfl) ?_
  refine n_aload_n dX7_init_0 rfl rfl ?_
  refine n_obj dX7_init_1 moX7 ob_i ob_c (by decide) (Nat.le_of_ble_eq_true rfl) ?_
  refine n_aload_n dX7_init_4 rfl rfl ?_
  refine n_sipush dX7_init_5 rfl ?_
  refine n_newa_int (pn := 65) (n := 256) dX7_init_8 ar_int rfl (by decide) (by decide) (Nat.le_of_ble_eq_true rfl) (Nat.le_of_ble_eq_true rfl) rfl rfl rfl ⟨rfl, rfl⟩ (by decide) ?_
  refine n_putr dX7_init_10 fX7_9 nfX7_9 rfl rfl (tyX7_ok 2 (by decide)) (fun _ => rfl) (fun _ => rfl) rfl (by decide) (by decide) ?_
  refine n_aload_n dX7_init_13 rfl rfl ?_
  refine n_sipush dX7_init_14 rfl ?_
  refine n_newa_int (pn := 66) (n := 3584) dX7_init_17 ar_int rfl (by decide) (by decide) (Nat.le_of_ble_eq_true rfl) (Nat.le_of_ble_eq_true rfl) rfl rfl rfl ⟨rfl, rfl⟩ (by decide) ?_
  refine n_putr dX7_init_19 fX7_15 nfX7_15 rfl rfl (tyX7_ok 3 (by decide)) (fun _ => rfl) (fun _ => rfl) rfl (by decide) (by decide) ?_
  refine n_aload_n dX7_init_22 rfl rfl ?_
  refine n_aload_n dX7_init_23 rfl rfl ?_
  refine n_putr dX7_init_24 fX7_18 nfX7_18 rfl rfl (tyX7_ok 0 (by decide)) (fun _ => rfl) (fun _ => rfl) rfl (by decide) (by decide) ?_
  refine n_aload_n dX7_init_27 rfl rfl ?_
  refine n_aload_n dX7_init_28 rfl rfl ?_
  refine n_putr dX7_init_29 fX7_22 nfX7_22 rfl rfl (tyX7_ok 1 (by decide)) (fun _ => rfl) (fun _ => rfl) rfl (by decide) (by decide) ?_
  exact n_vret dX7_init_32 rfl rfl rfl rfl rfl
theorem nfX9_53 : Cond.fieldLink RX9 53 RX9 (TX9 5).2.1 (TX9 5).2.2.1 ∈ goodTbl := gmem 397 (by decide +kernel)
theorem fsX2 : ∀ ad j, j < 5 → defaultValue (tyX2 j) = vp_V (fvN ad (fun _ => 0) 0 [some 1000, some 1000, some 1000, some 1000, none]) j := by
  intro ad j hj
  rcases (show j = 0 ∨ j = 1 ∨ j = 2 ∨ j = 3 ∨ j = 4 by omega) with rfl | rfl | rfl | rfl | rfl <;> rfl
theorem inX2 : Cond.instantiable RX2 5 ∈ goodTbl := gmem 371 (by decide +kernel)
theorem iiX2 : Cond.initialized RX2 ∈ goodTbl := gmem 57 (by decide +kernel)
theorem clX9_57 : Cond.classLink RX9 57 RX2 ∈ goodTbl := gmem 370 (by decide +kernel)
theorem liX9_59 : IOK RX9 59 mX2_init 1 := ⟨Or.inl (gmem 372 (by decide +kernel)), gmem 373 (by decide +kernel), gmem 57 (by decide +kernel), kcX2_init, by decide, by decide +kernel, rfl, rfl⟩
theorem moX2 : Cond.methodLink RX2 3 Lib.objectInit ∈ goodTbl := gmem 375 (by decide +kernel)
theorem nfX2_9 : Cond.fieldLink RX2 9 RX2 (TX2 1).2.1 (TX2 1).2.2.1 ∈ goodTbl := gmem 377 (by decide +kernel)
theorem nfX2_15 : Cond.fieldLink RX2 15 RX2 (TX2 2).2.1 (TX2 2).2.2.1 ∈ goodTbl := gmem 378 (by decide +kernel)
theorem nfX2_18 : Cond.fieldLink RX2 18 RX2 (TX2 3).2.1 (TX2 3).2.2.1 ∈ goodTbl := gmem 379 (by decide +kernel)
theorem nfX2_25 : Cond.fieldLink RX2 25 RX2 (TX2 0).2.1 (TX2 0).2.2.1 ∈ goodTbl := gmem 376 (by decide +kernel)
theorem n_X2_init : WN [.inr (8, [some 1, some 12, some 13, some 16, some 24, some 44, some 1000, none]), .inr (0, [some 2, some 3, some 4, some 5, some 6, some 7, some 8, some 9, some 10, some 11, none, none, none]), .inl (0, 8), .inl (0, 8), .inl (0, 8), .inl (0, 14), .inl (0, 14), .inl (0, 14), .inl (0, 14), .inl (0, 14), .inl (0, 14), .inl (1, 14), .inr (4, [none, none, none, none, none, none, none]), .inr (1, [some 14, some 15]), .inl (2, 1024), .inl (0, 9), .inr (7, [some 1, some 12, some 13, some 17, some 18, some 19, some 20, some 21, some 22, some 23, none, none]), .inl (0, 14), .inl (0, 14), .inl (0, 14), .inl (0, 14), .inl (0, 14), .inl (0, 14), .inl (0, 196), .inr (5, [some 1, some 16, some 29, some 25, some 26, some 27, some 28, some 42, some 43, none, none, none, none, none]), .inl (0, 14), .inl (0, 14), .inl (0, 14), .inl (0, 14), .inr (3, [some 16, some 30, some 31, some 32, some 33, some 34, some 35, some 36, some 37, some 38, some 39, some 40, some 41, none]), .inl (0, 14), .inl (0, 14), .inl (0, 14), .inl (0, 14), .inl (0, 14), .inl (0, 14), .inl (0, 196), .inl (0, 14), .inl (0, 14), .inl (0, 14), .inl (0, 14), .inl (0, 14), .inl (1, 3000), .inl (0, 3000), .inr (6, [some 1, some 45, some 65, some 66]), .inr (5, [some 1, some 16, some 50, some 46, some 47, some 48, some 49, some 63, some 64, none, none, none, none, none]), .inl (0, 14), .inl (0, 14), .inl (0, 14), .inl (0, 14), .inr (3, [some 16, some 51, some 52, some 53, some 54, some 55, some 56, some 57, some 58, some 59, some 60, some 61, some 62, none]), .inl (0, 14), .inl (0, 14), .inl (0, 14), .inl (0, 14), .inl (0, 14), .inl (0, 14), .inl (0, 196), .inl (0, 14), .inl (0, 14), .inl (0, 14), .inl (0, 14), .inl (0, 14), .inl (1, 0), .inl (0, 0), .inl (0, 256), .inl (0, 3584), .inr (2, [some 1000, some 1000, some 1000, some 1000, none])] (si (si (si (si (si (si (si (si (si (si (si (si (si (si (si (si (si (si (si (si (si (si (si (si (Mz) 1 10 0) 1 11 0) 1 12 0) 12 0 14) 12 1 50) 12 2 70) 12 3 100) 12 4 2) 12 5 0) 12 6 0) 16 10 0) 16 11 0) 24 9 0) 24 10 0) 24 11 0) 24 12 0) 24 13 0) 29 13 0) 45 9 0) 45 10 0) 45 11 0) 45 12 0) 45 13 0) 50 13 0) [vr 67, vr 1] [.inr (8, [some 1, some 12, some 13, some 16, some 24, some 44, some 1000, none]), .inr (0, [some 2, some 3, some 4, some 5, some 6, some 7, some 8, some 9, some 10, some 11, none, none, none]), .inl (0, 8), .inl (0, 8), .inl (0, 8), .inl (0, 14), .inl (0, 14), .inl (0, 14), .inl (0, 14), .inl (0, 14), .inl (0, 14), .inl (1, 14), .inr (4, [none, none, none, none, none, none, none]), .inr (1, [some 14, some 15]), .inl (2, 1024), .inl (0, 9), .inr (7, [some 1, some 12, some 13, some 17, some 18, some 19, some 20, some 21, some 22, some 23, none, none]), .inl (0, 14), .inl (0, 14), .inl (0, 14), .inl (0, 14), .inl (0, 14), .inl (0, 14), .inl (0, 196), .inr (5, [some 1, some 16, some 29, some 25, some 26, some 27, some 28, some 42, some 43, none, none, none, none, none]), .inl (0, 14), .inl (0, 14), .inl (0, 14), .inl (0, 14), .inr (3, [some 16, some 30, some 31, some 32, some 33, some 34, some 35, some 36, some 37, some 38, some 39, some 40, some 41, none]), .inl (0, 14), .inl (0, 14), .inl (0, 14), .inl (0, 14), .inl (0, 14), .inl (0, 14), .inl (0, 196), .inl (0, 14), .inl (0, 14), .inl (0, 14), .inl (0, 14), .inl (0, 14), .inl (1, 3000), .inl (0, 3000), .inr (6, [some 1, some 45, some 65, some 66]), .inr (5, [some 1, some 16, some 50, some 46, some 47, some 48, some 49, some 63, some 64, none, none, none, none, none]), .inl (0, 14), .inl (0, 14), .inl (0, 14), .inl (0, 14), .inr (3, [some 16, some 51, some 52, some 53, some 54, some 55, some 56, some 57, some 58, some 59, some 60, some 61, some 62, none]), .inl (0, 14), .inl (0, 14), .inl (0, 14), .inl (0, 14), .inl (0, 14), .inl (0, 14), .inl (0, 196), .inl (0, 14), .inl (0, 14), .inl (0, 14), .inl (0, 14), .inl (0, 14), .inl (1, 0), .inl (0, 0), .inl (0, 256), .inl (0, 3584), .inr (2, [some 1, some 68, some 69, some 70, none]), .inl (0, 4), .inl (0, 11), .inl (0, 11)] (si (si (si (si (si (si (si (si (si (si (si (si (si (si (si (si (si (si (si (si (si (si (si (si (si (Mz) 1 10 0) 1 11 0) 1 12 0) 12 0 14) 12 1 50) 12 2 70) 12 3 100) 12 4 2) 12 5 0) 12 6 0) 16 10 0) 16 11 0) 24 9 0) 24 10 0) 24 11 0) 24 12 0) 24 13 0) 29 13 0) 45 9 0) 45 10 0) 45 11 0) 45 12 0) 45 13 0) 50 13 0) 67 4 0) 1 3 26 mX2_init := by
  refine wn_of (by decide +kernel) (Nat.le_of_ble_eq_true rfl) ?_
  refine n_aload_n dX2_init_0 rfl rfl ?_
  refine n_obj dX2_init_1 moX2 ob_i ob_c (by decide) (Nat.le_of_ble_eq_true rfl) ?_
  refine n_aload_n dX2_init_4 rfl rfl ?_
  refine n_iconst dX2_init_5 ?_
  refine n_newa_int (pn := 68) (n := 4) dX2_init_6 ar_int rfl (by decide) (by decide) (Nat.le_of_ble_eq_true rfl) (Nat.le_of_ble_eq_true rfl) rfl rfl rfl ⟨rfl, rfl⟩ (by decide) ?_
  refine n_putr dX2_init_8 fX2_9 nfX2_9 rfl rfl (tyX2_ok 1 (by decide)) (fun _ => rfl) (fun _ => rfl) rfl (by decide) (by decide) ?_
  refine n_aload_n dX2_init_11 rfl rfl ?_
  refine n_bipush dX2_init_12 rfl ?_
  refine n_newa_int (pn := 69) (n := 11) dX2_init_14 ar_int rfl (by decide) (by decide) (Nat.le_of_ble_eq_true rfl) (Nat.le_of_ble_eq_true rfl) rfl rfl rfl ⟨rfl, rfl⟩ (by decide) ?_
  refine n_putr dX2_init_16 fX2_15 nfX2_15 rfl rfl (tyX2_ok 2 (by decide)) (fun _ => rfl) (fun _ => rfl) rfl (by decide) (by decide) ?_
  refine n_aload_n dX2_init_19 rfl rfl ?_
  refine n_bipush dX2_init_20 rfl ?_
  refine n_newa_int (pn := 70) (n := 11) dX2_init_22 ar_int rfl (by decide) (by decide) (Nat.le_of_ble_eq_true rfl) (Nat.le_of_ble_eq_true rfl) rfl rfl rfl ⟨rfl, rfl⟩ (by decide) ?_
  refine n_putr dX2_init_24 fX2_18 nfX2_18 rfl rfl (tyX2_ok 3 (by decide)) (fun _ => rfl) (fun _ => rfl) rfl (by decide) (by decide) ?_
  refine n_aload_n dX2_init_27 rfl rfl ?_
  refine n_iconst dX2_init_28 ?_
  refine n_putg dX2_init_29 fX2_21 rfl rfl rfl (tyX2_ok 4 (by decide)) (by decide) (by decide) ?_
  refine n_aload_n dX2_init_32 rfl rfl ?_
  refine n_aload_n dX2_init_33 rfl rfl ?_
  refine n_putr dX2_init_34 fX2_25 nfX2_25 rfl rfl (tyX2_ok 0 (by decide)) (fun _ => rfl) (fun _ => rfl) rfl (by decide) (by decide) ?_
  exact n_vret dX2_init_37 rfl rfl rfl rfl rfl
theorem nfX9_62 : Cond.fieldLink RX9 62 RX9 (TX9 6).2.1 (TX9 6).2.2.1 ∈ goodTbl := gmem 398 (by decide +kernel)
theorem n_X9_init : WN [.inr (8, [some 1000, some 1000, some 1000, some 1000, some 1000, some 1000, some 1000, none])] (Mz) [vr 0] [.inr (8, [some 1, some 12, some 13, some 16, some 24, some 44, some 67, none]), .inr (0, [some 2, some 3, some 4, some 5, some 6, some 7, some 8, some 9, some 10, some 11, none, none, none]), .inl (0, 8), .inl (0, 8), .inl (0, 8), .inl (0, 14), .inl (0, 14), .inl (0, 14), .inl (0, 14), .inl (0, 14), .inl (0, 14), .inl (1, 14), .inr (4, [none, none, none, none, none, none, none]), .inr (1, [some 14, some 15]), .inl (2, 1024), .inl (0, 9), .inr (7, [some 1, some 12, some 13, some 17, some 18, some 19, some 20, some 21, some 22, some 23, none, none]), .inl (0, 14), .inl (0, 14), .inl (0, 14), .inl (0, 14), .inl (0, 14), .inl (0, 14), .inl (0, 196), .inr (5, [some 1, some 16, some 29, some 25, some 26, some 27, some 28, some 42, some 43, none, none, none, none, none]), .inl (0, 14), .inl (0, 14), .inl (0, 14), .inl (0, 14), .inr (3, [some 16, some 30, some 31, some 32, some 33, some 34, some 35, some 36, some 37, some 38, some 39, some 40, some 41, none]), .inl (0, 14), .inl (0, 14), .inl (0, 14), .inl (0, 14), .inl (0, 14), .inl (0, 14), .inl (0, 196), .inl (0, 14), .inl (0, 14), .inl (0, 14), .inl (0, 14), .inl (0, 14), .inl (1, 3000), .inl (0, 3000), .inr (6, [some 1, some 45, some 65, some 66]), .inr (5, [some 1, some 16, some 50, some 46, some 47, some 48, some 49, some 63, some 64, none, none, none, none, none]), .inl (0, 14), .inl (0, 14), .inl (0, 14), .inl (0, 14), .inr (3, [some 16, some 51, some 52, some 53, some 54, some 55, some 56, some 57, some 58, some 59, some 60, some 61, some 62, none]), .inl (0, 14), .inl (0, 14), .inl (0, 14), .inl (0, 14), .inl (0, 14), .inl (0, 14), .inl (0, 196), .inl (0, 14), .inl (0, 14), .inl (0, 14), .inl (0, 14), .inl (0, 14), .inl (1, 0), .inl (0, 0), .inl (0, 256), .inl (0, 3584), .inr (2, [some 1, some 68, some 69, some 70, none]), .inl (0, 4), .inl (0, 11), .inl (0, 11)] (si (si (si (si (si (si (si (si (si (si (si (si (si (si (si (si (si (si (si (si (si (si (si (si (si (si (Mz) 1 10 0) 1 11 0) 1 12 0) 12 0 14) 12 1 50) 12 2 70) 12 3 100) 12 4 2) 12 5 0) 12 6 0) 16 10 0) 16 11 0) 24 9 0) 24 10 0) 24 11 0) 24 12 0) 24 13 0) 29 13 0) 45 9 0) 45 10 0) 45 11 0) 45 12 0) 45 13 0) 50 13 0) 67 4 0) 0 7 0) 3 70 12212 mX9_init := by
  refine wn_of (by decide +kernel) (Nat.le_of_ble_eq_true rfl) ?_
  refine n_aload_n dX9_init_0 rfl rfl ?_
  refine n_obj dX9_init_1 moX9 ob_i ob_c (by decide) (Nat.le_of_ble_eq_true rfl) ?_
  refine n_aload_n dX9_init_4 rfl rfl ?_
  refine n_new (ci := 0) (pn := 1) (L := [some 1000, some 1000, some 1000, some 1000, some 1000, some 1000, some 1000, some 1000, some 1000, some 1000, none, none, none]) dX9_init_5 rfl tyX0_ok clX9_9 inX0 iiX0 rfl fsX0 rfl (Nat.le_of_ble_eq_true rfl) (Nat.le_of_ble_eq_true rfl) rfl rfl rfl rfl (by decide) ?_
  refine n_dup dX9_init_8 rfl ?_
  refine n_callI (pn := 2) dX9_init_9 liX9_11 n_X0_init rfl rfl (by decide) (Nat.le_of_ble_eq_true rfl) (Nat.le_of_ble_eq_true rfl) rfl rfl rfl (by decide) (Nat.le_of_ble_eq_true rfl) ?_
  refine n_putr dX9_init_12 fX9_12 nfX9_12 rfl rfl (tyX9_ok 0 (by decide)) (fun _ => rfl) (fun _ => rfl) rfl (by decide) (by decide) ?_
  refine n_aload_n dX9_init_15 rfl rfl ?_
  refine n_new (ci := 4) (pn := 12) (L := [none, none, none, none, none, none, none]) dX9_init_16 rfl tyX5_ok clX9_16 inX5 iiX5 rfl fsX5 rfl (Nat.le_of_ble_eq_true rfl) (Nat.le_of_ble_eq_true rfl) rfl rfl rfl rfl (by decide) ?_
  refine n_dup dX9_init_19 rfl ?_
  refine n_callI (pn := 13) dX9_init_20 liX9_18 n_X5_init rfl rfl (by decide) (Nat.le_of_ble_eq_true rfl) (Nat.le_of_ble_eq_true rfl) rfl rfl rfl (by decide) (Nat.le_of_ble_eq_true rfl) ?_
  refine n_putr dX9_init_23 fX9_19 nfX9_19 rfl rfl (tyX9_ok 1 (by decide)) (fun _ => rfl) (fun _ => rfl) rfl (by decide) (by decide) ?_
  refine n_aload_n dX9_init_26 rfl rfl ?_
  refine n_new (ci := 1) (pn := 13) (L := [some 1000, some 1000]) dX9_init_27 rfl tyX1_ok clX9_23 inX1 iiX1 rfl fsX1 rfl (Nat.le_of_ble_eq_true rfl) (Nat.le_of_ble_eq_true rfl) rfl rfl rfl rfl (by decide) ?_
  refine n_dup dX9_init_30 rfl ?_
  refine n_callI (pn := 14) dX9_init_31 liX9_25 n_X1_init rfl rfl (by decide) (Nat.le_of_ble_eq_true rfl) (Nat.le_of_ble_eq_true rfl) rfl rfl rfl (by decide) (Nat.le_of_ble_eq_true rfl) ?_
  refine n_putr dX9_init_34 fX9_26 nfX9_26 rfl rfl (tyX9_ok 2 (by decide)) (fun _ => rfl) (fun _ => rfl) rfl (by decide) (by decide) ?_
  refine n_aload_n dX9_init_37 rfl rfl ?_
  refine n_new (ci := 7) (pn := 16) (L := [some 1000, some 1000, some 1000, some 1000, some 1000, some 1000, some 1000, some 1000, some 1000, some 1000, none, none]) dX9_init_38 rfl tyX8_ok clX9_30 inX8 iiX8 rfl fsX8 rfl (Nat.le_of_ble_eq_true rfl) (Nat.le_of_ble_eq_true rfl) rfl rfl rfl rfl (by decide) ?_
  refine n_dup dX9_init_41 rfl ?_
  refine n_aload_n dX9_init_42 rfl rfl ?_
  refine n_getr dX9_init_43 fX9_12 rfl rfl (by decide) ?_
  refine n_aload_n dX9_init_46 rfl rfl ?_
  refine n_getr dX9_init_47 fX9_19 rfl rfl (by decide) ?_
  refine n_aload_n dX9_init_50 rfl rfl ?_
  refine n_getr dX9_init_51 fX9_26 rfl rfl (by decide) ?_
  refine n_callI (pn := 17) dX9_init_54 liX9_32 n_X8_init rfl rfl (by decide) (Nat.le_of_ble_eq_true rfl) (Nat.le_of_ble_eq_true rfl) rfl rfl rfl (by decide) (Nat.le_of_ble_eq_true rfl) ?_
  refine n_putr dX9_init_57 fX9_35 nfX9_35 rfl rfl (tyX9_ok 3 (by decide)) (fun _ => rfl) (fun _ => rfl) rfl (by decide) (by decide) ?_
  refine n_aload_n dX9_init_60 rfl rfl ?_
  refine n_new (ci := 5) (pn := 24) (L := [some 1000, some 1000, some 1000, some 1000, some 1000, some 1000, some 1000, some 1000, some 1000, none, none, none, none, none]) dX9_init_61 rfl tyX6_ok clX9_39 inX6 iiX6 rfl fsX6 rfl (Nat.le_of_ble_eq_true rfl) (Nat.le_of_ble_eq_true rfl) rfl rfl rfl rfl (by decide) ?_
  refine n_dup dX9_init_64 rfl ?_
  refine n_aload_n dX9_init_65 rfl rfl ?_
  refine n_getr dX9_init_66 fX9_12 rfl rfl (by decide) ?_
  refine n_aload_n dX9_init_69 rfl rfl ?_
  refine n_getr dX9_init_70 fX9_35 rfl rfl (by decide) ?_
  refine n_sipush dX9_init_73 rfl ?_
  refine n_callI (pn := 25) dX9_init_76 liX9_41 n_X6_init rfl rfl (by decide) (Nat.le_of_ble_eq_true rfl) (Nat.le_of_ble_eq_true rfl) rfl rfl rfl (by decide) (Nat.le_of_ble_eq_true rfl) ?_
  refine n_putr dX9_init_79 fX9_44 nfX9_44 rfl rfl (tyX9_ok 4 (by decide)) (fun _ => rfl) (fun _ => rfl) rfl (by decide) (by decide) ?_
  refine n_aload_n dX9_init_82 rfl rfl ?_
  refine n_new (ci := 6) (pn := 44) (L := [some 1000, some 1000, some 1000, some 1000]) dX9_init_83 rfl tyX7_ok clX9_48 inX7 iiX7 rfl fsX7 rfl (Nat.le_of_ble_eq_true rfl) (Nat.le_of_ble_eq_true rfl) rfl rfl rfl rfl (by decide) ?_
  refine n_dup dX9_init_86 rfl ?_
  refine n_aload_n dX9_init_87 rfl rfl ?_
  refine n_getr dX9_init_88 fX9_12 rfl rfl (by decide) ?_
  refine n_new (ci := 5) (pn := 45) (L := [some 1000, some 1000, some 1000, some 1000, some 1000, some 1000, some 1000, some 1000, some 1000, none, none, none, none, none]) dX9_init_91 rfl tyX6_ok clX9_39 inX6 iiX6 rfl fsX6 rfl (Nat.le_of_ble_eq_true rfl) (Nat.le_of_ble_eq_true rfl) rfl rfl rfl rfl (by decide) ?_
  refine n_dup dX9_init_94 rfl ?_
  refine n_aload_n dX9_init_95 rfl rfl ?_
  refine n_getr dX9_init_96 fX9_12 rfl rfl (by decide) ?_
  refine n_aload_n dX9_init_99 rfl rfl ?_
  refine n_getr dX9_init_100 fX9_35 rfl rfl (by decide) ?_
  refine n_iconst dX9_init_103 ?_
  refine n_callI (pn := 46) dX9_init_104 liX9_41 n_X6_init_2 rfl rfl (by decide) (Nat.le_of_ble_eq_true rfl) (Nat.le_of_ble_eq_true rfl) rfl rfl rfl (by decide) (Nat.le_of_ble_eq_true rfl) ?_
  refine n_callI (pn := 65) dX9_init_107 liX9_50 n_X7_init rfl rfl (by decide) (Nat.le_of_ble_eq_true rfl) (Nat.le_of_ble_eq_true rfl) rfl rfl rfl (by decide) (Nat.le_of_ble_eq_true rfl) ?_
  refine n_putr dX9_init_110 fX9_53 nfX9_53 rfl rfl (tyX9_ok 5 (by decide)) (fun _ => rfl) (fun _ => rfl) rfl (by decide) (by decide) ?_
  refine n_aload_n dX9_init_113 rfl rfl ?_
  refine n_new (ci := 2) (pn := 67) (L := [some 1000, some 1000, some 1000, some 1000, none]) dX9_init_114 rfl tyX2_ok clX9_57 inX2 iiX2 rfl fsX2 rfl (Nat.le_of_ble_eq_true rfl) (Nat.le_of_ble_eq_true rfl) rfl rfl rfl rfl (by decide) ?_
  refine n_dup dX9_init_117 rfl ?_
  refine n_aload_n dX9_init_118 rfl rfl ?_
  refine n_getr dX9_init_119 fX9_12 rfl rfl (by decide) ?_
  refine n_callI (pn := 68) dX9_init_122 liX9_59 n_X2_init rfl rfl (by decide) (Nat.le_of_ble_eq_true rfl) (Nat.le_of_ble_eq_true rfl) rfl rfl rfl (by decide) (Nat.le_of_ble_eq_true rfl) ?_
  refine n_putr dX9_init_125 fX9_62 nfX9_62 rfl rfl (tyX9_ok 6 (by decide)) (fun _ => rfl) (fun _ => rfl) rfl (by decide) (by decide) ?_
  refine n_aload_n dX9_init_128 rfl rfl ?_
  refine n_iconst dX9_init_129 ?_
  refine n_putg dX9_init_130 fX9_66 rfl rfl rfl (tyX9_ok 7 (by decide)) (by decide) (by decide) ?_
  exact n_vret dX9_init_133 rfl rfl rfl rfl rfl
def MC0 : Mem := si (si (si (si (si (si (si (si (si (si (si (si (si (si (si (si (si (si (si (si (si (si (si (si (si (si (Mz) 1 10 0) 1 11 0) 1 12 0) 12 0 14) 12 1 50) 12 2 70) 12 3 100) 12 4 2) 12 5 0) 12 6 0) 16 10 0) 16 11 0) 24 9 0) 24 10 0) 24 11 0) 24 12 0) 24 13 0) 29 13 0) 45 9 0) 45 10 0) 45 11 0) 45 12 0) 45 13 0) 50 13 0) 67 4 0) 0 7 0
theorem n_class : WN [.inr (8, [some 1000, some 1000, some 1000, some 1000, some 1000, some 1000, some 1000, none])] Mz [vr 0] wdC MC0 3 70 12212 mX9_init := n_X9_init
theorem moX10 : Cond.methodLink RX10 1 Lib.objectInit ∈ goodTbl := gmem 815 (by decide +kernel)
theorem nfX10_7 : Cond.fieldLink RX10 7 RX10 (TX10 0).2.1 (TX10 0).2.2.1 ∈ goodTbl := gmem 817 (by decide +kernel)
theorem nfX10_13 : Cond.fieldLink RX10 13 RX10 (TX10 1).2.1 (TX10 1).2.2.1 ∈ goodTbl := gmem 818 (by decide +kernel)
theorem nfX10_16 : Cond.fieldLink RX10 16 RX10 (TX10 2).2.1 (TX10 2).2.2.1 ∈ goodTbl := gmem 819 (by decide +kernel)
theorem nfX10_19 : Cond.fieldLink RX10 19 RX10 (TX10 3).2.1 (TX10 3).2.2.1 ∈ goodTbl := gmem 820 (by decide +kernel)
theorem nfX10_22 : Cond.fieldLink RX10 22 RX10 (TX10 4).2.1 (TX10 4).2.2.1 ∈ goodTbl := gmem 821 (by decide +kernel)
theorem nfX10_25 : Cond.fieldLink RX10 25 RX10 (TX10 5).2.1 (TX10 5).2.2.1 ∈ goodTbl := gmem 822 (by decide +kernel)
theorem nfX10_28 : Cond.fieldLink RX10 28 RX10 (TX10 6).2.1 (TX10 6).2.2.1 ∈ goodTbl := gmem 823 (by decide +kernel)
theorem nfX10_31 : Cond.fieldLink RX10 31 RX10 (TX10 7).2.1 (TX10 7).2.2.1 ∈ goodTbl := gmem 824 (by decide +kernel)
theorem nfX10_34 : Cond.fieldLink RX10 34 RX10 (TX10 8).2.1 (TX10 8).2.2.1 ∈ goodTbl := gmem 825 (by decide +kernel)
theorem nfX10_37 : Cond.fieldLink RX10 37 RX10 (TX10 9).2.1 (TX10 9).2.2.1 ∈ goodTbl := gmem 826 (by decide +kernel)
theorem nfX10_40 : Cond.fieldLink RX10 40 RX10 (TX10 10).2.1 (TX10 10).2.2.1 ∈ goodTbl := gmem 827 (by decide +kernel)
theorem nfX10_44 : Cond.fieldLink RX10 44 RX10 (TX10 11).2.1 (TX10 11).2.2.1 ∈ goodTbl := gmem 828 (by decide +kernel)
theorem nfX10_64 : Cond.fieldLink RX10 64 RX10 (TX10 22).2.1 (TX10 22).2.2.1 ∈ goodTbl := gmem 839 (by decide +kernel)
theorem nfX10_67 : Cond.fieldLink RX10 67 RX10 (TX10 23).2.1 (TX10 23).2.2.1 ∈ goodTbl := gmem 840 (by decide +kernel)
theorem nfX10_70 : Cond.fieldLink RX10 70 RX10 (TX10 24).2.1 (TX10 24).2.2.1 ∈ goodTbl := gmem 841 (by decide +kernel)
theorem nfX10_73 : Cond.fieldLink RX10 73 RX10 (TX10 25).2.1 (TX10 25).2.2.1 ∈ goodTbl := gmem 842 (by decide +kernel)
theorem nfX10_76 : Cond.fieldLink RX10 76 RX10 (TX10 26).2.1 (TX10 26).2.2.1 ∈ goodTbl := gmem 843 (by decide +kernel)
theorem nfX10_79 : Cond.fieldLink RX10 79 RX10 (TX10 27).2.1 (TX10 27).2.2.1 ∈ goodTbl := gmem 844 (by decide +kernel)
theorem nfX10_83 : Cond.fieldLink RX10 83 RX10 (TX10 35).2.1 (TX10 35).2.2.1 ∈ goodTbl := gmem 852 (by decide +kernel)
theorem nfX10_87 : Cond.fieldLink RX10 87 RX10 (TX10 36).2.1 (TX10 36).2.2.1 ∈ goodTbl := gmem 853 (by decide +kernel)
theorem nfX10_90 : Cond.fieldLink RX10 90 RX10 (TX10 40).2.1 (TX10 40).2.2.1 ∈ goodTbl := gmem 857 (by decide +kernel)
theorem nfX10_93 : Cond.fieldLink RX10 93 RX10 (TX10 41).2.1 (TX10 41).2.2.1 ∈ goodTbl := gmem 858 (by decide +kernel)
def alI : Nat → Mem
  | 0 => si (si (si (si (si (Mz) 0 16 14) 0 17 50) 0 18 70) 0 19 100) 0 20 2
  | i + 1 => si (alI i) 12 (27 * i) 1
theorem n_model : WN [.inr (9, [some 1000, some 1000, some 1000, some 1000, some 1000, some 1000, some 1000, some 1000, some 1000, some 1000, some 1000, some 1000, none, none, none, none, none, none, none, none, none, none, some 1000, some 1000, some 1000, some 1000, some 1000, some 1000, none, none, none, none, none, none, none, some 1000, some 1000, none, none, none, some 1000, some 1000])] Mz [vr 0] wdM (alI 26) 1 22 46093 mX10_init := by
  refine wn_of (wd2 := wdM) (by decide +kernel) (Nat.le_of_ble_eq_true rfl) ?_
  have loop : ∀ n i : Nat, i + n = 26 → GN 1 wdM (alI 26) mX10_init 1 22 46093 214 22 46093 [some (vr 0), some (vi i)] [] wdM (alI i) := by
    intro n
    induction n with
    | zero =>
      intro i hi
      obtain rfl : i = 26 := by omega
      refine n_iload_n dX10_init_214 rfl rfl ?_
      refine n_bipush dX10_init_215 rfl ?_
      refine n_icmp_ge (tgt := 236) dX10_init_217 rfl (fun _ => ?_) (fun h => absurd (by decide) h)
      exact n_vret dX10_init_236 rfl rfl rfl rfl rfl
    | succ n ih =>
      intro i hi
      refine n_iload_n dX10_init_214 rfl rfl ?_
      refine n_bipush dX10_init_215 rfl ?_
      refine n_icmp_ge (tgt := 236) dX10_init_217 rfl (fun h => by exfalso; omega) (fun h => ?_)
      refine n_aload_n dX10_init_220 rfl rfl ?_
      refine n_getr dX10_init_221 fX10_44 rfl rfl (by decide) ?_
      refine n_bipush dX10_init_224 rfl ?_
      refine n_iload_n dX10_init_226 rfl rfl ?_
      refine n_imul dX10_init_227 ?_
      refine n_iconst dX10_init_228 ?_
      refine n_bastz dX10_init_229 rfl (by decide) ?_
      refine n_iinc (ls' := [some _, some _]) dX10_init_230 rfl rfl ?_
      refine n_goto (tgt := 214) dX10_init_233 rfl ?_
      have e : si (alI i) 12 (27 * (i : Int)).toNat 1 = alI (i + 1) := by
        rw [show (27 * (i : Int)).toNat = 27 * i by omega]; rfl
      rw [e]
      exact ih (i + 1) (by omega)
  refine n_aload_n dX10_init_0 rfl rfl ?_
  refine n_obj dX10_init_1 moX10 ob_i ob_c (by decide) (Nat.le_of_ble_eq_true rfl) ?_
  refine n_aload_n dX10_init_4 rfl rfl ?_
  refine n_bipush dX10_init_5 rfl ?_
  refine n_newa_int (pn := 1) (n := 8) dX10_init_7 ar_int rfl (by decide) (by decide) (Nat.le_of_ble_eq_true rfl) (Nat.le_of_ble_eq_true rfl) rfl rfl rfl ⟨rfl, rfl⟩ (by decide) ?_
  refine n_putr dX10_init_9 fX10_7 nfX10_7 rfl rfl (tyX10_ok 0 (by decide)) (fun _ => rfl) (fun _ => rfl) rfl (by decide) (by decide) ?_
  refine n_aload_n dX10_init_12 rfl rfl ?_
  refine n_bipush dX10_init_13 rfl ?_
  refine n_newa_int (pn := 2) (n := 9) dX10_init_15 ar_int rfl (by decide) (by decide) (Nat.le_of_ble_eq_true rfl) (Nat.le_of_ble_eq_true rfl) rfl rfl rfl ⟨rfl, rfl⟩ (by decide) ?_
  refine n_putr dX10_init_17 fX10_13 nfX10_13 rfl rfl (tyX10_ok 1 (by decide)) (fun _ => rfl) (fun _ => rfl) rfl (by decide) (by decide) ?_
  refine n_aload_n dX10_init_20 rfl rfl ?_
  refine n_bipush dX10_init_21 rfl ?_
  refine n_newa_int (pn := 3) (n := 8) dX10_init_23 ar_int rfl (by decide) (by decide) (Nat.le_of_ble_eq_true rfl) (Nat.le_of_ble_eq_true rfl) rfl rfl rfl ⟨rfl, rfl⟩ (by decide) ?_
  refine n_putr dX10_init_25 fX10_16 nfX10_16 rfl rfl (tyX10_ok 2 (by decide)) (fun _ => rfl) (fun _ => rfl) rfl (by decide) (by decide) ?_
  refine n_aload_n dX10_init_28 rfl rfl ?_
  refine n_bipush dX10_init_29 rfl ?_
  refine n_newa_int (pn := 4) (n := 8) dX10_init_31 ar_int rfl (by decide) (by decide) (Nat.le_of_ble_eq_true rfl) (Nat.le_of_ble_eq_true rfl) rfl rfl rfl ⟨rfl, rfl⟩ (by decide) ?_
  refine n_putr dX10_init_33 fX10_19 nfX10_19 rfl rfl (tyX10_ok 3 (by decide)) (fun _ => rfl) (fun _ => rfl) rfl (by decide) (by decide) ?_
  refine n_aload_n dX10_init_36 rfl rfl ?_
  refine n_bipush dX10_init_37 rfl ?_
  refine n_newa_int (pn := 5) (n := 14) dX10_init_39 ar_int rfl (by decide) (by decide) (Nat.le_of_ble_eq_true rfl) (Nat.le_of_ble_eq_true rfl) rfl rfl rfl ⟨rfl, rfl⟩ (by decide) ?_
  refine n_putr dX10_init_41 fX10_22 nfX10_22 rfl rfl (tyX10_ok 4 (by decide)) (fun _ => rfl) (fun _ => rfl) rfl (by decide) (by decide) ?_
  refine n_aload_n dX10_init_44 rfl rfl ?_
  refine n_bipush dX10_init_45 rfl ?_
  refine n_newa_int (pn := 6) (n := 14) dX10_init_47 ar_int rfl (by decide) (by decide) (Nat.le_of_ble_eq_true rfl) (Nat.le_of_ble_eq_true rfl) rfl rfl rfl ⟨rfl, rfl⟩ (by decide) ?_
  refine n_putr dX10_init_49 fX10_25 nfX10_25 rfl rfl (tyX10_ok 5 (by decide)) (fun _ => rfl) (fun _ => rfl) rfl (by decide) (by decide) ?_
  refine n_aload_n dX10_init_52 rfl rfl ?_
  refine n_bipush dX10_init_53 rfl ?_
  refine n_newa_int (pn := 7) (n := 14) dX10_init_55 ar_int rfl (by decide) (by decide) (Nat.le_of_ble_eq_true rfl) (Nat.le_of_ble_eq_true rfl) rfl rfl rfl ⟨rfl, rfl⟩ (by decide) ?_
  refine n_putr dX10_init_57 fX10_28 nfX10_28 rfl rfl (tyX10_ok 6 (by decide)) (fun _ => rfl) (fun _ => rfl) rfl (by decide) (by decide) ?_
  refine n_aload_n dX10_init_60 rfl rfl ?_
  refine n_bipush dX10_init_61 rfl ?_
  refine n_newa_int (pn := 8) (n := 14) dX10_init_63 ar_int rfl (by decide) (by decide) (Nat.le_of_ble_eq_true rfl) (Nat.le_of_ble_eq_true rfl) rfl rfl rfl ⟨rfl, rfl⟩ (by decide) ?_
  refine n_putr dX10_init_65 fX10_31 nfX10_31 rfl rfl (tyX10_ok 7 (by decide)) (fun _ => rfl) (fun _ => rfl) rfl (by decide) (by decide) ?_
  refine n_aload_n dX10_init_68 rfl rfl ?_
  refine n_bipush dX10_init_69 rfl ?_
  refine n_newa_int (pn := 9) (n := 14) dX10_init_71 ar_int rfl (by decide) (by decide) (Nat.le_of_ble_eq_true rfl) (Nat.le_of_ble_eq_true rfl) rfl rfl rfl ⟨rfl, rfl⟩ (by decide) ?_
  refine n_putr dX10_init_73 fX10_34 nfX10_34 rfl rfl (tyX10_ok 8 (by decide)) (fun _ => rfl) (fun _ => rfl) rfl (by decide) (by decide) ?_
  refine n_aload_n dX10_init_76 rfl rfl ?_
  refine n_sipush dX10_init_77 rfl ?_
  refine n_newa_int (pn := 10) (n := 196) dX10_init_80 ar_int rfl (by decide) (by decide) (Nat.le_of_ble_eq_true rfl) (Nat.le_of_ble_eq_true rfl) rfl rfl rfl ⟨rfl, rfl⟩ (by decide) ?_
  refine n_putr dX10_init_82 fX10_37 nfX10_37 rfl rfl (tyX10_ok 9 (by decide)) (fun _ => rfl) (fun _ => rfl) rfl (by decide) (by decide) ?_
  refine n_aload_n dX10_init_85 rfl rfl ?_
  refine n_bipush dX10_init_86 rfl ?_
  refine n_newa_long (pn := 11) (n := 14) dX10_init_88 ar_long rfl (by decide) (by decide) (Nat.le_of_ble_eq_true rfl) (Nat.le_of_ble_eq_true rfl) rfl rfl rfl ⟨rfl, rfl⟩ (by decide) ?_
  refine n_putr dX10_init_90 fX10_40 nfX10_40 rfl rfl (tyX10_ok 10 (by decide)) (fun _ => rfl) (fun _ => rfl) rfl (by decide) (by decide) ?_
  refine n_aload_n dX10_init_93 rfl rfl ?_
  refine n_sipush dX10_init_94 rfl ?_
  refine n_newa_boolean (pn := 12) (n := 676) dX10_init_97 ar_boolean rfl (by decide) (by decide) (Nat.le_of_ble_eq_true rfl) (Nat.le_of_ble_eq_true rfl) rfl rfl rfl ⟨rfl, rfl⟩ (by decide) ?_
  refine n_putr dX10_init_99 fX10_44 nfX10_44 rfl rfl (tyX10_ok 11 (by decide)) (fun _ => rfl) (fun _ => rfl) rfl (by decide) (by decide) ?_
  refine n_aload_n dX10_init_102 rfl rfl ?_
  refine n_bipush dX10_init_103 rfl ?_
  refine n_putg dX10_init_105 fX10_48 rfl rfl rfl (tyX10_ok 16 (by decide)) (by decide) (by decide) ?_
  refine n_aload_n dX10_init_108 rfl rfl ?_
  refine n_bipush dX10_init_109 rfl ?_
  refine n_putg dX10_init_111 fX10_52 rfl rfl rfl (tyX10_ok 17 (by decide)) (by decide) (by decide) ?_
  refine n_aload_n dX10_init_114 rfl rfl ?_
  refine n_bipush dX10_init_115 rfl ?_
  refine n_putg dX10_init_117 fX10_55 rfl rfl rfl (tyX10_ok 18 (by decide)) (by decide) (by decide) ?_
  refine n_aload_n dX10_init_120 rfl rfl ?_
  refine n_bipush dX10_init_121 rfl ?_
  refine n_putg dX10_init_123 fX10_58 rfl rfl rfl (tyX10_ok 19 (by decide)) (by decide) (by decide) ?_
  refine n_aload_n dX10_init_126 rfl rfl ?_
  refine n_iconst dX10_init_127 ?_
  refine n_putg dX10_init_128 fX10_61 rfl rfl rfl (tyX10_ok 20 (by decide)) (by decide) (by decide) ?_
  refine n_aload_n dX10_init_131 rfl rfl ?_
  refine n_bipush dX10_init_132 rfl ?_
  refine n_newa_int (pn := 13) (n := 9) dX10_init_134 ar_int rfl (by decide) (by decide) (Nat.le_of_ble_eq_true rfl) (Nat.le_of_ble_eq_true rfl) rfl rfl rfl ⟨rfl, rfl⟩ (by decide) ?_
  refine n_putr dX10_init_136 fX10_64 nfX10_64 rfl rfl (tyX10_ok 22 (by decide)) (fun _ => rfl) (fun _ => rfl) rfl (by decide) (by decide) ?_
  refine n_aload_n dX10_init_139 rfl rfl ?_
  refine n_bipush dX10_init_140 rfl ?_
  refine n_newa_int (pn := 14) (n := 9) dX10_init_142 ar_int rfl (by decide) (by decide) (Nat.le_of_ble_eq_true rfl) (Nat.le_of_ble_eq_true rfl) rfl rfl rfl ⟨rfl, rfl⟩ (by decide) ?_
  refine n_putr dX10_init_144 fX10_67 nfX10_67 rfl rfl (tyX10_ok 23 (by decide)) (fun _ => rfl) (fun _ => rfl) rfl (by decide) (by decide) ?_
  refine n_aload_n dX10_init_147 rfl rfl ?_
  refine n_bipush dX10_init_148 rfl ?_
  refine n_newa_int (pn := 15) (n := 14) dX10_init_150 ar_int rfl (by decide) (by decide) (Nat.le_of_ble_eq_true rfl) (Nat.le_of_ble_eq_true rfl) rfl rfl rfl ⟨rfl, rfl⟩ (by decide) ?_
  refine n_putr dX10_init_152 fX10_70 nfX10_70 rfl rfl (tyX10_ok 24 (by decide)) (fun _ => rfl) (fun _ => rfl) rfl (by decide) (by decide) ?_
  refine n_aload_n dX10_init_155 rfl rfl ?_
  refine n_bipush dX10_init_156 rfl ?_
  refine n_newa_int (pn := 16) (n := 14) dX10_init_158 ar_int rfl (by decide) (by decide) (Nat.le_of_ble_eq_true rfl) (Nat.le_of_ble_eq_true rfl) rfl rfl rfl ⟨rfl, rfl⟩ (by decide) ?_
  refine n_putr dX10_init_160 fX10_73 nfX10_73 rfl rfl (tyX10_ok 25 (by decide)) (fun _ => rfl) (fun _ => rfl) rfl (by decide) (by decide) ?_
  refine n_aload_n dX10_init_163 rfl rfl ?_
  refine n_bipush dX10_init_164 rfl ?_
  refine n_newa_int (pn := 17) (n := 15) dX10_init_166 ar_int rfl (by decide) (by decide) (Nat.le_of_ble_eq_true rfl) (Nat.le_of_ble_eq_true rfl) rfl rfl rfl ⟨rfl, rfl⟩ (by decide) ?_
  refine n_putr dX10_init_168 fX10_76 nfX10_76 rfl rfl (tyX10_ok 26 (by decide)) (fun _ => rfl) (fun _ => rfl) rfl (by decide) (by decide) ?_
  refine n_aload_n dX10_init_171 rfl rfl ?_
  refine n_bipush dX10_init_172 rfl ?_
  refine n_newa_int (pn := 18) (n := 15) dX10_init_174 ar_int rfl (by decide) (by decide) (Nat.le_of_ble_eq_true rfl) (Nat.le_of_ble_eq_true rfl) rfl rfl rfl ⟨rfl, rfl⟩ (by decide) ?_
  refine n_putr dX10_init_176 fX10_79 nfX10_79 rfl rfl (tyX10_ok 27 (by decide)) (fun _ => rfl) (fun _ => rfl) rfl (by decide) (by decide) ?_
  refine n_aload_n dX10_init_179 rfl rfl ?_
  refine n_ldc (z := 42000) dX10_init_180 kX10_82 rfl ?_
  refine n_newa_byte (pn := 19) (n := 42000) dX10_init_182 ar_byte rfl (by decide) (by decide) (Nat.le_of_ble_eq_true rfl) (Nat.le_of_ble_eq_true rfl) rfl rfl rfl ⟨rfl, rfl⟩ (by decide) ?_
  refine n_putr dX10_init_184 fX10_83 nfX10_83 rfl rfl (tyX10_ok 35 (by decide)) (fun _ => rfl) (fun _ => rfl) rfl (by decide) (by decide) ?_
  refine n_aload_n dX10_init_187 rfl rfl ?_
  refine n_sipush dX10_init_188 rfl ?_
  refine n_newa_int (pn := 20) (n := 3000) dX10_init_191 ar_int rfl (by decide) (by decide) (Nat.le_of_ble_eq_true rfl) (Nat.le_of_ble_eq_true rfl) rfl rfl rfl ⟨rfl, rfl⟩ (by decide) ?_
  refine n_putr dX10_init_193 fX10_87 nfX10_87 rfl rfl (tyX10_ok 36 (by decide)) (fun _ => rfl) (fun _ => rfl) rfl (by decide) (by decide) ?_
  refine n_aload_n dX10_init_196 rfl rfl ?_
  refine n_bipush dX10_init_197 rfl ?_
  refine n_newa_int (pn := 21) (n := 14) dX10_init_199 ar_int rfl (by decide) (by decide) (Nat.le_of_ble_eq_true rfl) (Nat.le_of_ble_eq_true rfl) rfl rfl rfl ⟨rfl, rfl⟩ (by decide) ?_
  refine n_putr dX10_init_201 fX10_90 nfX10_90 rfl rfl (tyX10_ok 40 (by decide)) (fun _ => rfl) (fun _ => rfl) rfl (by decide) (by decide) ?_
  refine n_aload_n dX10_init_204 rfl rfl ?_
  refine n_bipush dX10_init_205 rfl ?_
  refine n_newa_int (pn := 22) (n := 14) dX10_init_207 ar_int rfl (by decide) (by decide) (Nat.le_of_ble_eq_true rfl) (Nat.le_of_ble_eq_true rfl) rfl rfl rfl ⟨rfl, rfl⟩ (by decide) ?_
  refine n_putr dX10_init_209 fX10_93 nfX10_93 rfl rfl (tyX10_ok 41 (by decide)) (fun _ => rfl) (fun _ => rfl) rfl (by decide) (by decide) ?_
  refine n_iconst dX10_init_212 ?_
  refine n_istore_n (ls' := [some _, some _]) dX10_init_213 rfl (by decide) rfl ?_
  exact loop 26 0 rfl
