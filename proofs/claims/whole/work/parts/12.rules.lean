/-! MODULE 8: rules, the ear (but for the distance). -/
theorem leafI {P : Prop} [Decidable P] {M1 M2 : Mem} (h : P) : Ret (some (vi (bi P))) (if P then M1 else M2) (some (vi 1)) M1 := ⟨by rw [bi_t h], by rw [if_pos h]⟩
theorem leafJ {P : Prop} [Decidable P] {M1 M2 : Mem} (h : ¬ P) : Ret (some (vi (bi P))) (if P then M1 else M2) (some (vi 0)) M2 := ⟨by rw [bi_f h], by rw [if_neg h]⟩
abbrev lawsOK (g mo fa li ro : Int) : Prop := 0 ≤ g ∧ g ≤ 40 ∧ g ≤ mo ∧ mo ≤ 80 ∧ g ≤ fa ∧ fa ≤ 120 ∧ 1 ≤ li ∧ li ≤ 130 ∧ 0 ≤ ro ∧ ro ≤ 20
def lawsM (M : Mem) (g mo fa li ro : Int) : Mem := si (si (si (si (si M 12 0 g) 12 1 mo) 12 2 fa) 12 3 li) 12 4 ro
abbrev budgetOK (c p : Int) : Prop := 0 ≤ c ∧ c ≤ 300 ∧ 0 ≤ p ∧ p ≤ 20
def budgetM (M : Mem) (c p : Int) : Mem := si (si M 12 5 c) 12 6 p
def ebF (mo fa li ro k y a : Int) : Int := if k = 0 then y else if k = 1 then y - mo else if k = 2 then y - fa else if k = 5 then (if a = -1 then y - li else y - a - 1) else if k = 6 then (if a = -1 then y - li else y - a - 1 - ro) else y - li
def lbF (g ro k y a : Int) : Int := if k = 0 then y else if k = 5 then (if a = -1 then y else y - a) else if k = 6 then (if a = -1 then y else y - a + ro) else y - g

theorem w_X5_setLaws {d : Nat} {M : Mem} {g mo fa li ro : Int} (g1 : -2147483648 ≤ g) (g2 : g < 2147483648) (mo1 : -2147483648 ≤ mo) (mo2 : mo < 2147483648) (fa1 : -2147483648 ≤ fa) (fa2 : fa < 2147483648) (li1 : -2147483648 ≤ li) (li2 : li < 2147483648) (ro1 : -2147483648 ≤ ro) (ro2 : ro < 2147483648) : WP wdC (d) mX5_setLaws [vr 12, vi g, vi mo, vi fa, vi li, vi ro] M (Ret (some (vi (bi (lawsOK g mo fa li ro)))) (if lawsOK g mo fa li ro then lawsM M g mo fa li ro else M)) := by
  refine wp_of (by decide +kernel) (Nat.le_of_ble_eq_true rfl) ?_
  refine g_iload_n dX5_setLaws_0 rfl rfl ?_
  refine g_if_lt (tgt := 62) dX5_setLaws_1 rfl (fun h1 => ?_) (fun h1 => ?_)
  · refine g_iconst dX5_setLaws_62 ?_
    refine g_istore (ls' := [_, _, _, _, _, _, _]) dX5_setLaws_63 (by decide) rfl ?_
    refine g_iload dX5_setLaws_65 rfl ?_
    refine g_if_eq (tgt := 97) dX5_setLaws_67 rfl (fun _ => ?_) (fun h67 => absurd (by decide) h67)
    refine g_iload dX5_setLaws_97 rfl ?_
    refine g_zret dX5_setLaws_99 rfl ?_
    first | exact leafI (by omega) | exact leafJ (by omega)
  · refine g_iload_n dX5_setLaws_4 rfl rfl ?_
    refine g_bipush dX5_setLaws_5 rfl ?_
    refine g_icmp_gt (tgt := 62) dX5_setLaws_7 rfl (fun h7 => ?_) (fun h7 => ?_)
    · refine g_iconst dX5_setLaws_62 ?_
      refine g_istore (ls' := [_, _, _, _, _, _, _]) dX5_setLaws_63 (by decide) rfl ?_
      refine g_iload dX5_setLaws_65 rfl ?_
      refine g_if_eq (tgt := 97) dX5_setLaws_67 rfl (fun _ => ?_) (fun h67 => absurd (by decide) h67)
      refine g_iload dX5_setLaws_97 rfl ?_
      refine g_zret dX5_setLaws_99 rfl ?_
      first | exact leafI (by omega) | exact leafJ (by omega)
    · refine g_iload_n dX5_setLaws_10 rfl rfl ?_
      refine g_iload_n dX5_setLaws_11 rfl rfl ?_
      refine g_icmp_lt (tgt := 62) dX5_setLaws_12 rfl (fun h12 => ?_) (fun h12 => ?_)
      · refine g_iconst dX5_setLaws_62 ?_
        refine g_istore (ls' := [_, _, _, _, _, _, _]) dX5_setLaws_63 (by decide) rfl ?_
        refine g_iload dX5_setLaws_65 rfl ?_
        refine g_if_eq (tgt := 97) dX5_setLaws_67 rfl (fun _ => ?_) (fun h67 => absurd (by decide) h67)
        refine g_iload dX5_setLaws_97 rfl ?_
        refine g_zret dX5_setLaws_99 rfl ?_
        first | exact leafI (by omega) | exact leafJ (by omega)
      · refine g_iload_n dX5_setLaws_15 rfl rfl ?_
        refine g_bipush dX5_setLaws_16 rfl ?_
        refine g_icmp_gt (tgt := 62) dX5_setLaws_18 rfl (fun h18 => ?_) (fun h18 => ?_)
        · refine g_iconst dX5_setLaws_62 ?_
          refine g_istore (ls' := [_, _, _, _, _, _, _]) dX5_setLaws_63 (by decide) rfl ?_
          refine g_iload dX5_setLaws_65 rfl ?_
          refine g_if_eq (tgt := 97) dX5_setLaws_67 rfl (fun _ => ?_) (fun h67 => absurd (by decide) h67)
          refine g_iload dX5_setLaws_97 rfl ?_
          refine g_zret dX5_setLaws_99 rfl ?_
          first | exact leafI (by omega) | exact leafJ (by omega)
        · refine g_iload_n dX5_setLaws_21 rfl rfl ?_
          refine g_iload_n dX5_setLaws_22 rfl rfl ?_
          refine g_icmp_lt (tgt := 62) dX5_setLaws_23 rfl (fun h23 => ?_) (fun h23 => ?_)
          · refine g_iconst dX5_setLaws_62 ?_
            refine g_istore (ls' := [_, _, _, _, _, _, _]) dX5_setLaws_63 (by decide) rfl ?_
            refine g_iload dX5_setLaws_65 rfl ?_
            refine g_if_eq (tgt := 97) dX5_setLaws_67 rfl (fun _ => ?_) (fun h67 => absurd (by decide) h67)
            refine g_iload dX5_setLaws_97 rfl ?_
            refine g_zret dX5_setLaws_99 rfl ?_
            first | exact leafI (by omega) | exact leafJ (by omega)
          · refine g_iload_n dX5_setLaws_26 rfl rfl ?_
            refine g_bipush dX5_setLaws_27 rfl ?_
            refine g_icmp_gt (tgt := 62) dX5_setLaws_29 rfl (fun h29 => ?_) (fun h29 => ?_)
            · refine g_iconst dX5_setLaws_62 ?_
              refine g_istore (ls' := [_, _, _, _, _, _, _]) dX5_setLaws_63 (by decide) rfl ?_
              refine g_iload dX5_setLaws_65 rfl ?_
              refine g_if_eq (tgt := 97) dX5_setLaws_67 rfl (fun _ => ?_) (fun h67 => absurd (by decide) h67)
              refine g_iload dX5_setLaws_97 rfl ?_
              refine g_zret dX5_setLaws_99 rfl ?_
              first | exact leafI (by omega) | exact leafJ (by omega)
            · refine g_iload dX5_setLaws_32 rfl ?_
              refine g_iconst dX5_setLaws_34 ?_
              refine g_icmp_lt (tgt := 62) dX5_setLaws_35 rfl (fun h35 => ?_) (fun h35 => ?_)
              · refine g_iconst dX5_setLaws_62 ?_
                refine g_istore (ls' := [_, _, _, _, _, _, _]) dX5_setLaws_63 (by decide) rfl ?_
                refine g_iload dX5_setLaws_65 rfl ?_
                refine g_if_eq (tgt := 97) dX5_setLaws_67 rfl (fun _ => ?_) (fun h67 => absurd (by decide) h67)
                refine g_iload dX5_setLaws_97 rfl ?_
                refine g_zret dX5_setLaws_99 rfl ?_
                first | exact leafI (by omega) | exact leafJ (by omega)
              · refine g_iload dX5_setLaws_38 rfl ?_
                refine g_sipush dX5_setLaws_40 rfl ?_
                refine g_icmp_gt (tgt := 62) dX5_setLaws_43 rfl (fun h43 => ?_) (fun h43 => ?_)
                · refine g_iconst dX5_setLaws_62 ?_
                  refine g_istore (ls' := [_, _, _, _, _, _, _]) dX5_setLaws_63 (by decide) rfl ?_
                  refine g_iload dX5_setLaws_65 rfl ?_
                  refine g_if_eq (tgt := 97) dX5_setLaws_67 rfl (fun _ => ?_) (fun h67 => absurd (by decide) h67)
                  refine g_iload dX5_setLaws_97 rfl ?_
                  refine g_zret dX5_setLaws_99 rfl ?_
                  first | exact leafI (by omega) | exact leafJ (by omega)
                · refine g_iload dX5_setLaws_46 rfl ?_
                  refine g_if_lt (tgt := 62) dX5_setLaws_48 rfl (fun h48 => ?_) (fun h48 => ?_)
                  · refine g_iconst dX5_setLaws_62 ?_
                    refine g_istore (ls' := [_, _, _, _, _, _, _]) dX5_setLaws_63 (by decide) rfl ?_
                    refine g_iload dX5_setLaws_65 rfl ?_
                    refine g_if_eq (tgt := 97) dX5_setLaws_67 rfl (fun _ => ?_) (fun h67 => absurd (by decide) h67)
                    refine g_iload dX5_setLaws_97 rfl ?_
                    refine g_zret dX5_setLaws_99 rfl ?_
                    first | exact leafI (by omega) | exact leafJ (by omega)
                  · refine g_iload dX5_setLaws_51 rfl ?_
                    refine g_bipush dX5_setLaws_53 rfl ?_
                    refine g_icmp_gt (tgt := 62) dX5_setLaws_55 rfl (fun h55 => ?_) (fun h55 => ?_)
                    · refine g_iconst dX5_setLaws_62 ?_
                      refine g_istore (ls' := [_, _, _, _, _, _, _]) dX5_setLaws_63 (by decide) rfl ?_
                      refine g_iload dX5_setLaws_65 rfl ?_
                      refine g_if_eq (tgt := 97) dX5_setLaws_67 rfl (fun _ => ?_) (fun h67 => absurd (by decide) h67)
                      refine g_iload dX5_setLaws_97 rfl ?_
                      refine g_zret dX5_setLaws_99 rfl ?_
                      first | exact leafI (by omega) | exact leafJ (by omega)
                    · refine g_iconst dX5_setLaws_58 ?_
                      refine g_goto (tgt := 63) dX5_setLaws_59 rfl ?_
                      refine g_istore (ls' := [_, _, _, _, _, _, _]) dX5_setLaws_63 (by decide) rfl ?_
                      refine g_iload dX5_setLaws_65 rfl ?_
                      refine g_if_eq (tgt := 97) dX5_setLaws_67 rfl (fun h67 => absurd h67 (by decide)) (fun _ => ?_)
                      refine g_aload_n dX5_setLaws_70 rfl rfl ?_
                      refine g_iload_n dX5_setLaws_71 rfl rfl ?_
                      refine g_puti dX5_setLaws_72 fX5_9 rfl rfl rfl (tyX5_ok 0 (by decide)) ?_
                      refine g_aload_n dX5_setLaws_75 rfl rfl ?_
                      refine g_iload_n dX5_setLaws_76 rfl rfl ?_
                      refine g_puti dX5_setLaws_77 fX5_15 rfl rfl rfl (tyX5_ok 1 (by decide)) ?_
                      refine g_aload_n dX5_setLaws_80 rfl rfl ?_
                      refine g_iload_n dX5_setLaws_81 rfl rfl ?_
                      refine g_puti dX5_setLaws_82 fX5_18 rfl rfl rfl (tyX5_ok 2 (by decide)) ?_
                      refine g_aload_n dX5_setLaws_85 rfl rfl ?_
                      refine g_iload dX5_setLaws_86 rfl ?_
                      refine g_puti dX5_setLaws_88 fX5_21 rfl rfl rfl (tyX5_ok 3 (by decide)) ?_
                      refine g_aload_n dX5_setLaws_91 rfl rfl ?_
                      refine g_iload dX5_setLaws_92 rfl ?_
                      refine g_puti dX5_setLaws_94 fX5_24 rfl rfl rfl (tyX5_ok 4 (by decide)) ?_
                      refine g_iload dX5_setLaws_97 rfl ?_
                      refine g_zret dX5_setLaws_99 rfl ?_
                      first | exact leafI (by omega) | exact leafJ (by omega)

theorem w_X5_setBudget {d : Nat} {M : Mem} {c p : Int} (c1 : -2147483648 ≤ c) (c2 : c < 2147483648) (p1 : -2147483648 ≤ p) (p2 : p < 2147483648) : WP wdC (d) mX5_setBudget [vr 12, vi c, vi p] M (Ret (some (vi (bi (budgetOK c p)))) (if budgetOK c p then budgetM M c p else M)) := by
  refine wp_of (by decide +kernel) (Nat.le_of_ble_eq_true rfl) ?_
  refine g_iload_n dX5_setBudget_0 rfl rfl ?_
  refine g_if_lt (tgt := 25) dX5_setBudget_1 rfl (fun h1 => ?_) (fun h1 => ?_)
  · refine g_iconst dX5_setBudget_25 ?_
    refine g_istore_n (ls' := [_, _, _, _]) dX5_setBudget_26 rfl (by decide) rfl ?_
    refine g_iload_n dX5_setBudget_27 rfl rfl ?_
    refine g_if_eq (tgt := 41) dX5_setBudget_28 rfl (fun _ => ?_) (fun h28 => absurd (by decide) h28)
    refine g_iload_n dX5_setBudget_41 rfl rfl ?_
    refine g_zret dX5_setBudget_42 rfl ?_
    first | exact leafI (by omega) | exact leafJ (by omega)
  · refine g_iload_n dX5_setBudget_4 rfl rfl ?_
    refine g_sipush dX5_setBudget_5 rfl ?_
    refine g_icmp_gt (tgt := 25) dX5_setBudget_8 rfl (fun h8 => ?_) (fun h8 => ?_)
    · refine g_iconst dX5_setBudget_25 ?_
      refine g_istore_n (ls' := [_, _, _, _]) dX5_setBudget_26 rfl (by decide) rfl ?_
      refine g_iload_n dX5_setBudget_27 rfl rfl ?_
      refine g_if_eq (tgt := 41) dX5_setBudget_28 rfl (fun _ => ?_) (fun h28 => absurd (by decide) h28)
      refine g_iload_n dX5_setBudget_41 rfl rfl ?_
      refine g_zret dX5_setBudget_42 rfl ?_
      first | exact leafI (by omega) | exact leafJ (by omega)
    · refine g_iload_n dX5_setBudget_11 rfl rfl ?_
      refine g_if_lt (tgt := 25) dX5_setBudget_12 rfl (fun h12 => ?_) (fun h12 => ?_)
      · refine g_iconst dX5_setBudget_25 ?_
        refine g_istore_n (ls' := [_, _, _, _]) dX5_setBudget_26 rfl (by decide) rfl ?_
        refine g_iload_n dX5_setBudget_27 rfl rfl ?_
        refine g_if_eq (tgt := 41) dX5_setBudget_28 rfl (fun _ => ?_) (fun h28 => absurd (by decide) h28)
        refine g_iload_n dX5_setBudget_41 rfl rfl ?_
        refine g_zret dX5_setBudget_42 rfl ?_
        first | exact leafI (by omega) | exact leafJ (by omega)
      · refine g_iload_n dX5_setBudget_15 rfl rfl ?_
        refine g_bipush dX5_setBudget_16 rfl ?_
        refine g_icmp_gt (tgt := 25) dX5_setBudget_18 rfl (fun h18 => ?_) (fun h18 => ?_)
        · refine g_iconst dX5_setBudget_25 ?_
          refine g_istore_n (ls' := [_, _, _, _]) dX5_setBudget_26 rfl (by decide) rfl ?_
          refine g_iload_n dX5_setBudget_27 rfl rfl ?_
          refine g_if_eq (tgt := 41) dX5_setBudget_28 rfl (fun _ => ?_) (fun h28 => absurd (by decide) h28)
          refine g_iload_n dX5_setBudget_41 rfl rfl ?_
          refine g_zret dX5_setBudget_42 rfl ?_
          first | exact leafI (by omega) | exact leafJ (by omega)
        · refine g_iconst dX5_setBudget_21 ?_
          refine g_goto (tgt := 26) dX5_setBudget_22 rfl ?_
          refine g_istore_n (ls' := [_, _, _, _]) dX5_setBudget_26 rfl (by decide) rfl ?_
          refine g_iload_n dX5_setBudget_27 rfl rfl ?_
          refine g_if_eq (tgt := 41) dX5_setBudget_28 rfl (fun h28 => absurd h28 (by decide)) (fun _ => ?_)
          refine g_aload_n dX5_setBudget_31 rfl rfl ?_
          refine g_iload_n dX5_setBudget_32 rfl rfl ?_
          refine g_puti dX5_setBudget_33 fX5_27 rfl rfl rfl (tyX5_ok 5 (by decide)) ?_
          refine g_aload_n dX5_setBudget_36 rfl rfl ?_
          refine g_iload_n dX5_setBudget_37 rfl rfl ?_
          refine g_puti dX5_setBudget_38 fX5_30 rfl rfl rfl (tyX5_ok 6 (by decide)) ?_
          refine g_iload_n dX5_setBudget_41 rfl rfl ?_
          refine g_zret dX5_setBudget_42 rfl ?_
          first | exact leafI (by omega) | exact leafJ (by omega)

theorem w_X5_earliestBirth {d : Nat} {M : Mem} {k y a : Int} (hk0 : 0 ≤ k) (hk7 : k ≤ 7) (ha0 : -1 ≤ a) (ha1 : a ≤ 120) : WP wdC (d) mX5_earliestBirth [vr 12, vi k, vi y, vi a] M (Ret (some (vi (ebF (M.1 12 1) (M.1 12 2) (M.1 12 3) (M.1 12 4) k y a))) M) := by
  have hk : k = 0 ∨ k = 1 ∨ k = 2 ∨ k = 3 ∨ k = 4 ∨ k = 5 ∨ k = 6 ∨ k = 7 := by omega
  refine wp_of (by decide +kernel) (Nat.le_of_ble_eq_true rfl) ?_
  refine g_iload_n dX5_earliestBirth_0 rfl rfl ?_
  rcases hk with rfl | rfl | rfl | rfl | rfl | rfl | rfl | rfl
  · refine g_tsw (tgt := 44) dX5_earliestBirth_1 rfl rfl ?_
    refine g_iload_n dX5_earliestBirth_44 rfl rfl ?_
    refine g_iret dX5_earliestBirth_45 rfl ?_
    refine ⟨?_, rfl⟩
    unfold ebF
    first | rfl | (rw [if_neg h62]; rfl) | (rw [if_neg h82]; rfl) | (rw [if_pos h62]; rfl) | (rw [if_pos h82]; rfl) | simp_all
  · refine g_tsw (tgt := 46) dX5_earliestBirth_1 rfl rfl ?_
    refine g_iload_n dX5_earliestBirth_46 rfl rfl ?_
    refine g_aload_n dX5_earliestBirth_47 rfl rfl ?_
    refine g_get dX5_earliestBirth_48 fX5_15 rfl rfl ?_
    refine g_isub dX5_earliestBirth_51 ?_
    refine g_iret dX5_earliestBirth_52 rfl ?_
    refine ⟨?_, rfl⟩
    unfold ebF
    first | rfl | (rw [if_neg h62]; rfl) | (rw [if_neg h82]; rfl) | (rw [if_pos h62]; rfl) | (rw [if_pos h82]; rfl) | simp_all
  · refine g_tsw (tgt := 53) dX5_earliestBirth_1 rfl rfl ?_
    refine g_iload_n dX5_earliestBirth_53 rfl rfl ?_
    refine g_aload_n dX5_earliestBirth_54 rfl rfl ?_
    refine g_get dX5_earliestBirth_55 fX5_18 rfl rfl ?_
    refine g_isub dX5_earliestBirth_58 ?_
    refine g_iret dX5_earliestBirth_59 rfl ?_
    refine ⟨?_, rfl⟩
    unfold ebF
    first | rfl | (rw [if_neg h62]; rfl) | (rw [if_neg h82]; rfl) | (rw [if_pos h62]; rfl) | (rw [if_pos h82]; rfl) | simp_all
  · refine g_tsw (tgt := 105) dX5_earliestBirth_1 rfl rfl ?_
    refine g_iload_n dX5_earliestBirth_105 rfl rfl ?_
    refine g_aload_n dX5_earliestBirth_106 rfl rfl ?_
    refine g_get dX5_earliestBirth_107 fX5_21 rfl rfl ?_
    refine g_isub dX5_earliestBirth_110 ?_
    refine g_iret dX5_earliestBirth_111 rfl ?_
    refine ⟨?_, rfl⟩
    unfold ebF
    first | rfl | (rw [if_neg h62]; rfl) | (rw [if_neg h82]; rfl) | (rw [if_pos h62]; rfl) | (rw [if_pos h82]; rfl) | simp_all
  · refine g_tsw (tgt := 105) dX5_earliestBirth_1 rfl rfl ?_
    refine g_iload_n dX5_earliestBirth_105 rfl rfl ?_
    refine g_aload_n dX5_earliestBirth_106 rfl rfl ?_
    refine g_get dX5_earliestBirth_107 fX5_21 rfl rfl ?_
    refine g_isub dX5_earliestBirth_110 ?_
    refine g_iret dX5_earliestBirth_111 rfl ?_
    refine ⟨?_, rfl⟩
    unfold ebF
    first | rfl | (rw [if_neg h62]; rfl) | (rw [if_neg h82]; rfl) | (rw [if_pos h62]; rfl) | (rw [if_pos h82]; rfl) | simp_all
  · refine g_tsw (tgt := 60) dX5_earliestBirth_1 rfl rfl ?_
    refine g_iload_n dX5_earliestBirth_60 rfl rfl ?_
    refine g_iconst dX5_earliestBirth_61 ?_
    refine g_icmp_ne (tgt := 74) dX5_earliestBirth_62 rfl (fun h62 => ?_) (fun h62 => ?_)
    · refine g_iload_n dX5_earliestBirth_74 rfl rfl ?_
      refine g_iload_n dX5_earliestBirth_75 rfl rfl ?_
      refine g_isub dX5_earliestBirth_76 ?_
      refine g_iconst dX5_earliestBirth_77 ?_
      refine g_isub dX5_earliestBirth_78 ?_
      refine g_iret dX5_earliestBirth_79 rfl ?_
      refine ⟨?_, rfl⟩
      unfold ebF
      first | rfl | (rw [if_neg h62]; rfl) | (rw [if_neg h82]; rfl) | (rw [if_pos h62]; rfl) | (rw [if_pos h82]; rfl) | simp_all
    · refine g_iload_n dX5_earliestBirth_65 rfl rfl ?_
      refine g_aload_n dX5_earliestBirth_66 rfl rfl ?_
      refine g_get dX5_earliestBirth_67 fX5_21 rfl rfl ?_
      refine g_isub dX5_earliestBirth_70 ?_
      refine g_goto (tgt := 79) dX5_earliestBirth_71 rfl ?_
      refine g_iret dX5_earliestBirth_79 rfl ?_
      refine ⟨?_, rfl⟩
      unfold ebF
      first | rfl | (rw [if_neg h62]; rfl) | (rw [if_neg h82]; rfl) | (rw [if_pos h62]; rfl) | (rw [if_pos h82]; rfl) | simp_all
  · refine g_tsw (tgt := 80) dX5_earliestBirth_1 rfl rfl ?_
    refine g_iload_n dX5_earliestBirth_80 rfl rfl ?_
    refine g_iconst dX5_earliestBirth_81 ?_
    refine g_icmp_ne (tgt := 94) dX5_earliestBirth_82 rfl (fun h82 => ?_) (fun h82 => ?_)
    · refine g_iload_n dX5_earliestBirth_94 rfl rfl ?_
      refine g_iload_n dX5_earliestBirth_95 rfl rfl ?_
      refine g_isub dX5_earliestBirth_96 ?_
      refine g_iconst dX5_earliestBirth_97 ?_
      refine g_isub dX5_earliestBirth_98 ?_
      refine g_aload_n dX5_earliestBirth_99 rfl rfl ?_
      refine g_get dX5_earliestBirth_100 fX5_24 rfl rfl ?_
      refine g_isub dX5_earliestBirth_103 ?_
      refine g_iret dX5_earliestBirth_104 rfl ?_
      refine ⟨?_, rfl⟩
      unfold ebF
      first | rfl | (rw [if_neg h62]; rfl) | (rw [if_neg h82]; rfl) | (rw [if_pos h62]; rfl) | (rw [if_pos h82]; rfl) | simp_all
    · refine g_iload_n dX5_earliestBirth_85 rfl rfl ?_
      refine g_aload_n dX5_earliestBirth_86 rfl rfl ?_
      refine g_get dX5_earliestBirth_87 fX5_21 rfl rfl ?_
      refine g_isub dX5_earliestBirth_90 ?_
      refine g_goto (tgt := 104) dX5_earliestBirth_91 rfl ?_
      refine g_iret dX5_earliestBirth_104 rfl ?_
      refine ⟨?_, rfl⟩
      unfold ebF
      first | rfl | (rw [if_neg h62]; rfl) | (rw [if_neg h82]; rfl) | (rw [if_pos h62]; rfl) | (rw [if_pos h82]; rfl) | simp_all
  · refine g_tswO (tgt := 105) dX5_earliestBirth_1 rfl ?_
    refine g_iload_n dX5_earliestBirth_105 rfl rfl ?_
    refine g_aload_n dX5_earliestBirth_106 rfl rfl ?_
    refine g_get dX5_earliestBirth_107 fX5_21 rfl rfl ?_
    refine g_isub dX5_earliestBirth_110 ?_
    refine g_iret dX5_earliestBirth_111 rfl ?_
    refine ⟨?_, rfl⟩
    unfold ebF
    first | rfl | (rw [if_neg h62]; rfl) | (rw [if_neg h82]; rfl) | (rw [if_pos h62]; rfl) | (rw [if_pos h82]; rfl) | simp_all

theorem w_X5_latestBirth {d : Nat} {M : Mem} {k y a : Int} (hk0 : 0 ≤ k) (hk7 : k ≤ 7) (ha0 : -1 ≤ a) (ha1 : a ≤ 120) : WP wdC (d) mX5_latestBirth [vr 12, vi k, vi y, vi a] M (Ret (some (vi (lbF (M.1 12 0) (M.1 12 4) k y a))) M) := by
  have hk : k = 0 ∨ k = 1 ∨ k = 2 ∨ k = 3 ∨ k = 4 ∨ k = 5 ∨ k = 6 ∨ k = 7 := by omega
  refine wp_of (by decide +kernel) (Nat.le_of_ble_eq_true rfl) ?_
  refine g_iload_n dX5_latestBirth_0 rfl rfl ?_
  rcases hk with rfl | rfl | rfl | rfl | rfl | rfl | rfl | rfl
  · refine g_lsw (off := 35) (tgt := 36) dX5_latestBirth_1 (by decide) (by decide) rfl ?_
    refine g_iload_n dX5_latestBirth_36 rfl rfl ?_
    refine g_iret dX5_latestBirth_37 rfl ?_
    refine ⟨?_, rfl⟩
    unfold lbF
    first | rfl | simp_all
  · refine g_lsw (off := 68) (tgt := 69) dX5_latestBirth_1 (by decide) (by decide) rfl ?_
    refine g_iload_n dX5_latestBirth_69 rfl rfl ?_
    refine g_aload_n dX5_latestBirth_70 rfl rfl ?_
    refine g_get dX5_latestBirth_71 fX5_9 rfl rfl ?_
    refine g_isub dX5_latestBirth_74 ?_
    refine g_iret dX5_latestBirth_75 rfl ?_
    refine ⟨?_, rfl⟩
    unfold lbF
    first | rfl | simp_all
  · refine g_lsw (off := 68) (tgt := 69) dX5_latestBirth_1 (by decide) (by decide) rfl ?_
    refine g_iload_n dX5_latestBirth_69 rfl rfl ?_
    refine g_aload_n dX5_latestBirth_70 rfl rfl ?_
    refine g_get dX5_latestBirth_71 fX5_9 rfl rfl ?_
    refine g_isub dX5_latestBirth_74 ?_
    refine g_iret dX5_latestBirth_75 rfl ?_
    refine ⟨?_, rfl⟩
    unfold lbF
    first | rfl | simp_all
  · refine g_lsw (off := 68) (tgt := 69) dX5_latestBirth_1 (by decide) (by decide) rfl ?_
    refine g_iload_n dX5_latestBirth_69 rfl rfl ?_
    refine g_aload_n dX5_latestBirth_70 rfl rfl ?_
    refine g_get dX5_latestBirth_71 fX5_9 rfl rfl ?_
    refine g_isub dX5_latestBirth_74 ?_
    refine g_iret dX5_latestBirth_75 rfl ?_
    refine ⟨?_, rfl⟩
    unfold lbF
    first | rfl | simp_all
  · refine g_lsw (off := 68) (tgt := 69) dX5_latestBirth_1 (by decide) (by decide) rfl ?_
    refine g_iload_n dX5_latestBirth_69 rfl rfl ?_
    refine g_aload_n dX5_latestBirth_70 rfl rfl ?_
    refine g_get dX5_latestBirth_71 fX5_9 rfl rfl ?_
    refine g_isub dX5_latestBirth_74 ?_
    refine g_iret dX5_latestBirth_75 rfl ?_
    refine ⟨?_, rfl⟩
    unfold lbF
    first | rfl | simp_all
  · refine g_lsw (off := 37) (tgt := 38) dX5_latestBirth_1 (by decide) (by decide) rfl ?_
    refine g_iload_n dX5_latestBirth_38 rfl rfl ?_
    refine g_iconst dX5_latestBirth_39 ?_
    refine g_icmp_ne (tgt := 47) dX5_latestBirth_40 rfl (fun h40 => ?_) (fun h40 => ?_)
    · refine g_iload_n dX5_latestBirth_47 rfl rfl ?_
      refine g_iload_n dX5_latestBirth_48 rfl rfl ?_
      refine g_isub dX5_latestBirth_49 ?_
      refine g_iret dX5_latestBirth_50 rfl ?_
      refine ⟨?_, rfl⟩
      unfold lbF
      first | rfl | simp_all
    · refine g_iload_n dX5_latestBirth_43 rfl rfl ?_
      refine g_goto (tgt := 50) dX5_latestBirth_44 rfl ?_
      refine g_iret dX5_latestBirth_50 rfl ?_
      refine ⟨?_, rfl⟩
      unfold lbF
      first | rfl | simp_all
  · refine g_lsw (off := 50) (tgt := 51) dX5_latestBirth_1 (by decide) (by decide) rfl ?_
    refine g_iload_n dX5_latestBirth_51 rfl rfl ?_
    refine g_iconst dX5_latestBirth_52 ?_
    refine g_icmp_ne (tgt := 60) dX5_latestBirth_53 rfl (fun h53 => ?_) (fun h53 => ?_)
    · refine g_iload_n dX5_latestBirth_60 rfl rfl ?_
      refine g_iload_n dX5_latestBirth_61 rfl rfl ?_
      refine g_isub dX5_latestBirth_62 ?_
      refine g_aload_n dX5_latestBirth_63 rfl rfl ?_
      refine g_get dX5_latestBirth_64 fX5_24 rfl rfl ?_
      refine g_iadd dX5_latestBirth_67 ?_
      refine g_iret dX5_latestBirth_68 rfl ?_
      refine ⟨?_, rfl⟩
      unfold lbF
      first | rfl | simp_all
    · refine g_iload_n dX5_latestBirth_56 rfl rfl ?_
      refine g_goto (tgt := 68) dX5_latestBirth_57 rfl ?_
      refine g_iret dX5_latestBirth_68 rfl ?_
      refine ⟨?_, rfl⟩
      unfold lbF
      first | rfl | simp_all
  · refine g_lsw (off := 68) (tgt := 69) dX5_latestBirth_1 (by decide) (by decide) rfl ?_
    refine g_iload_n dX5_latestBirth_69 rfl rfl ?_
    refine g_aload_n dX5_latestBirth_70 rfl rfl ?_
    refine g_get dX5_latestBirth_71 fX5_9 rfl rfl ?_
    refine g_isub dX5_latestBirth_74 ?_
    refine g_iret dX5_latestBirth_75 rfl ?_
    refine ⟨?_, rfl⟩
    unfold lbF
    first | rfl | simp_all

theorem w_X1_canBe {d : Nat} {M : Mem} {a b z : Int} (hz : z = 0 ∨ z = 1) (a1 : -2147483648 ≤ a) (a2 : a < 2147483648) (b1 : -2147483648 ≤ b) (b2 : b < 2147483648) : WP wdC (d) mX1_canBe [vi a, vi b, vi z] M (Ret (some (vi (bi (z = 1 ∨ a ≠ b)))) M) := by
  refine wp_of (by decide +kernel) (Nat.le_of_ble_eq_true rfl) ?_
  refine g_iload_n dX1_canBe_0 rfl rfl ?_
  refine g_if_ne (tgt := 9) dX1_canBe_1 rfl (fun h1 => ?_) (fun h1 => ?_)
  · refine g_iconst dX1_canBe_9 ?_
    refine g_goto (tgt := 14) dX1_canBe_10 rfl ?_
    refine g_zret dX1_canBe_14 rfl ?_
    first | exact leafT (by omega) | exact leafF (by omega)
  · refine g_iload_n dX1_canBe_4 rfl rfl ?_
    refine g_iload_n dX1_canBe_5 rfl rfl ?_
    refine g_icmp_eq (tgt := 13) dX1_canBe_6 rfl (fun h6 => ?_) (fun h6 => ?_)
    · refine g_iconst dX1_canBe_13 ?_
      refine g_zret dX1_canBe_14 rfl ?_
      first | exact leafT (by omega) | exact leafF (by omega)
    · refine g_iconst dX1_canBe_9 ?_
      refine g_goto (tgt := 14) dX1_canBe_10 rfl ?_
      refine g_zret dX1_canBe_14 rfl ?_
      first | exact leafT (by omega) | exact leafF (by omega)

theorem band_31 : ∀ k : Fin 26, band ((k.val : Nat) : Int) 31 = ((k.val : Nat) : Int) := by decide +kernel
theorem band_31' {k : Int} (h0 : 0 ≤ k) (h1 : k < 26) : band k 31 = k := by
  have := band_31 ⟨k.toNat, by omega⟩
  rwa [show ((k.toNat : Nat) : Int) = k by omega] at this
def alikeM (M : Mem) (a b z : Int) : Mem := si (si M 14 (a * 32 + b).toNat z) 14 (b * 32 + a).toNat z

theorem w_X1_setAlike {d : Nat} {M : Mem} {a b z : Int} (hz : z = 0 ∨ z = 1) (ha0 : 0 ≤ a) (ha : a < 26) (hb0 : 0 ≤ b) (hb : b < 26) : WP wdC (d) mX1_setAlike [vr 13, vi a, vi b, vi z] M (Ret (none) (alikeM M a b z)) := by
  refine wp_of (by decide +kernel) (Nat.le_of_ble_eq_true rfl) ?_
  refine g_aload_n dX1_setAlike_0 rfl rfl ?_
  refine g_getr dX1_setAlike_1 fX1_11 rfl rfl ?_
  refine g_iload_n dX1_setAlike_4 rfl rfl ?_
  refine g_bipush dX1_setAlike_5 rfl ?_
  refine g_iand dX1_setAlike_7 ?_
  rw [band_31' (by omega) (by omega)]
  refine g_bipush dX1_setAlike_8 rfl ?_
  refine g_imul dX1_setAlike_10 ?_
  refine g_iload_n dX1_setAlike_11 rfl rfl ?_
  refine g_bipush dX1_setAlike_12 rfl ?_
  refine g_iand dX1_setAlike_14 ?_
  rw [band_31' (by omega) (by omega)]
  refine g_iadd dX1_setAlike_15 ?_
  refine g_iload_n dX1_setAlike_16 rfl rfl ?_
  refine g_bast dX1_setAlike_17 rfl (by decide) ?_
  refine g_aload_n dX1_setAlike_18 rfl rfl ?_
  refine g_getr dX1_setAlike_19 fX1_11 rfl rfl ?_
  refine g_iload_n dX1_setAlike_22 rfl rfl ?_
  refine g_bipush dX1_setAlike_23 rfl ?_
  refine g_iand dX1_setAlike_25 ?_
  rw [band_31' (by omega) (by omega)]
  refine g_bipush dX1_setAlike_26 rfl ?_
  refine g_imul dX1_setAlike_28 ?_
  refine g_iload_n dX1_setAlike_29 rfl rfl ?_
  refine g_bipush dX1_setAlike_30 rfl ?_
  refine g_iand dX1_setAlike_32 ?_
  rw [band_31' (by omega) (by omega)]
  refine g_iadd dX1_setAlike_33 ?_
  refine g_iload_n dX1_setAlike_34 rfl rfl ?_
  refine g_bast dX1_setAlike_35 rfl (by decide) ?_
  refine g_vret dX1_setAlike_36 rfl ?_
  exact ⟨rfl, rfl⟩

theorem w_X1_soundAlike {d : Nat} {M : Mem} {a b : Int} (ha0 : 0 ≤ a) (ha : a < 26) (hb0 : 0 ≤ b) (hb : b < 26) (hal : ∀ j : Nat, M.1 14 j = 0 ∨ M.1 14 j = 1) : WP wdC (d) mX1_soundAlike [vr 13, vi a, vi b] M (Ret (some (vi (bi (a = b ∨ M.1 14 (a * 32 + b).toNat = 1)))) M) := by
  refine wp_of (by decide +kernel) (Nat.le_of_ble_eq_true rfl) ?_
  refine g_iload_n dX1_soundAlike_0 rfl rfl ?_
  refine g_iload_n dX1_soundAlike_1 rfl rfl ?_
  refine g_icmp_eq (tgt := 25) dX1_soundAlike_2 rfl (fun h2 => ?_) (fun h2 => ?_)
  · refine g_iconst dX1_soundAlike_25 ?_
    refine g_goto (tgt := 30) dX1_soundAlike_26 rfl ?_
    refine g_zret dX1_soundAlike_30 rfl ?_
    first | exact leafT (by omega) | exact leafF (by omega)
  · refine g_aload_n dX1_soundAlike_5 rfl rfl ?_
    refine g_getr dX1_soundAlike_6 fX1_11 rfl rfl ?_
    refine g_iload_n dX1_soundAlike_9 rfl rfl ?_
    refine g_bipush dX1_soundAlike_10 rfl ?_
    refine g_iand dX1_soundAlike_12 ?_
    rw [band_31' (by omega) (by omega)]
    refine g_bipush dX1_soundAlike_13 rfl ?_
    refine g_imul dX1_soundAlike_15 ?_
    refine g_iload_n dX1_soundAlike_16 rfl rfl ?_
    refine g_bipush dX1_soundAlike_17 rfl ?_
    refine g_iand dX1_soundAlike_19 ?_
    rw [band_31' (by omega) (by omega)]
    refine g_iadd dX1_soundAlike_20 ?_
    refine g_bald dX1_soundAlike_21 rfl (Or.inl rfl) (by decide) ?_
    have := hal (a * 32 + b).toNat
    refine g_if_eq (tgt := 29) dX1_soundAlike_22 rfl (fun h22 => ?_) (fun h22 => ?_)
    · refine g_iconst dX1_soundAlike_29 ?_
      refine g_zret dX1_soundAlike_30 rfl ?_
      first | exact leafT (by omega) | exact leafF (by omega)
    · refine g_iconst dX1_soundAlike_25 ?_
      refine g_goto (tgt := 30) dX1_soundAlike_26 rfl ?_
      refine g_zret dX1_soundAlike_30 rfl ?_
      first | exact leafT (by omega) | exact leafF (by omega)

