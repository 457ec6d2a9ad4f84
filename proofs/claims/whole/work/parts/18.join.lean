/-! MODULE 14: a role joins a person, and leaves again. -/
def newM (b : Nat) (M : Mem) (q o : Nat) : Mem := si (si (si (si (si (si (si (si M (b + 6) q (M.1 17 o)) (b + 7) q (M.1 18 o)) (b + 8) q (M.1 19 o)) (b + 9) q (M.1 21 o)) (b + 10) q (M.1 22 o)) (b + 12) (q * 14) o) (b + 11) q 1) (b + 5) 13 (q + 1)
def oldM (b : Nat) (M : Mem) (q o : Nat) : Mem := si (si (si (si (si M (b + 13) o (M.1 (b + 6) q)) (b + 14) o (M.1 (b + 7) q)) (b + 15) o (M.1 (b + 8) q)) (b + 16) o (M.1 (b + 9) q)) (b + 17) o (M.1 (b + 10) q)
def joinM (b : Nat) (M : Mem) (q o n : Nat) : Mem := si (si (si (si (si (si (si (oldM b M q o) (b + 6) q (max (M.1 (b + 6) q) (M.1 17 o))) (b + 7) q (min (M.1 (b + 7) q) (M.1 18 o))) (b + 8) q (bor (M.1 (b + 8) q) (M.1 19 o))) (b + 9) q (max (M.1 (b + 9) q) (M.1 21 o))) (b + 10) q (min (M.1 (b + 10) q) (M.1 22 o))) (b + 12) (q * 14 + n) o) (b + 11) q (n + 1)
def leaveM (b : Nat) (M : Mem) (q o : Nat) : Mem := si (si (si (si (si (si M (b + 6) q (M.1 (b + 13) o)) (b + 7) q (M.1 (b + 14) o)) (b + 8) q (M.1 (b + 15) o)) (b + 9) q (M.1 (b + 16) o)) (b + 10) q (M.1 (b + 17) o)) (b + 11) q (M.1 (b + 11) q - 1)

theorem w_X4_start_W {d : Nat} {M : Mem} {q o : Nat} (hq : q < 14) (ho : o < 14) : WP wdC (d) mX4_start [vr 29, vi q, vi o] M (Ret none (newM 24 M q o)) := by
  have e1 : ((q : Int) * 14).toNat = q * 14 := by omega
  refine wp_of (by decide +kernel) (Nat.le_of_ble_eq_true rfl) ?_
  refine g_aload_n dX4_start_0 rfl rfl ?_
  refine g_getr dX4_start_1 fX4_9 rfl rfl ?_
  refine g_iload_n dX4_start_4 rfl rfl ?_
  refine g_aload_n dX4_start_5 rfl rfl ?_
  refine g_getr dX4_start_6 fX4_52 rfl rfl ?_
  refine g_getr dX4_start_9 fX4_60 rfl rfl ?_
  refine g_iload_n dX4_start_12 rfl rfl ?_
  refine g_iald dX4_start_13 rfl (by decide) ?_
  try simp only [Int.toNat_natCast]
  refine g_iast dX4_start_14 rfl (by decide) ?_
  try simp only [Int.toNat_natCast]
  refine g_aload_n dX4_start_15 rfl rfl ?_
  refine g_getr dX4_start_16 fX4_15 rfl rfl ?_
  refine g_iload_n dX4_start_19 rfl rfl ?_
  refine g_aload_n dX4_start_20 rfl rfl ?_
  refine g_getr dX4_start_21 fX4_52 rfl rfl ?_
  refine g_getr dX4_start_24 fX4_63 rfl rfl ?_
  refine g_iload_n dX4_start_27 rfl rfl ?_
  refine g_iald dX4_start_28 rfl (by decide) ?_
  try simp only [sil, sjl, Nat.reduceAdd, Nat.reduceEqDiff, eq_self, false_and, and_false, true_and, and_true, if_false, if_true, reduceIte]
  try simp only [Int.toNat_natCast]
  refine g_iast dX4_start_29 rfl (by decide) ?_
  try simp only [Int.toNat_natCast]
  refine g_aload_n dX4_start_30 rfl rfl ?_
  refine g_getr dX4_start_31 fX4_18 rfl rfl ?_
  refine g_iload_n dX4_start_34 rfl rfl ?_
  refine g_aload_n dX4_start_35 rfl rfl ?_
  refine g_getr dX4_start_36 fX4_52 rfl rfl ?_
  refine g_getr dX4_start_39 fX4_91 rfl rfl ?_
  refine g_iload_n dX4_start_42 rfl rfl ?_
  refine g_iald dX4_start_43 rfl (by decide) ?_
  try simp only [sil, sjl, Nat.reduceAdd, Nat.reduceEqDiff, eq_self, false_and, and_false, true_and, and_true, if_false, if_true, reduceIte]
  try simp only [Int.toNat_natCast]
  refine g_iast dX4_start_44 rfl (by decide) ?_
  try simp only [Int.toNat_natCast]
  refine g_aload_n dX4_start_45 rfl rfl ?_
  refine g_getr dX4_start_46 fX4_21 rfl rfl ?_
  refine g_iload_n dX4_start_49 rfl rfl ?_
  refine g_aload_n dX4_start_50 rfl rfl ?_
  refine g_getr dX4_start_51 fX4_52 rfl rfl ?_
  refine g_getr dX4_start_54 fX4_76 rfl rfl ?_
  refine g_iload_n dX4_start_57 rfl rfl ?_
  refine g_iald dX4_start_58 rfl (by decide) ?_
  try simp only [sil, sjl, Nat.reduceAdd, Nat.reduceEqDiff, eq_self, false_and, and_false, true_and, and_true, if_false, if_true, reduceIte]
  try simp only [Int.toNat_natCast]
  refine g_iast dX4_start_59 rfl (by decide) ?_
  try simp only [Int.toNat_natCast]
  refine g_aload_n dX4_start_60 rfl rfl ?_
  refine g_getr dX4_start_61 fX4_24 rfl rfl ?_
  refine g_iload_n dX4_start_64 rfl rfl ?_
  refine g_aload_n dX4_start_65 rfl rfl ?_
  refine g_getr dX4_start_66 fX4_52 rfl rfl ?_
  refine g_getr dX4_start_69 fX4_77 rfl rfl ?_
  refine g_iload_n dX4_start_72 rfl rfl ?_
  refine g_iald dX4_start_73 rfl (by decide) ?_
  try simp only [sil, sjl, Nat.reduceAdd, Nat.reduceEqDiff, eq_self, false_and, and_false, true_and, and_true, if_false, if_true, reduceIte]
  try simp only [Int.toNat_natCast]
  refine g_iast dX4_start_74 rfl (by decide) ?_
  try simp only [Int.toNat_natCast]
  refine g_aload_n dX4_start_75 rfl rfl ?_
  refine g_getr dX4_start_76 fX4_30 rfl rfl ?_
  refine g_iload_n dX4_start_79 rfl rfl ?_
  refine g_bipush dX4_start_80 rfl ?_
  refine g_imul dX4_start_82 ?_
  refine g_iload_n dX4_start_83 rfl rfl ?_
  refine g_iast dX4_start_84 rfl (by decide) ?_
  try simp only [Int.toNat_natCast]
  rw [e1]
  refine g_aload_n dX4_start_85 rfl rfl ?_
  refine g_getr dX4_start_86 fX4_27 rfl rfl ?_
  refine g_iload_n dX4_start_89 rfl rfl ?_
  refine g_iconst dX4_start_90 ?_
  refine g_iast dX4_start_91 rfl (by decide) ?_
  try simp only [Int.toNat_natCast]
  refine g_aload_n dX4_start_92 rfl rfl ?_
  refine g_iload_n dX4_start_93 rfl rfl ?_
  refine g_iconst dX4_start_94 ?_
  refine g_iadd dX4_start_95 ?_
  refine g_puti dX4_start_96 fX4_48 rfl rfl rfl (tyX4_ok 13 (by decide)) ?_
  refine g_vret dX4_start_99 rfl ?_
  exact ⟨rfl, rfl⟩

theorem w_X4_keepOld_W {d : Nat} {M : Mem} {q o : Nat} (hq : q < 14) (ho : o < 14) : WP wdC (d) mX4_keepOld [vr 29, vi q, vi o] M (Ret none (oldM 24 M q o)) := by
  refine wp_of (by decide +kernel) (Nat.le_of_ble_eq_true rfl) ?_
  refine g_aload_n dX4_keepOld_0 rfl rfl ?_
  refine g_getr dX4_keepOld_1 fX4_33 rfl rfl ?_
  refine g_iload_n dX4_keepOld_4 rfl rfl ?_
  refine g_aload_n dX4_keepOld_5 rfl rfl ?_
  refine g_getr dX4_keepOld_6 fX4_9 rfl rfl ?_
  refine g_iload_n dX4_keepOld_9 rfl rfl ?_
  refine g_iald dX4_keepOld_10 rfl (by decide) ?_
  try simp only [Int.toNat_natCast]
  refine g_iast dX4_keepOld_11 rfl (by decide) ?_
  try simp only [Int.toNat_natCast]
  refine g_aload_n dX4_keepOld_12 rfl rfl ?_
  refine g_getr dX4_keepOld_13 fX4_36 rfl rfl ?_
  refine g_iload_n dX4_keepOld_16 rfl rfl ?_
  refine g_aload_n dX4_keepOld_17 rfl rfl ?_
  refine g_getr dX4_keepOld_18 fX4_15 rfl rfl ?_
  refine g_iload_n dX4_keepOld_21 rfl rfl ?_
  refine g_iald dX4_keepOld_22 rfl (by decide) ?_
  try simp only [sil, sjl, Nat.reduceAdd, Nat.reduceEqDiff, eq_self, false_and, and_false, true_and, and_true, if_false, if_true, reduceIte]
  try simp only [Int.toNat_natCast]
  refine g_iast dX4_keepOld_23 rfl (by decide) ?_
  try simp only [Int.toNat_natCast]
  refine g_aload_n dX4_keepOld_24 rfl rfl ?_
  refine g_getr dX4_keepOld_25 fX4_39 rfl rfl ?_
  refine g_iload_n dX4_keepOld_28 rfl rfl ?_
  refine g_aload_n dX4_keepOld_29 rfl rfl ?_
  refine g_getr dX4_keepOld_30 fX4_18 rfl rfl ?_
  refine g_iload_n dX4_keepOld_33 rfl rfl ?_
  refine g_iald dX4_keepOld_34 rfl (by decide) ?_
  try simp only [sil, sjl, Nat.reduceAdd, Nat.reduceEqDiff, eq_self, false_and, and_false, true_and, and_true, if_false, if_true, reduceIte]
  try simp only [Int.toNat_natCast]
  refine g_iast dX4_keepOld_35 rfl (by decide) ?_
  try simp only [Int.toNat_natCast]
  refine g_aload_n dX4_keepOld_36 rfl rfl ?_
  refine g_getr dX4_keepOld_37 fX4_42 rfl rfl ?_
  refine g_iload_n dX4_keepOld_40 rfl rfl ?_
  refine g_aload_n dX4_keepOld_41 rfl rfl ?_
  refine g_getr dX4_keepOld_42 fX4_21 rfl rfl ?_
  refine g_iload_n dX4_keepOld_45 rfl rfl ?_
  refine g_iald dX4_keepOld_46 rfl (by decide) ?_
  try simp only [sil, sjl, Nat.reduceAdd, Nat.reduceEqDiff, eq_self, false_and, and_false, true_and, and_true, if_false, if_true, reduceIte]
  try simp only [Int.toNat_natCast]
  refine g_iast dX4_keepOld_47 rfl (by decide) ?_
  try simp only [Int.toNat_natCast]
  refine g_aload_n dX4_keepOld_48 rfl rfl ?_
  refine g_getr dX4_keepOld_49 fX4_45 rfl rfl ?_
  refine g_iload_n dX4_keepOld_52 rfl rfl ?_
  refine g_aload_n dX4_keepOld_53 rfl rfl ?_
  refine g_getr dX4_keepOld_54 fX4_24 rfl rfl ?_
  refine g_iload_n dX4_keepOld_57 rfl rfl ?_
  refine g_iald dX4_keepOld_58 rfl (by decide) ?_
  try simp only [sil, sjl, Nat.reduceAdd, Nat.reduceEqDiff, eq_self, false_and, and_false, true_and, and_true, if_false, if_true, reduceIte]
  try simp only [Int.toNat_natCast]
  refine g_iast dX4_keepOld_59 rfl (by decide) ?_
  try simp only [Int.toNat_natCast]
  refine g_vret dX4_keepOld_60 rfl ?_
  exact ⟨rfl, rfl⟩

theorem w_X4_join_new_W {d : Nat} {M : Mem} {q o : Nat} (hq : q < 14) (ho : o < 14) (hc : M.1 29 13 = q) : WP wdC (d + 1) mX4_join [vr 29, vi q, vi o] M (Ret none (newM 24 M q o)) := by
  refine wp_of (by decide +kernel) (Nat.le_of_ble_eq_true rfl) ?_
  refine g_iload_n dX4_join_0 rfl rfl ?_
  refine g_callSr dX4_join_1 lX4_56 (w_X9_isPlace (by omega) (by omega)) rfl rfl (Nat.le_of_ble_eq_true rfl) ?_
  refine g_if_eqB (tgt := 14) dX4_join_4 rfl (fun h4 => ?_) (fun h4 => ?_)
  · exfalso; omega
  · refine g_iload_n dX4_join_7 rfl rfl ?_
    refine g_callSr dX4_join_8 lX4_56 (w_X9_isPlace (by omega) (by omega)) rfl rfl (Nat.le_of_ble_eq_true rfl) ?_
    refine g_if_neB (tgt := 15) dX4_join_11 rfl (fun h11 => ?_) (fun h11 => ?_)
    · refine g_iload_n dX4_join_15 rfl rfl ?_
      refine g_aload_n dX4_join_16 rfl rfl ?_
      refine g_get dX4_join_17 fX4_48 rfl rfl ?_
      refine g_icmp_lt (tgt := 30) dX4_join_20 rfl (fun h20 => ?_) (fun h20 => ?_)
      · exfalso; omega
      · refine g_aload_n dX4_join_23 rfl rfl ?_
        refine g_iload_n dX4_join_24 rfl rfl ?_
        refine g_iload_n dX4_join_25 rfl rfl ?_
        refine g_callVr dX4_join_26 lX4_84 (w_X4_start_W hq ho) rfl rfl rfl rfl (Nat.le_of_ble_eq_true rfl) ?_
        refine g_vret dX4_join_29 rfl ?_
        exact ⟨rfl, rfl⟩
    · exfalso; omega

theorem w_X4_join_old_W {d : Nat} {M : Mem} {q o n c : Nat} (hq : q < 14) (ho : o < 14) (hc : M.1 29 13 = c) (hc14 : c ≤ 14) (hqc : q < c) (hn : n < 14) (p6 : M.1 35 q = n) (r1 : Rg (M.1 30 q)) (r2 : Rg (M.1 31 q)) (r3 : Rg (M.1 33 q)) (r4 : Rg (M.1 34 q)) (r5 : Rg (M.1 17 o)) (r6 : Rg (M.1 18 o)) (r7 : Rg (M.1 21 o)) (r8 : Rg (M.1 22 o)) : WP wdC (d + 1) mX4_join [vr 29, vi q, vi o] M (Ret none (joinM 24 M q o n)) := by
  have e2 : ((q : Int) * 14 + n).toNat = q * 14 + n := by omega
  unfold Rg at r1 r2 r3 r4 r5 r6 r7 r8
  refine wp_of (by decide +kernel) (Nat.le_of_ble_eq_true rfl) ?_
  refine g_iload_n dX4_join_0 rfl rfl ?_
  refine g_callSr dX4_join_1 lX4_56 (w_X9_isPlace (by omega) (by omega)) rfl rfl (Nat.le_of_ble_eq_true rfl) ?_
  refine g_if_eqB (tgt := 14) dX4_join_4 rfl (fun h4 => ?_) (fun h4 => ?_)
  · exfalso; omega
  · refine g_iload_n dX4_join_7 rfl rfl ?_
    refine g_callSr dX4_join_8 lX4_56 (w_X9_isPlace (by omega) (by omega)) rfl rfl (Nat.le_of_ble_eq_true rfl) ?_
    refine g_if_neB (tgt := 15) dX4_join_11 rfl (fun h11 => ?_) (fun h11 => ?_)
    · refine g_iload_n dX4_join_15 rfl rfl ?_
      refine g_aload_n dX4_join_16 rfl rfl ?_
      refine g_get dX4_join_17 fX4_48 rfl rfl ?_
      refine g_icmp_lt (tgt := 30) dX4_join_20 rfl (fun h20 => ?_) (fun h20 => ?_)
      · refine g_aload_n dX4_join_30 rfl rfl ?_
        refine g_getr dX4_join_31 fX4_27 rfl rfl ?_
        refine g_iload_n dX4_join_34 rfl rfl ?_
        refine g_iald dX4_join_35 rfl (by decide) ?_
        try simp only [Int.toNat_natCast]
        refine g_bipush dX4_join_36 rfl ?_
        refine g_icmp_ge (tgt := 188) dX4_join_38 rfl (fun h38 => ?_) (fun h38 => ?_)
        · exfalso; omega
        · refine g_aload_n dX4_join_41 rfl rfl ?_
          refine g_iload_n dX4_join_42 rfl rfl ?_
          refine g_iload_n dX4_join_43 rfl rfl ?_
          refine g_callVr dX4_join_44 lX4_88 (w_X4_keepOld_W hq ho) rfl rfl rfl rfl (Nat.le_of_ble_eq_true rfl) ?_
          unfold oldM
          refine g_aload_n dX4_join_47 rfl rfl ?_
          refine g_getr dX4_join_48 fX4_9 rfl rfl ?_
          refine g_iload_n dX4_join_51 rfl rfl ?_
          refine g_aload_n dX4_join_52 rfl rfl ?_
          refine g_getr dX4_join_53 fX4_9 rfl rfl ?_
          refine g_iload_n dX4_join_56 rfl rfl ?_
          refine g_iald dX4_join_57 rfl (by decide) ?_
          try simp only [sil, sjl, Nat.reduceAdd, Nat.reduceEqDiff, eq_self, false_and, and_false, true_and, and_true, if_false, if_true, reduceIte]
          try simp only [Int.toNat_natCast]
          refine g_aload_n dX4_join_58 rfl rfl ?_
          refine g_getr dX4_join_59 fX4_52 rfl rfl ?_
          refine g_getr dX4_join_62 fX4_60 rfl rfl ?_
          refine g_iload_n dX4_join_65 rfl rfl ?_
          refine g_iald dX4_join_66 rfl (by decide) ?_
          try simp only [sil, sjl, Nat.reduceAdd, Nat.reduceEqDiff, eq_self, false_and, and_false, true_and, and_true, if_false, if_true, reduceIte]
          try simp only [Int.toNat_natCast]
          refine g_max dX4_join_67 lX4_67 (Nat.le_of_ble_eq_true rfl) ?_
          refine g_iast dX4_join_70 rfl (by decide) ?_
          try simp only [Int.toNat_natCast]
          refine g_aload_n dX4_join_71 rfl rfl ?_
          refine g_getr dX4_join_72 fX4_15 rfl rfl ?_
          refine g_iload_n dX4_join_75 rfl rfl ?_
          refine g_aload_n dX4_join_76 rfl rfl ?_
          refine g_getr dX4_join_77 fX4_15 rfl rfl ?_
          refine g_iload_n dX4_join_80 rfl rfl ?_
          refine g_iald dX4_join_81 rfl (by decide) ?_
          try simp only [sil, sjl, Nat.reduceAdd, Nat.reduceEqDiff, eq_self, false_and, and_false, true_and, and_true, if_false, if_true, reduceIte]
          try simp only [Int.toNat_natCast]
          refine g_aload_n dX4_join_82 rfl rfl ?_
          refine g_getr dX4_join_83 fX4_52 rfl rfl ?_
          refine g_getr dX4_join_86 fX4_63 rfl rfl ?_
          refine g_iload_n dX4_join_89 rfl rfl ?_
          refine g_iald dX4_join_90 rfl (by decide) ?_
          try simp only [sil, sjl, Nat.reduceAdd, Nat.reduceEqDiff, eq_self, false_and, and_false, true_and, and_true, if_false, if_true, reduceIte]
          try simp only [Int.toNat_natCast]
          refine g_min dX4_join_91 lX4_73 (Nat.le_of_ble_eq_true rfl) ?_
          refine g_iast dX4_join_94 rfl (by decide) ?_
          try simp only [Int.toNat_natCast]
          refine g_aload_n dX4_join_95 rfl rfl ?_
          refine g_getr dX4_join_96 fX4_18 rfl rfl ?_
          refine g_iload_n dX4_join_99 rfl rfl ?_
          refine g_dup2 dX4_join_100 rfl rfl ?_
          refine g_iald dX4_join_101 rfl (by decide) ?_
          try simp only [sil, sjl, Nat.reduceAdd, Nat.reduceEqDiff, eq_self, false_and, and_false, true_and, and_true, if_false, if_true, reduceIte]
          try simp only [Int.toNat_natCast]
          refine g_aload_n dX4_join_102 rfl rfl ?_
          refine g_getr dX4_join_103 fX4_52 rfl rfl ?_
          refine g_getr dX4_join_106 fX4_91 rfl rfl ?_
          refine g_iload_n dX4_join_109 rfl rfl ?_
          refine g_iald dX4_join_110 rfl (by decide) ?_
          try simp only [sil, sjl, Nat.reduceAdd, Nat.reduceEqDiff, eq_self, false_and, and_false, true_and, and_true, if_false, if_true, reduceIte]
          try simp only [Int.toNat_natCast]
          refine g_ior dX4_join_111 ?_
          refine g_iast dX4_join_112 rfl (by decide) ?_
          try simp only [Int.toNat_natCast]
          refine g_aload_n dX4_join_113 rfl rfl ?_
          refine g_getr dX4_join_114 fX4_21 rfl rfl ?_
          refine g_iload_n dX4_join_117 rfl rfl ?_
          refine g_aload_n dX4_join_118 rfl rfl ?_
          refine g_getr dX4_join_119 fX4_21 rfl rfl ?_
          refine g_iload_n dX4_join_122 rfl rfl ?_
          refine g_iald dX4_join_123 rfl (by decide) ?_
          try simp only [sil, sjl, Nat.reduceAdd, Nat.reduceEqDiff, eq_self, false_and, and_false, true_and, and_true, if_false, if_true, reduceIte]
          try simp only [Int.toNat_natCast]
          refine g_aload_n dX4_join_124 rfl rfl ?_
          refine g_getr dX4_join_125 fX4_52 rfl rfl ?_
          refine g_getr dX4_join_128 fX4_76 rfl rfl ?_
          refine g_iload_n dX4_join_131 rfl rfl ?_
          refine g_iald dX4_join_132 rfl (by decide) ?_
          try simp only [sil, sjl, Nat.reduceAdd, Nat.reduceEqDiff, eq_self, false_and, and_false, true_and, and_true, if_false, if_true, reduceIte]
          try simp only [Int.toNat_natCast]
          refine g_max dX4_join_133 lX4_67 (Nat.le_of_ble_eq_true rfl) ?_
          refine g_iast dX4_join_136 rfl (by decide) ?_
          try simp only [Int.toNat_natCast]
          refine g_aload_n dX4_join_137 rfl rfl ?_
          refine g_getr dX4_join_138 fX4_24 rfl rfl ?_
          refine g_iload_n dX4_join_141 rfl rfl ?_
          refine g_aload_n dX4_join_142 rfl rfl ?_
          refine g_getr dX4_join_143 fX4_24 rfl rfl ?_
          refine g_iload_n dX4_join_146 rfl rfl ?_
          refine g_iald dX4_join_147 rfl (by decide) ?_
          try simp only [sil, sjl, Nat.reduceAdd, Nat.reduceEqDiff, eq_self, false_and, and_false, true_and, and_true, if_false, if_true, reduceIte]
          try simp only [Int.toNat_natCast]
          refine g_aload_n dX4_join_148 rfl rfl ?_
          refine g_getr dX4_join_149 fX4_52 rfl rfl ?_
          refine g_getr dX4_join_152 fX4_77 rfl rfl ?_
          refine g_iload_n dX4_join_155 rfl rfl ?_
          refine g_iald dX4_join_156 rfl (by decide) ?_
          try simp only [sil, sjl, Nat.reduceAdd, Nat.reduceEqDiff, eq_self, false_and, and_false, true_and, and_true, if_false, if_true, reduceIte]
          try simp only [Int.toNat_natCast]
          refine g_min dX4_join_157 lX4_73 (Nat.le_of_ble_eq_true rfl) ?_
          refine g_iast dX4_join_160 rfl (by decide) ?_
          try simp only [Int.toNat_natCast]
          refine g_aload_n dX4_join_161 rfl rfl ?_
          refine g_getr dX4_join_162 fX4_30 rfl rfl ?_
          refine g_iload_n dX4_join_165 rfl rfl ?_
          refine g_bipush dX4_join_166 rfl ?_
          refine g_imul dX4_join_168 ?_
          refine g_aload_n dX4_join_169 rfl rfl ?_
          refine g_getr dX4_join_170 fX4_27 rfl rfl ?_
          refine g_iload_n dX4_join_173 rfl rfl ?_
          refine g_iald dX4_join_174 rfl (by decide) ?_
          try simp only [sil, sjl, Nat.reduceAdd, Nat.reduceEqDiff, eq_self, false_and, and_false, true_and, and_true, if_false, if_true, reduceIte]
          try simp only [Int.toNat_natCast]
          rw [p6]
          refine g_iadd dX4_join_175 ?_
          refine g_iload_n dX4_join_176 rfl rfl ?_
          refine g_iast dX4_join_177 rfl (by decide) ?_
          try simp only [Int.toNat_natCast]
          rw [e2]
          refine g_aload_n dX4_join_178 rfl rfl ?_
          refine g_getr dX4_join_179 fX4_27 rfl rfl ?_
          refine g_iload_n dX4_join_182 rfl rfl ?_
          refine g_dup2 dX4_join_183 rfl rfl ?_
          refine g_iald dX4_join_184 rfl (by decide) ?_
          try simp only [sil, sjl, Nat.reduceAdd, Nat.reduceEqDiff, eq_self, false_and, and_false, true_and, and_true, if_false, if_true, reduceIte]
          try simp only [Int.toNat_natCast]
          refine g_iconst dX4_join_185 ?_
          rw [p6]
          refine g_iadd dX4_join_186 ?_
          refine g_iast dX4_join_187 rfl (by decide) ?_
          try simp only [Int.toNat_natCast]
          refine g_vret dX4_join_188 rfl ?_
          exact ⟨rfl, rfl⟩
      · exfalso; omega
    · exfalso; omega

theorem w_X4_leave_new_W {d : Nat} {M : Mem} {q o c : Nat} (hq : q < 14) (ho : o < 14) (hc : M.1 29 13 = c) (hc14 : c ≤ 14) (hqc : q < c) (p6 : M.1 35 q = 1) : WP wdC (d + 1) mX4_leave [vr 29, vi q, vi o] M (Ret none (si M 29 13 q)) := by
  refine wp_of (by decide +kernel) (Nat.le_of_ble_eq_true rfl) ?_
  refine g_iload_n dX4_leave_0 rfl rfl ?_
  refine g_callSr dX4_leave_1 lX4_56 (w_X9_isPlace (by omega) (by omega)) rfl rfl (Nat.le_of_ble_eq_true rfl) ?_
  refine g_if_eqB (tgt := 22) dX4_leave_4 rfl (fun h4 => ?_) (fun h4 => ?_)
  · exfalso; omega
  · refine g_iload_n dX4_leave_7 rfl rfl ?_
    refine g_callSr dX4_leave_8 lX4_56 (w_X9_isPlace (by omega) (by omega)) rfl rfl (Nat.le_of_ble_eq_true rfl) ?_
    refine g_if_eqB (tgt := 22) dX4_leave_11 rfl (fun h11 => ?_) (fun h11 => ?_)
    · exfalso; omega
    · refine g_iload_n dX4_leave_14 rfl rfl ?_
      refine g_aload_n dX4_leave_15 rfl rfl ?_
      refine g_get dX4_leave_16 fX4_48 rfl rfl ?_
      refine g_icmp_lt (tgt := 23) dX4_leave_19 rfl (fun h19 => ?_) (fun h19 => ?_)
      · refine g_aload_n dX4_leave_23 rfl rfl ?_
        refine g_getr dX4_leave_24 fX4_27 rfl rfl ?_
        refine g_iload_n dX4_leave_27 rfl rfl ?_
        refine g_iald dX4_leave_28 rfl (by decide) ?_
        try simp only [Int.toNat_natCast]
        refine g_iconst dX4_leave_29 ?_
        refine g_icmp_gt (tgt := 39) dX4_leave_30 rfl (fun h30 => ?_) (fun h30 => ?_)
        · exfalso; omega
        · refine g_aload_n dX4_leave_33 rfl rfl ?_
          refine g_iload_n dX4_leave_34 rfl rfl ?_
          refine g_puti dX4_leave_35 fX4_48 rfl rfl rfl (tyX4_ok 13 (by decide)) ?_
          refine g_vret dX4_leave_38 rfl ?_
          exact ⟨rfl, rfl⟩
      · exfalso; omega

theorem w_X4_leave_old_W {d : Nat} {M : Mem} {q o c : Nat} {n : Int} (hq : q < 14) (ho : o < 14) (hc : M.1 29 13 = c) (hc14 : c ≤ 14) (hqc : q < c) (p6 : M.1 35 q = n) (hn1 : 1 < n) (hn2 : n < 100) : WP wdC (d + 1) mX4_leave [vr 29, vi q, vi o] M (Ret none (leaveM 24 M q o)) := by
  refine wp_of (by decide +kernel) (Nat.le_of_ble_eq_true rfl) ?_
  refine g_iload_n dX4_leave_0 rfl rfl ?_
  refine g_callSr dX4_leave_1 lX4_56 (w_X9_isPlace (by omega) (by omega)) rfl rfl (Nat.le_of_ble_eq_true rfl) ?_
  refine g_if_eqB (tgt := 22) dX4_leave_4 rfl (fun h4 => ?_) (fun h4 => ?_)
  · exfalso; omega
  · refine g_iload_n dX4_leave_7 rfl rfl ?_
    refine g_callSr dX4_leave_8 lX4_56 (w_X9_isPlace (by omega) (by omega)) rfl rfl (Nat.le_of_ble_eq_true rfl) ?_
    refine g_if_eqB (tgt := 22) dX4_leave_11 rfl (fun h11 => ?_) (fun h11 => ?_)
    · exfalso; omega
    · refine g_iload_n dX4_leave_14 rfl rfl ?_
      refine g_aload_n dX4_leave_15 rfl rfl ?_
      refine g_get dX4_leave_16 fX4_48 rfl rfl ?_
      refine g_icmp_lt (tgt := 23) dX4_leave_19 rfl (fun h19 => ?_) (fun h19 => ?_)
      · refine g_aload_n dX4_leave_23 rfl rfl ?_
        refine g_getr dX4_leave_24 fX4_27 rfl rfl ?_
        refine g_iload_n dX4_leave_27 rfl rfl ?_
        refine g_iald dX4_leave_28 rfl (by decide) ?_
        try simp only [Int.toNat_natCast]
        refine g_iconst dX4_leave_29 ?_
        refine g_icmp_gt (tgt := 39) dX4_leave_30 rfl (fun h30 => ?_) (fun h30 => ?_)
        · refine g_aload_n dX4_leave_39 rfl rfl ?_
          refine g_getr dX4_leave_40 fX4_9 rfl rfl ?_
          refine g_iload_n dX4_leave_43 rfl rfl ?_
          refine g_aload_n dX4_leave_44 rfl rfl ?_
          refine g_getr dX4_leave_45 fX4_33 rfl rfl ?_
          refine g_iload_n dX4_leave_48 rfl rfl ?_
          refine g_iald dX4_leave_49 rfl (by decide) ?_
          try simp only [Int.toNat_natCast]
          refine g_iast dX4_leave_50 rfl (by decide) ?_
          try simp only [Int.toNat_natCast]
          refine g_aload_n dX4_leave_51 rfl rfl ?_
          refine g_getr dX4_leave_52 fX4_15 rfl rfl ?_
          refine g_iload_n dX4_leave_55 rfl rfl ?_
          refine g_aload_n dX4_leave_56 rfl rfl ?_
          refine g_getr dX4_leave_57 fX4_36 rfl rfl ?_
          refine g_iload_n dX4_leave_60 rfl rfl ?_
          refine g_iald dX4_leave_61 rfl (by decide) ?_
          try simp only [sil, sjl, Nat.reduceAdd, Nat.reduceEqDiff, eq_self, false_and, and_false, true_and, and_true, if_false, if_true, reduceIte]
          try simp only [Int.toNat_natCast]
          refine g_iast dX4_leave_62 rfl (by decide) ?_
          try simp only [Int.toNat_natCast]
          refine g_aload_n dX4_leave_63 rfl rfl ?_
          refine g_getr dX4_leave_64 fX4_18 rfl rfl ?_
          refine g_iload_n dX4_leave_67 rfl rfl ?_
          refine g_aload_n dX4_leave_68 rfl rfl ?_
          refine g_getr dX4_leave_69 fX4_39 rfl rfl ?_
          refine g_iload_n dX4_leave_72 rfl rfl ?_
          refine g_iald dX4_leave_73 rfl (by decide) ?_
          try simp only [sil, sjl, Nat.reduceAdd, Nat.reduceEqDiff, eq_self, false_and, and_false, true_and, and_true, if_false, if_true, reduceIte]
          try simp only [Int.toNat_natCast]
          refine g_iast dX4_leave_74 rfl (by decide) ?_
          try simp only [Int.toNat_natCast]
          refine g_aload_n dX4_leave_75 rfl rfl ?_
          refine g_getr dX4_leave_76 fX4_21 rfl rfl ?_
          refine g_iload_n dX4_leave_79 rfl rfl ?_
          refine g_aload_n dX4_leave_80 rfl rfl ?_
          refine g_getr dX4_leave_81 fX4_42 rfl rfl ?_
          refine g_iload_n dX4_leave_84 rfl rfl ?_
          refine g_iald dX4_leave_85 rfl (by decide) ?_
          try simp only [sil, sjl, Nat.reduceAdd, Nat.reduceEqDiff, eq_self, false_and, and_false, true_and, and_true, if_false, if_true, reduceIte]
          try simp only [Int.toNat_natCast]
          refine g_iast dX4_leave_86 rfl (by decide) ?_
          try simp only [Int.toNat_natCast]
          refine g_aload_n dX4_leave_87 rfl rfl ?_
          refine g_getr dX4_leave_88 fX4_24 rfl rfl ?_
          refine g_iload_n dX4_leave_91 rfl rfl ?_
          refine g_aload_n dX4_leave_92 rfl rfl ?_
          refine g_getr dX4_leave_93 fX4_45 rfl rfl ?_
          refine g_iload_n dX4_leave_96 rfl rfl ?_
          refine g_iald dX4_leave_97 rfl (by decide) ?_
          try simp only [sil, sjl, Nat.reduceAdd, Nat.reduceEqDiff, eq_self, false_and, and_false, true_and, and_true, if_false, if_true, reduceIte]
          try simp only [Int.toNat_natCast]
          refine g_iast dX4_leave_98 rfl (by decide) ?_
          try simp only [Int.toNat_natCast]
          refine g_aload_n dX4_leave_99 rfl rfl ?_
          refine g_getr dX4_leave_100 fX4_27 rfl rfl ?_
          refine g_iload_n dX4_leave_103 rfl rfl ?_
          refine g_dup2 dX4_leave_104 rfl rfl ?_
          refine g_iald dX4_leave_105 rfl (by decide) ?_
          try simp only [sil, sjl, Nat.reduceAdd, Nat.reduceEqDiff, eq_self, false_and, and_false, true_and, and_true, if_false, if_true, reduceIte]
          try simp only [Int.toNat_natCast]
          refine g_iconst dX4_leave_106 ?_
          refine g_isub dX4_leave_107 ?_
          refine g_iast dX4_leave_108 rfl (by decide) ?_
          try simp only [Int.toNat_natCast]
          refine g_vret dX4_leave_109 rfl ?_
          exact ⟨rfl, rfl⟩
        · exfalso; omega
      · exfalso; omega

theorem w_X4_start_V {d : Nat} {M : Mem} {q o : Nat} (hq : q < 14) (ho : o < 14) : WP wdC (d) mX4_start [vr 50, vi q, vi o] M (Ret none (newM 45 M q o)) := by
  have e1 : ((q : Int) * 14).toNat = q * 14 := by omega
  refine wp_of (by decide +kernel) (Nat.le_of_ble_eq_true rfl) ?_
  refine g_aload_n dX4_start_0 rfl rfl ?_
  refine g_getr dX4_start_1 fX4_9 rfl rfl ?_
  refine g_iload_n dX4_start_4 rfl rfl ?_
  refine g_aload_n dX4_start_5 rfl rfl ?_
  refine g_getr dX4_start_6 fX4_52 rfl rfl ?_
  refine g_getr dX4_start_9 fX4_60 rfl rfl ?_
  refine g_iload_n dX4_start_12 rfl rfl ?_
  refine g_iald dX4_start_13 rfl (by decide) ?_
  try simp only [Int.toNat_natCast]
  refine g_iast dX4_start_14 rfl (by decide) ?_
  try simp only [Int.toNat_natCast]
  refine g_aload_n dX4_start_15 rfl rfl ?_
  refine g_getr dX4_start_16 fX4_15 rfl rfl ?_
  refine g_iload_n dX4_start_19 rfl rfl ?_
  refine g_aload_n dX4_start_20 rfl rfl ?_
  refine g_getr dX4_start_21 fX4_52 rfl rfl ?_
  refine g_getr dX4_start_24 fX4_63 rfl rfl ?_
  refine g_iload_n dX4_start_27 rfl rfl ?_
  refine g_iald dX4_start_28 rfl (by decide) ?_
  try simp only [sil, sjl, Nat.reduceAdd, Nat.reduceEqDiff, eq_self, false_and, and_false, true_and, and_true, if_false, if_true, reduceIte]
  try simp only [Int.toNat_natCast]
  refine g_iast dX4_start_29 rfl (by decide) ?_
  try simp only [Int.toNat_natCast]
  refine g_aload_n dX4_start_30 rfl rfl ?_
  refine g_getr dX4_start_31 fX4_18 rfl rfl ?_
  refine g_iload_n dX4_start_34 rfl rfl ?_
  refine g_aload_n dX4_start_35 rfl rfl ?_
  refine g_getr dX4_start_36 fX4_52 rfl rfl ?_
  refine g_getr dX4_start_39 fX4_91 rfl rfl ?_
  refine g_iload_n dX4_start_42 rfl rfl ?_
  refine g_iald dX4_start_43 rfl (by decide) ?_
  try simp only [sil, sjl, Nat.reduceAdd, Nat.reduceEqDiff, eq_self, false_and, and_false, true_and, and_true, if_false, if_true, reduceIte]
  try simp only [Int.toNat_natCast]
  refine g_iast dX4_start_44 rfl (by decide) ?_
  try simp only [Int.toNat_natCast]
  refine g_aload_n dX4_start_45 rfl rfl ?_
  refine g_getr dX4_start_46 fX4_21 rfl rfl ?_
  refine g_iload_n dX4_start_49 rfl rfl ?_
  refine g_aload_n dX4_start_50 rfl rfl ?_
  refine g_getr dX4_start_51 fX4_52 rfl rfl ?_
  refine g_getr dX4_start_54 fX4_76 rfl rfl ?_
  refine g_iload_n dX4_start_57 rfl rfl ?_
  refine g_iald dX4_start_58 rfl (by decide) ?_
  try simp only [sil, sjl, Nat.reduceAdd, Nat.reduceEqDiff, eq_self, false_and, and_false, true_and, and_true, if_false, if_true, reduceIte]
  try simp only [Int.toNat_natCast]
  refine g_iast dX4_start_59 rfl (by decide) ?_
  try simp only [Int.toNat_natCast]
  refine g_aload_n dX4_start_60 rfl rfl ?_
  refine g_getr dX4_start_61 fX4_24 rfl rfl ?_
  refine g_iload_n dX4_start_64 rfl rfl ?_
  refine g_aload_n dX4_start_65 rfl rfl ?_
  refine g_getr dX4_start_66 fX4_52 rfl rfl ?_
  refine g_getr dX4_start_69 fX4_77 rfl rfl ?_
  refine g_iload_n dX4_start_72 rfl rfl ?_
  refine g_iald dX4_start_73 rfl (by decide) ?_
  try simp only [sil, sjl, Nat.reduceAdd, Nat.reduceEqDiff, eq_self, false_and, and_false, true_and, and_true, if_false, if_true, reduceIte]
  try simp only [Int.toNat_natCast]
  refine g_iast dX4_start_74 rfl (by decide) ?_
  try simp only [Int.toNat_natCast]
  refine g_aload_n dX4_start_75 rfl rfl ?_
  refine g_getr dX4_start_76 fX4_30 rfl rfl ?_
  refine g_iload_n dX4_start_79 rfl rfl ?_
  refine g_bipush dX4_start_80 rfl ?_
  refine g_imul dX4_start_82 ?_
  refine g_iload_n dX4_start_83 rfl rfl ?_
  refine g_iast dX4_start_84 rfl (by decide) ?_
  try simp only [Int.toNat_natCast]
  rw [e1]
  refine g_aload_n dX4_start_85 rfl rfl ?_
  refine g_getr dX4_start_86 fX4_27 rfl rfl ?_
  refine g_iload_n dX4_start_89 rfl rfl ?_
  refine g_iconst dX4_start_90 ?_
  refine g_iast dX4_start_91 rfl (by decide) ?_
  try simp only [Int.toNat_natCast]
  refine g_aload_n dX4_start_92 rfl rfl ?_
  refine g_iload_n dX4_start_93 rfl rfl ?_
  refine g_iconst dX4_start_94 ?_
  refine g_iadd dX4_start_95 ?_
  refine g_puti dX4_start_96 fX4_48 rfl rfl rfl (tyX4_ok 13 (by decide)) ?_
  refine g_vret dX4_start_99 rfl ?_
  exact ⟨rfl, rfl⟩

theorem w_X4_keepOld_V {d : Nat} {M : Mem} {q o : Nat} (hq : q < 14) (ho : o < 14) : WP wdC (d) mX4_keepOld [vr 50, vi q, vi o] M (Ret none (oldM 45 M q o)) := by
  refine wp_of (by decide +kernel) (Nat.le_of_ble_eq_true rfl) ?_
  refine g_aload_n dX4_keepOld_0 rfl rfl ?_
  refine g_getr dX4_keepOld_1 fX4_33 rfl rfl ?_
  refine g_iload_n dX4_keepOld_4 rfl rfl ?_
  refine g_aload_n dX4_keepOld_5 rfl rfl ?_
  refine g_getr dX4_keepOld_6 fX4_9 rfl rfl ?_
  refine g_iload_n dX4_keepOld_9 rfl rfl ?_
  refine g_iald dX4_keepOld_10 rfl (by decide) ?_
  try simp only [Int.toNat_natCast]
  refine g_iast dX4_keepOld_11 rfl (by decide) ?_
  try simp only [Int.toNat_natCast]
  refine g_aload_n dX4_keepOld_12 rfl rfl ?_
  refine g_getr dX4_keepOld_13 fX4_36 rfl rfl ?_
  refine g_iload_n dX4_keepOld_16 rfl rfl ?_
  refine g_aload_n dX4_keepOld_17 rfl rfl ?_
  refine g_getr dX4_keepOld_18 fX4_15 rfl rfl ?_
  refine g_iload_n dX4_keepOld_21 rfl rfl ?_
  refine g_iald dX4_keepOld_22 rfl (by decide) ?_
  try simp only [sil, sjl, Nat.reduceAdd, Nat.reduceEqDiff, eq_self, false_and, and_false, true_and, and_true, if_false, if_true, reduceIte]
  try simp only [Int.toNat_natCast]
  refine g_iast dX4_keepOld_23 rfl (by decide) ?_
  try simp only [Int.toNat_natCast]
  refine g_aload_n dX4_keepOld_24 rfl rfl ?_
  refine g_getr dX4_keepOld_25 fX4_39 rfl rfl ?_
  refine g_iload_n dX4_keepOld_28 rfl rfl ?_
  refine g_aload_n dX4_keepOld_29 rfl rfl ?_
  refine g_getr dX4_keepOld_30 fX4_18 rfl rfl ?_
  refine g_iload_n dX4_keepOld_33 rfl rfl ?_
  refine g_iald dX4_keepOld_34 rfl (by decide) ?_
  try simp only [sil, sjl, Nat.reduceAdd, Nat.reduceEqDiff, eq_self, false_and, and_false, true_and, and_true, if_false, if_true, reduceIte]
  try simp only [Int.toNat_natCast]
  refine g_iast dX4_keepOld_35 rfl (by decide) ?_
  try simp only [Int.toNat_natCast]
  refine g_aload_n dX4_keepOld_36 rfl rfl ?_
  refine g_getr dX4_keepOld_37 fX4_42 rfl rfl ?_
  refine g_iload_n dX4_keepOld_40 rfl rfl ?_
  refine g_aload_n dX4_keepOld_41 rfl rfl ?_
  refine g_getr dX4_keepOld_42 fX4_21 rfl rfl ?_
  refine g_iload_n dX4_keepOld_45 rfl rfl ?_
  refine g_iald dX4_keepOld_46 rfl (by decide) ?_
  try simp only [sil, sjl, Nat.reduceAdd, Nat.reduceEqDiff, eq_self, false_and, and_false, true_and, and_true, if_false, if_true, reduceIte]
  try simp only [Int.toNat_natCast]
  refine g_iast dX4_keepOld_47 rfl (by decide) ?_
  try simp only [Int.toNat_natCast]
  refine g_aload_n dX4_keepOld_48 rfl rfl ?_
  refine g_getr dX4_keepOld_49 fX4_45 rfl rfl ?_
  refine g_iload_n dX4_keepOld_52 rfl rfl ?_
  refine g_aload_n dX4_keepOld_53 rfl rfl ?_
  refine g_getr dX4_keepOld_54 fX4_24 rfl rfl ?_
  refine g_iload_n dX4_keepOld_57 rfl rfl ?_
  refine g_iald dX4_keepOld_58 rfl (by decide) ?_
  try simp only [sil, sjl, Nat.reduceAdd, Nat.reduceEqDiff, eq_self, false_and, and_false, true_and, and_true, if_false, if_true, reduceIte]
  try simp only [Int.toNat_natCast]
  refine g_iast dX4_keepOld_59 rfl (by decide) ?_
  try simp only [Int.toNat_natCast]
  refine g_vret dX4_keepOld_60 rfl ?_
  exact ⟨rfl, rfl⟩

theorem w_X4_join_new_V {d : Nat} {M : Mem} {q o : Nat} (hq : q < 14) (ho : o < 14) (hc : M.1 50 13 = q) : WP wdC (d + 1) mX4_join [vr 50, vi q, vi o] M (Ret none (newM 45 M q o)) := by
  refine wp_of (by decide +kernel) (Nat.le_of_ble_eq_true rfl) ?_
  refine g_iload_n dX4_join_0 rfl rfl ?_
  refine g_callSr dX4_join_1 lX4_56 (w_X9_isPlace (by omega) (by omega)) rfl rfl (Nat.le_of_ble_eq_true rfl) ?_
  refine g_if_eqB (tgt := 14) dX4_join_4 rfl (fun h4 => ?_) (fun h4 => ?_)
  · exfalso; omega
  · refine g_iload_n dX4_join_7 rfl rfl ?_
    refine g_callSr dX4_join_8 lX4_56 (w_X9_isPlace (by omega) (by omega)) rfl rfl (Nat.le_of_ble_eq_true rfl) ?_
    refine g_if_neB (tgt := 15) dX4_join_11 rfl (fun h11 => ?_) (fun h11 => ?_)
    · refine g_iload_n dX4_join_15 rfl rfl ?_
      refine g_aload_n dX4_join_16 rfl rfl ?_
      refine g_get dX4_join_17 fX4_48 rfl rfl ?_
      refine g_icmp_lt (tgt := 30) dX4_join_20 rfl (fun h20 => ?_) (fun h20 => ?_)
      · exfalso; omega
      · refine g_aload_n dX4_join_23 rfl rfl ?_
        refine g_iload_n dX4_join_24 rfl rfl ?_
        refine g_iload_n dX4_join_25 rfl rfl ?_
        refine g_callVr dX4_join_26 lX4_84 (w_X4_start_V hq ho) rfl rfl rfl rfl (Nat.le_of_ble_eq_true rfl) ?_
        refine g_vret dX4_join_29 rfl ?_
        exact ⟨rfl, rfl⟩
    · exfalso; omega

theorem w_X4_join_old_V {d : Nat} {M : Mem} {q o n c : Nat} (hq : q < 14) (ho : o < 14) (hc : M.1 50 13 = c) (hc14 : c ≤ 14) (hqc : q < c) (hn : n < 14) (p6 : M.1 56 q = n) (r1 : Rg (M.1 51 q)) (r2 : Rg (M.1 52 q)) (r3 : Rg (M.1 54 q)) (r4 : Rg (M.1 55 q)) (r5 : Rg (M.1 17 o)) (r6 : Rg (M.1 18 o)) (r7 : Rg (M.1 21 o)) (r8 : Rg (M.1 22 o)) : WP wdC (d + 1) mX4_join [vr 50, vi q, vi o] M (Ret none (joinM 45 M q o n)) := by
  have e2 : ((q : Int) * 14 + n).toNat = q * 14 + n := by omega
  unfold Rg at r1 r2 r3 r4 r5 r6 r7 r8
  refine wp_of (by decide +kernel) (Nat.le_of_ble_eq_true rfl) ?_
  refine g_iload_n dX4_join_0 rfl rfl ?_
  refine g_callSr dX4_join_1 lX4_56 (w_X9_isPlace (by omega) (by omega)) rfl rfl (Nat.le_of_ble_eq_true rfl) ?_
  refine g_if_eqB (tgt := 14) dX4_join_4 rfl (fun h4 => ?_) (fun h4 => ?_)
  · exfalso; omega
  · refine g_iload_n dX4_join_7 rfl rfl ?_
    refine g_callSr dX4_join_8 lX4_56 (w_X9_isPlace (by omega) (by omega)) rfl rfl (Nat.le_of_ble_eq_true rfl) ?_
    refine g_if_neB (tgt := 15) dX4_join_11 rfl (fun h11 => ?_) (fun h11 => ?_)
    · refine g_iload_n dX4_join_15 rfl rfl ?_
      refine g_aload_n dX4_join_16 rfl rfl ?_
      refine g_get dX4_join_17 fX4_48 rfl rfl ?_
      refine g_icmp_lt (tgt := 30) dX4_join_20 rfl (fun h20 => ?_) (fun h20 => ?_)
      · refine g_aload_n dX4_join_30 rfl rfl ?_
        refine g_getr dX4_join_31 fX4_27 rfl rfl ?_
        refine g_iload_n dX4_join_34 rfl rfl ?_
        refine g_iald dX4_join_35 rfl (by decide) ?_
        try simp only [Int.toNat_natCast]
        refine g_bipush dX4_join_36 rfl ?_
        refine g_icmp_ge (tgt := 188) dX4_join_38 rfl (fun h38 => ?_) (fun h38 => ?_)
        · exfalso; omega
        · refine g_aload_n dX4_join_41 rfl rfl ?_
          refine g_iload_n dX4_join_42 rfl rfl ?_
          refine g_iload_n dX4_join_43 rfl rfl ?_
          refine g_callVr dX4_join_44 lX4_88 (w_X4_keepOld_V hq ho) rfl rfl rfl rfl (Nat.le_of_ble_eq_true rfl) ?_
          unfold oldM
          refine g_aload_n dX4_join_47 rfl rfl ?_
          refine g_getr dX4_join_48 fX4_9 rfl rfl ?_
          refine g_iload_n dX4_join_51 rfl rfl ?_
          refine g_aload_n dX4_join_52 rfl rfl ?_
          refine g_getr dX4_join_53 fX4_9 rfl rfl ?_
          refine g_iload_n dX4_join_56 rfl rfl ?_
          refine g_iald dX4_join_57 rfl (by decide) ?_
          try simp only [sil, sjl, Nat.reduceAdd, Nat.reduceEqDiff, eq_self, false_and, and_false, true_and, and_true, if_false, if_true, reduceIte]
          try simp only [Int.toNat_natCast]
          refine g_aload_n dX4_join_58 rfl rfl ?_
          refine g_getr dX4_join_59 fX4_52 rfl rfl ?_
          refine g_getr dX4_join_62 fX4_60 rfl rfl ?_
          refine g_iload_n dX4_join_65 rfl rfl ?_
          refine g_iald dX4_join_66 rfl (by decide) ?_
          try simp only [sil, sjl, Nat.reduceAdd, Nat.reduceEqDiff, eq_self, false_and, and_false, true_and, and_true, if_false, if_true, reduceIte]
          try simp only [Int.toNat_natCast]
          refine g_max dX4_join_67 lX4_67 (Nat.le_of_ble_eq_true rfl) ?_
          refine g_iast dX4_join_70 rfl (by decide) ?_
          try simp only [Int.toNat_natCast]
          refine g_aload_n dX4_join_71 rfl rfl ?_
          refine g_getr dX4_join_72 fX4_15 rfl rfl ?_
          refine g_iload_n dX4_join_75 rfl rfl ?_
          refine g_aload_n dX4_join_76 rfl rfl ?_
          refine g_getr dX4_join_77 fX4_15 rfl rfl ?_
          refine g_iload_n dX4_join_80 rfl rfl ?_
          refine g_iald dX4_join_81 rfl (by decide) ?_
          try simp only [sil, sjl, Nat.reduceAdd, Nat.reduceEqDiff, eq_self, false_and, and_false, true_and, and_true, if_false, if_true, reduceIte]
          try simp only [Int.toNat_natCast]
          refine g_aload_n dX4_join_82 rfl rfl ?_
          refine g_getr dX4_join_83 fX4_52 rfl rfl ?_
          refine g_getr dX4_join_86 fX4_63 rfl rfl ?_
          refine g_iload_n dX4_join_89 rfl rfl ?_
          refine g_iald dX4_join_90 rfl (by decide) ?_
          try simp only [sil, sjl, Nat.reduceAdd, Nat.reduceEqDiff, eq_self, false_and, and_false, true_and, and_true, if_false, if_true, reduceIte]
          try simp only [Int.toNat_natCast]
          refine g_min dX4_join_91 lX4_73 (Nat.le_of_ble_eq_true rfl) ?_
          refine g_iast dX4_join_94 rfl (by decide) ?_
          try simp only [Int.toNat_natCast]
          refine g_aload_n dX4_join_95 rfl rfl ?_
          refine g_getr dX4_join_96 fX4_18 rfl rfl ?_
          refine g_iload_n dX4_join_99 rfl rfl ?_
          refine g_dup2 dX4_join_100 rfl rfl ?_
          refine g_iald dX4_join_101 rfl (by decide) ?_
          try simp only [sil, sjl, Nat.reduceAdd, Nat.reduceEqDiff, eq_self, false_and, and_false, true_and, and_true, if_false, if_true, reduceIte]
          try simp only [Int.toNat_natCast]
          refine g_aload_n dX4_join_102 rfl rfl ?_
          refine g_getr dX4_join_103 fX4_52 rfl rfl ?_
          refine g_getr dX4_join_106 fX4_91 rfl rfl ?_
          refine g_iload_n dX4_join_109 rfl rfl ?_
          refine g_iald dX4_join_110 rfl (by decide) ?_
          try simp only [sil, sjl, Nat.reduceAdd, Nat.reduceEqDiff, eq_self, false_and, and_false, true_and, and_true, if_false, if_true, reduceIte]
          try simp only [Int.toNat_natCast]
          refine g_ior dX4_join_111 ?_
          refine g_iast dX4_join_112 rfl (by decide) ?_
          try simp only [Int.toNat_natCast]
          refine g_aload_n dX4_join_113 rfl rfl ?_
          refine g_getr dX4_join_114 fX4_21 rfl rfl ?_
          refine g_iload_n dX4_join_117 rfl rfl ?_
          refine g_aload_n dX4_join_118 rfl rfl ?_
          refine g_getr dX4_join_119 fX4_21 rfl rfl ?_
          refine g_iload_n dX4_join_122 rfl rfl ?_
          refine g_iald dX4_join_123 rfl (by decide) ?_
          try simp only [sil, sjl, Nat.reduceAdd, Nat.reduceEqDiff, eq_self, false_and, and_false, true_and, and_true, if_false, if_true, reduceIte]
          try simp only [Int.toNat_natCast]
          refine g_aload_n dX4_join_124 rfl rfl ?_
          refine g_getr dX4_join_125 fX4_52 rfl rfl ?_
          refine g_getr dX4_join_128 fX4_76 rfl rfl ?_
          refine g_iload_n dX4_join_131 rfl rfl ?_
          refine g_iald dX4_join_132 rfl (by decide) ?_
          try simp only [sil, sjl, Nat.reduceAdd, Nat.reduceEqDiff, eq_self, false_and, and_false, true_and, and_true, if_false, if_true, reduceIte]
          try simp only [Int.toNat_natCast]
          refine g_max dX4_join_133 lX4_67 (Nat.le_of_ble_eq_true rfl) ?_
          refine g_iast dX4_join_136 rfl (by decide) ?_
          try simp only [Int.toNat_natCast]
          refine g_aload_n dX4_join_137 rfl rfl ?_
          refine g_getr dX4_join_138 fX4_24 rfl rfl ?_
          refine g_iload_n dX4_join_141 rfl rfl ?_
          refine g_aload_n dX4_join_142 rfl rfl ?_
          refine g_getr dX4_join_143 fX4_24 rfl rfl ?_
          refine g_iload_n dX4_join_146 rfl rfl ?_
          refine g_iald dX4_join_147 rfl (by decide) ?_
          try simp only [sil, sjl, Nat.reduceAdd, Nat.reduceEqDiff, eq_self, false_and, and_false, true_and, and_true, if_false, if_true, reduceIte]
          try simp only [Int.toNat_natCast]
          refine g_aload_n dX4_join_148 rfl rfl ?_
          refine g_getr dX4_join_149 fX4_52 rfl rfl ?_
          refine g_getr dX4_join_152 fX4_77 rfl rfl ?_
          refine g_iload_n dX4_join_155 rfl rfl ?_
          refine g_iald dX4_join_156 rfl (by decide) ?_
          try simp only [sil, sjl, Nat.reduceAdd, Nat.reduceEqDiff, eq_self, false_and, and_false, true_and, and_true, if_false, if_true, reduceIte]
          try simp only [Int.toNat_natCast]
          refine g_min dX4_join_157 lX4_73 (Nat.le_of_ble_eq_true rfl) ?_
          refine g_iast dX4_join_160 rfl (by decide) ?_
          try simp only [Int.toNat_natCast]
          refine g_aload_n dX4_join_161 rfl rfl ?_
          refine g_getr dX4_join_162 fX4_30 rfl rfl ?_
          refine g_iload_n dX4_join_165 rfl rfl ?_
          refine g_bipush dX4_join_166 rfl ?_
          refine g_imul dX4_join_168 ?_
          refine g_aload_n dX4_join_169 rfl rfl ?_
          refine g_getr dX4_join_170 fX4_27 rfl rfl ?_
          refine g_iload_n dX4_join_173 rfl rfl ?_
          refine g_iald dX4_join_174 rfl (by decide) ?_
          try simp only [sil, sjl, Nat.reduceAdd, Nat.reduceEqDiff, eq_self, false_and, and_false, true_and, and_true, if_false, if_true, reduceIte]
          try simp only [Int.toNat_natCast]
          rw [p6]
          refine g_iadd dX4_join_175 ?_
          refine g_iload_n dX4_join_176 rfl rfl ?_
          refine g_iast dX4_join_177 rfl (by decide) ?_
          try simp only [Int.toNat_natCast]
          rw [e2]
          refine g_aload_n dX4_join_178 rfl rfl ?_
          refine g_getr dX4_join_179 fX4_27 rfl rfl ?_
          refine g_iload_n dX4_join_182 rfl rfl ?_
          refine g_dup2 dX4_join_183 rfl rfl ?_
          refine g_iald dX4_join_184 rfl (by decide) ?_
          try simp only [sil, sjl, Nat.reduceAdd, Nat.reduceEqDiff, eq_self, false_and, and_false, true_and, and_true, if_false, if_true, reduceIte]
          try simp only [Int.toNat_natCast]
          refine g_iconst dX4_join_185 ?_
          rw [p6]
          refine g_iadd dX4_join_186 ?_
          refine g_iast dX4_join_187 rfl (by decide) ?_
          try simp only [Int.toNat_natCast]
          refine g_vret dX4_join_188 rfl ?_
          exact ⟨rfl, rfl⟩
      · exfalso; omega
    · exfalso; omega

theorem w_X4_leave_new_V {d : Nat} {M : Mem} {q o c : Nat} (hq : q < 14) (ho : o < 14) (hc : M.1 50 13 = c) (hc14 : c ≤ 14) (hqc : q < c) (p6 : M.1 56 q = 1) : WP wdC (d + 1) mX4_leave [vr 50, vi q, vi o] M (Ret none (si M 50 13 q)) := by
  refine wp_of (by decide +kernel) (Nat.le_of_ble_eq_true rfl) ?_
  refine g_iload_n dX4_leave_0 rfl rfl ?_
  refine g_callSr dX4_leave_1 lX4_56 (w_X9_isPlace (by omega) (by omega)) rfl rfl (Nat.le_of_ble_eq_true rfl) ?_
  refine g_if_eqB (tgt := 22) dX4_leave_4 rfl (fun h4 => ?_) (fun h4 => ?_)
  · exfalso; omega
  · refine g_iload_n dX4_leave_7 rfl rfl ?_
    refine g_callSr dX4_leave_8 lX4_56 (w_X9_isPlace (by omega) (by omega)) rfl rfl (Nat.le_of_ble_eq_true rfl) ?_
    refine g_if_eqB (tgt := 22) dX4_leave_11 rfl (fun h11 => ?_) (fun h11 => ?_)
    · exfalso; omega
    · refine g_iload_n dX4_leave_14 rfl rfl ?_
      refine g_aload_n dX4_leave_15 rfl rfl ?_
      refine g_get dX4_leave_16 fX4_48 rfl rfl ?_
      refine g_icmp_lt (tgt := 23) dX4_leave_19 rfl (fun h19 => ?_) (fun h19 => ?_)
      · refine g_aload_n dX4_leave_23 rfl rfl ?_
        refine g_getr dX4_leave_24 fX4_27 rfl rfl ?_
        refine g_iload_n dX4_leave_27 rfl rfl ?_
        refine g_iald dX4_leave_28 rfl (by decide) ?_
        try simp only [Int.toNat_natCast]
        refine g_iconst dX4_leave_29 ?_
        refine g_icmp_gt (tgt := 39) dX4_leave_30 rfl (fun h30 => ?_) (fun h30 => ?_)
        · exfalso; omega
        · refine g_aload_n dX4_leave_33 rfl rfl ?_
          refine g_iload_n dX4_leave_34 rfl rfl ?_
          refine g_puti dX4_leave_35 fX4_48 rfl rfl rfl (tyX4_ok 13 (by decide)) ?_
          refine g_vret dX4_leave_38 rfl ?_
          exact ⟨rfl, rfl⟩
      · exfalso; omega

theorem w_X4_leave_old_V {d : Nat} {M : Mem} {q o c : Nat} {n : Int} (hq : q < 14) (ho : o < 14) (hc : M.1 50 13 = c) (hc14 : c ≤ 14) (hqc : q < c) (p6 : M.1 56 q = n) (hn1 : 1 < n) (hn2 : n < 100) : WP wdC (d + 1) mX4_leave [vr 50, vi q, vi o] M (Ret none (leaveM 45 M q o)) := by
  refine wp_of (by decide +kernel) (Nat.le_of_ble_eq_true rfl) ?_
  refine g_iload_n dX4_leave_0 rfl rfl ?_
  refine g_callSr dX4_leave_1 lX4_56 (w_X9_isPlace (by omega) (by omega)) rfl rfl (Nat.le_of_ble_eq_true rfl) ?_
  refine g_if_eqB (tgt := 22) dX4_leave_4 rfl (fun h4 => ?_) (fun h4 => ?_)
  · exfalso; omega
  · refine g_iload_n dX4_leave_7 rfl rfl ?_
    refine g_callSr dX4_leave_8 lX4_56 (w_X9_isPlace (by omega) (by omega)) rfl rfl (Nat.le_of_ble_eq_true rfl) ?_
    refine g_if_eqB (tgt := 22) dX4_leave_11 rfl (fun h11 => ?_) (fun h11 => ?_)
    · exfalso; omega
    · refine g_iload_n dX4_leave_14 rfl rfl ?_
      refine g_aload_n dX4_leave_15 rfl rfl ?_
      refine g_get dX4_leave_16 fX4_48 rfl rfl ?_
      refine g_icmp_lt (tgt := 23) dX4_leave_19 rfl (fun h19 => ?_) (fun h19 => ?_)
      · refine g_aload_n dX4_leave_23 rfl rfl ?_
        refine g_getr dX4_leave_24 fX4_27 rfl rfl ?_
        refine g_iload_n dX4_leave_27 rfl rfl ?_
        refine g_iald dX4_leave_28 rfl (by decide) ?_
        try simp only [Int.toNat_natCast]
        refine g_iconst dX4_leave_29 ?_
        refine g_icmp_gt (tgt := 39) dX4_leave_30 rfl (fun h30 => ?_) (fun h30 => ?_)
        · refine g_aload_n dX4_leave_39 rfl rfl ?_
          refine g_getr dX4_leave_40 fX4_9 rfl rfl ?_
          refine g_iload_n dX4_leave_43 rfl rfl ?_
          refine g_aload_n dX4_leave_44 rfl rfl ?_
          refine g_getr dX4_leave_45 fX4_33 rfl rfl ?_
          refine g_iload_n dX4_leave_48 rfl rfl ?_
          refine g_iald dX4_leave_49 rfl (by decide) ?_
          try simp only [Int.toNat_natCast]
          refine g_iast dX4_leave_50 rfl (by decide) ?_
          try simp only [Int.toNat_natCast]
          refine g_aload_n dX4_leave_51 rfl rfl ?_
          refine g_getr dX4_leave_52 fX4_15 rfl rfl ?_
          refine g_iload_n dX4_leave_55 rfl rfl ?_
          refine g_aload_n dX4_leave_56 rfl rfl ?_
          refine g_getr dX4_leave_57 fX4_36 rfl rfl ?_
          refine g_iload_n dX4_leave_60 rfl rfl ?_
          refine g_iald dX4_leave_61 rfl (by decide) ?_
          try simp only [sil, sjl, Nat.reduceAdd, Nat.reduceEqDiff, eq_self, false_and, and_false, true_and, and_true, if_false, if_true, reduceIte]
          try simp only [Int.toNat_natCast]
          refine g_iast dX4_leave_62 rfl (by decide) ?_
          try simp only [Int.toNat_natCast]
          refine g_aload_n dX4_leave_63 rfl rfl ?_
          refine g_getr dX4_leave_64 fX4_18 rfl rfl ?_
          refine g_iload_n dX4_leave_67 rfl rfl ?_
          refine g_aload_n dX4_leave_68 rfl rfl ?_
          refine g_getr dX4_leave_69 fX4_39 rfl rfl ?_
          refine g_iload_n dX4_leave_72 rfl rfl ?_
          refine g_iald dX4_leave_73 rfl (by decide) ?_
          try simp only [sil, sjl, Nat.reduceAdd, Nat.reduceEqDiff, eq_self, false_and, and_false, true_and, and_true, if_false, if_true, reduceIte]
          try simp only [Int.toNat_natCast]
          refine g_iast dX4_leave_74 rfl (by decide) ?_
          try simp only [Int.toNat_natCast]
          refine g_aload_n dX4_leave_75 rfl rfl ?_
          refine g_getr dX4_leave_76 fX4_21 rfl rfl ?_
          refine g_iload_n dX4_leave_79 rfl rfl ?_
          refine g_aload_n dX4_leave_80 rfl rfl ?_
          refine g_getr dX4_leave_81 fX4_42 rfl rfl ?_
          refine g_iload_n dX4_leave_84 rfl rfl ?_
          refine g_iald dX4_leave_85 rfl (by decide) ?_
          try simp only [sil, sjl, Nat.reduceAdd, Nat.reduceEqDiff, eq_self, false_and, and_false, true_and, and_true, if_false, if_true, reduceIte]
          try simp only [Int.toNat_natCast]
          refine g_iast dX4_leave_86 rfl (by decide) ?_
          try simp only [Int.toNat_natCast]
          refine g_aload_n dX4_leave_87 rfl rfl ?_
          refine g_getr dX4_leave_88 fX4_24 rfl rfl ?_
          refine g_iload_n dX4_leave_91 rfl rfl ?_
          refine g_aload_n dX4_leave_92 rfl rfl ?_
          refine g_getr dX4_leave_93 fX4_45 rfl rfl ?_
          refine g_iload_n dX4_leave_96 rfl rfl ?_
          refine g_iald dX4_leave_97 rfl (by decide) ?_
          try simp only [sil, sjl, Nat.reduceAdd, Nat.reduceEqDiff, eq_self, false_and, and_false, true_and, and_true, if_false, if_true, reduceIte]
          try simp only [Int.toNat_natCast]
          refine g_iast dX4_leave_98 rfl (by decide) ?_
          try simp only [Int.toNat_natCast]
          refine g_aload_n dX4_leave_99 rfl rfl ?_
          refine g_getr dX4_leave_100 fX4_27 rfl rfl ?_
          refine g_iload_n dX4_leave_103 rfl rfl ?_
          refine g_dup2 dX4_leave_104 rfl rfl ?_
          refine g_iald dX4_leave_105 rfl (by decide) ?_
          try simp only [sil, sjl, Nat.reduceAdd, Nat.reduceEqDiff, eq_self, false_and, and_false, true_and, and_true, if_false, if_true, reduceIte]
          try simp only [Int.toNat_natCast]
          refine g_iconst dX4_leave_106 ?_
          refine g_isub dX4_leave_107 ?_
          refine g_iast dX4_leave_108 rfl (by decide) ?_
          try simp only [Int.toNat_natCast]
          refine g_vret dX4_leave_109 rfl ?_
          exact ⟨rfl, rfl⟩
        · exfalso; omega
      · exfalso; omega

theorem Fr.newM {lo hi : Nat} {M M1 : Mem} {b q o : Nat} (h : Fr lo hi M M1) (h1 : lo ≤ b) (h2 : b + 18 ≤ hi) : Fr lo hi M (newM b M1 q o) :=
  (((((((h.si _ _ _).si _ _ _).si _ _ _).si _ _ _).si _ _ _).si _ _ _).si _ _ _).si _ _ _
theorem Fr.joinM {lo hi : Nat} {M M1 : Mem} {b q o n : Nat} (h : Fr lo hi M M1) (h1 : lo ≤ b) (h2 : b + 18 ≤ hi) : Fr lo hi M (joinM b M1 q o n) :=
  (((((((((((h.si _ _ _).si _ _ _).si _ _ _).si _ _ _).si _ _ _).si _ _ _).si _ _ _).si _ _ _).si _ _ _).si _ _ _).si _ _ _).si _ _ _
theorem Fr.leaveM {lo hi : Nat} {M M1 : Mem} {b q o : Nat} (h : Fr lo hi M M1) (h1 : lo ≤ b) (h2 : b + 18 ≤ hi) : Fr lo hi M (leaveM b M1 q o) :=
  (((((h.si _ _ _).si _ _ _).si _ _ _).si _ _ _).si _ _ _).si _ _ _
theorem TabD.fr {D M M1 : Mem} {lo hi : Nat} (h : TabD D M) (hF : Fr lo hi M M1) (hlo : 24 ≤ lo) : TabD D M1 := by
  have e : ∀ p, p < 24 → M1.1 p = M.1 p := fun p hp => (hF p (Or.inl (by omega))).1
  obtain ⟨h1, h2, h3⟩ := h
  refine ⟨fun o ho => ?_, by rw [e 16 (by decide)]; exact h2, by rw [e 16 (by decide)]; exact h3⟩
  have := h1 o ho
  unfold TabO at this ⊢
  rw [e 17 (by decide), e 18 (by decide), e 19 (by decide), e 20 (by decide), e 21 (by decide), e 22 (by decide), e 23 (by decide)]
  exact this
theorem Per_new {b : Nat} {D M : Mem} {q o : Nat} (hT : TabO D M o) : Per b D (newM b M q o) q [o] := by
  obtain ⟨t1, t2, t3, t4, t5, t6, -⟩ := hT
  refine ⟨by simp, ?_, ?_, ?_, ?_, ?_, ?_, fun i hi => ?_⟩
  · simp [newM, sil, fold1, t1]
  · simp [newM, sil, fold1, t2]
  · simp [newM, sil, fold1, t3]
  · simp [newM, sil, fold1, t5]
  · simp [newM, sil, fold1, t6]
  · simp [newM, sil]
  · have : i = 0 := by simp at hi; omega
    subst this
    simp [newM, sil]
theorem Per_join {b : Nat} {D M : Mem} {q o : Nat} {ms : List Nat} (hT : TabO D M o) (h : Per b D M q ms) : Per b D (joinM b M q o ms.length) q (ms ++ [o]) := by
  obtain ⟨t1, t2, t3, t4, t5, t6, -⟩ := hT
  obtain ⟨hne, p1, p2, p3, p4, p5, p6, p7⟩ := h
  have hm : ∀ F : Nat → Int, ms.map F ≠ [] := fun F => by simp [hne]
  refine ⟨by simp, ?_, ?_, ?_, ?_, ?_, ?_, fun i hi => ?_⟩
  · rw [List.map_append, List.map_singleton, fold1_snoc _ _ (hm _), ← p1, ← t1]; simp [joinM, oldM, sil]
  · rw [List.map_append, List.map_singleton, fold1_snoc _ _ (hm _), ← p2, ← t2]; simp [joinM, oldM, sil]
  · rw [List.map_append, List.map_singleton, fold1_snoc _ _ (hm _), ← p3, ← t3]; simp [joinM, oldM, sil]
  · rw [List.map_append, List.map_singleton, fold1_snoc _ _ (hm _), ← p4, ← t5]; simp [joinM, oldM, sil]
  · rw [List.map_append, List.map_singleton, fold1_snoc _ _ (hm _), ← p5, ← t6]; simp [joinM, oldM, sil]
  · simp [joinM, oldM, sil]
  · rw [List.length_append, List.length_singleton] at hi
    rw [List.getD_eq_getElem?_getD]
    by_cases hl : i = ms.length
    · subst hl
      rw [List.getElem?_append_right (Nat.le_refl _), Nat.sub_self]
      simp [joinM, oldM, sil]
    · rw [List.getElem?_append_left (by omega), ← List.getD_eq_getElem?_getD, ← p7 i (by omega)]
      simp [joinM, oldM, sil, hl]
theorem Per_other_new {b : Nat} {D M : Mem} {q q' o : Nat} {ms : List Nat} (hq : q' < q) (hl : ms.length ≤ 14) (h : Per b D M q' ms) : Per b D (newM b M q o) q' ms := by
  obtain ⟨hne, p1, p2, p3, p4, p5, p6, p7⟩ := h
  have hn : ¬ q' = q := by omega
  refine ⟨hne, ?_, ?_, ?_, ?_, ?_, ?_, fun i hi => ?_⟩
  · rw [← p1]; simp [newM, sil, hn]
  · rw [← p2]; simp [newM, sil, hn]
  · rw [← p3]; simp [newM, sil, hn]
  · rw [← p4]; simp [newM, sil, hn]
  · rw [← p5]; simp [newM, sil, hn]
  · rw [← p6]; simp [newM, sil, hn]
  · rw [← p7 i hi]
    have : ¬ q' * 14 + i = q * 14 := by omega
    simp [newM, sil, this]
theorem Per_other_join {b : Nat} {D M : Mem} {q q' o n : Nat} {ms : List Nat} (hn : ¬ q' = q) (hl : ms.length ≤ 14) (hn14 : n < 14) (h : Per b D M q' ms) : Per b D (joinM b M q o n) q' ms := by
  obtain ⟨hne, p1, p2, p3, p4, p5, p6, p7⟩ := h
  refine ⟨hne, ?_, ?_, ?_, ?_, ?_, ?_, fun i hi => ?_⟩
  · rw [← p1]; simp [joinM, oldM, sil, hn]
  · rw [← p2]; simp [joinM, oldM, sil, hn]
  · rw [← p3]; simp [joinM, oldM, sil, hn]
  · rw [← p4]; simp [joinM, oldM, sil, hn]
  · rw [← p5]; simp [joinM, oldM, sil, hn]
  · rw [← p6]; simp [joinM, oldM, sil, hn]
  · rw [← p7 i hi]
    have : ¬ q' * 14 + i = q * 14 + n := by omega
    simp [joinM, oldM, sil, this]
theorem Per_leave {b : Nat} {D M : Mem} {q o : Nat} {ms : List Nat} (hne : ms ≠ []) (h : Per b D M q (ms ++ [o])) (o1 : M.1 (b + 13) o = fold1 max (ms.map (eF D))) (o2 : M.1 (b + 14) o = fold1 min (ms.map (lF D))) (o3 : M.1 (b + 15) o = fold1 bor (ms.map (mF D))) (o4 : M.1 (b + 16) o = fold1 max (ms.map (alF D))) (o5 : M.1 (b + 17) o = fold1 min (ms.map (deF D))) : Per b D (leaveM b M q o) q ms := by
  obtain ⟨-, p1, p2, p3, p4, p5, p6, p7⟩ := h
  refine ⟨hne, ?_, ?_, ?_, ?_, ?_, ?_, fun i hi => ?_⟩
  · rw [← o1]; simp [leaveM, sil]
  · rw [← o2]; simp [leaveM, sil]
  · rw [← o3]; simp [leaveM, sil]
  · rw [← o4]; simp [leaveM, sil]
  · rw [← o5]; simp [leaveM, sil]
  · simp [leaveM, sil, p6]
  · have := p7 i (by rw [List.length_append]; omega)
    rw [List.getD_eq_getElem?_getD, List.getElem?_append_left hi, ← List.getD_eq_getElem?_getD] at this
    rw [← this]
    simp [leaveM, sil]
theorem Per_other_leave {b : Nat} {D M : Mem} {q q' o : Nat} {ms : List Nat} (hn : ¬ q' = q) (h : Per b D M q' ms) : Per b D (leaveM b M q o) q' ms := by
  obtain ⟨hne, p1, p2, p3, p4, p5, p6, p7⟩ := h
  refine ⟨hne, ?_, ?_, ?_, ?_, ?_, ?_, fun i hi => ?_⟩
  · rw [← p1]; simp [leaveM, sil, hn]
  · rw [← p2]; simp [leaveM, sil, hn]
  · rw [← p3]; simp [leaveM, sil, hn]
  · rw [← p4]; simp [leaveM, sil, hn]
  · rw [← p5]; simp [leaveM, sil, hn]
  · rw [← p6]; simp [leaveM, sil, hn]
  · rw [← p7 i hi]
    simp [leaveM, sil]
/-- what a person is stays, where the persons' rows stay -/
theorem Per_eq {b : Nat} {D M M1 : Mem} {q : Nat} {ms : List Nat} (e : ∀ p, b + 6 ≤ p → p ≤ b + 12 → M1.1 p = M.1 p) (h : Per b D M q ms) : Per b D M1 q ms := by
  unfold Per at h ⊢
  rw [e (b + 6) (by omega) (by omega), e (b + 7) (by omega) (by omega), e (b + 8) (by omega) (by omega), e (b + 9) (by omega) (by omega), e (b + 10) (by omega) (by omega), e (b + 11) (by omega) (by omega), e (b + 12) (by omega) (by omega)]
  exact h

