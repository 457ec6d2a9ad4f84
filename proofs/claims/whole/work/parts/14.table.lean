/-! MODULE 10: what a well-formed book is; the table. -/
def nR (M : Mem) : Nat := (M.1 1 10).toNat
def nN (M : Mem) : Nat := (M.1 1 11).toNat
/-- the same records, rules and letters -/
def Dat (M M1 : Mem) : Prop := ∀ p, 1 ≤ p → p < 15 → M1.1 p = M.1 p ∧ M1.2 p = M.2 p
theorem Dat.rf {M : Mem} : Dat M M := fun _ _ _ => ⟨rfl, rfl⟩
theorem Dat.tr {M M1 M2 : Mem} (h : Dat M M1) (h2 : Dat M1 M2) : Dat M M2 := fun p h0 hp => ⟨(h2 p h0 hp).1.trans (h p h0 hp).1, (h2 p h0 hp).2.trans (h p h0 hp).2⟩
theorem Dat.sy {M M1 : Mem} (h : Dat M M1) : Dat M1 M := fun p h0 hp => ⟨(h p h0 hp).1.symm, (h p h0 hp).2.symm⟩
theorem Fr.dat {lo hi : Nat} {M M1 : Mem} (h : Fr lo hi M M1) (h1 : 15 ≤ lo) : Dat M M1 := fun p _ hp => h p (Or.inl (by omega))
def WfB (M : Mem) : Prop := 0 ≤ M.1 1 10 ∧ M.1 1 10 ≤ 8 ∧ 0 ≤ M.1 1 11 ∧ M.1 1 11 ≤ 14
def WfR (M : Mem) : Prop := (∀ r : Nat, (r : Int) < M.1 1 10 → 0 ≤ M.1 2 r ∧ 0 ≤ M.1 3 r ∧ M.1 3 r ≤ 3 ∧ M.1 2 r + M.1 3 r ≤ M.1 1 11) ∧ (∀ r : Nat, (r : Int) + 1 < M.1 1 10 → M.1 2 (r + 1) = M.1 2 r + M.1 3 r) ∧ (0 < M.1 1 10 → M.1 2 0 = 0) ∧ (M.1 1 10 = 0 → M.1 1 11 = 0) ∧ (∀ r : Nat, (r : Int) + 1 = M.1 1 10 → M.1 2 r + M.1 3 r = M.1 1 11)
def WfO (M : Mem) : Prop := ∀ o : Nat, (o : Int) < M.1 1 11 → 0 ≤ M.1 5 o ∧ M.1 5 o < M.1 1 10 ∧ M.1 2 (M.1 5 o).toNat ≤ o ∧ (o : Int) < M.1 2 (M.1 5 o).toNat + M.1 3 (M.1 5 o).toNat
def WfC (M : Mem) : Prop := ∀ r : Nat, (r : Int) < M.1 1 10 → M.1 4 r = -1 ∨ (0 ≤ M.1 4 r ∧ M.1 4 r < r ∧ M.1 4 (M.1 4 r).toNat = -1 ∧ M.1 3 r ≤ M.1 3 (M.1 4 r).toNat)
def WfD (M : Mem) : Prop := ∀ o : Nat, (o : Int) < M.1 1 11 → (M.1 4 (M.1 5 o).toNat = -1 → M.1 10 o = -1) ∧ (0 ≤ M.1 4 (M.1 5 o).toNat → M.1 10 o = M.1 2 (M.1 4 (M.1 5 o).toNat).toNat + (o - M.1 2 (M.1 5 o).toNat) ∧ M.1 6 o = M.1 6 (M.1 10 o).toNat ∧ M.1 8 o = M.1 8 (M.1 10 o).toNat ∧ M.1 9 o = M.1 9 (M.1 10 o).toNat ∧ M.1 7 o = M.1 7 (M.1 10 o).toNat)
def WfV (M : Mem) : Prop := ∀ o : Nat, (o : Int) < M.1 1 11 → 0 ≤ M.1 6 o ∧ M.1 6 o ≤ 7 ∧ 0 ≤ M.1 7 o ∧ M.1 7 o ≤ 3000 ∧ 0 ≤ M.1 8 o ∧ M.1 8 o ≤ 2 ∧ -1 ≤ M.1 9 o ∧ M.1 9 o ≤ 120 ∧ NameOK (M.2 11 o)
def WfL (M : Mem) : Prop := lawsOK (M.1 12 0) (M.1 12 1) (M.1 12 2) (M.1 12 3) (M.1 12 4) ∧ budgetOK (M.1 12 5) (M.1 12 6) ∧ ∀ j : Nat, M.1 14 j = 0 ∨ M.1 14 j = 1
def Wf (M : Mem) : Prop := WfB M ∧ WfR M ∧ WfO M ∧ WfC M ∧ WfD M ∧ WfV M ∧ WfL M
theorem Wf.dat {M M1 : Mem} (h : Dat M M1) (hw : Wf M) : Wf M1 := by
  have e1 := (h 1 (by decide) (by decide)).1
  have e2 := (h 2 (by decide) (by decide)).1
  have e3 := (h 3 (by decide) (by decide)).1
  have e4 := (h 4 (by decide) (by decide)).1
  have e5 := (h 5 (by decide) (by decide)).1
  have e6 := (h 6 (by decide) (by decide)).1
  have e7 := (h 7 (by decide) (by decide)).1
  have e8 := (h 8 (by decide) (by decide)).1
  have e9 := (h 9 (by decide) (by decide)).1
  have e10 := (h 10 (by decide) (by decide)).1
  have e11 := (h 11 (by decide) (by decide)).2
  have e12 := (h 12 (by decide) (by decide)).1
  have e14 := (h 14 (by decide) (by decide)).1
  unfold Wf WfB WfR WfO WfC WfD WfV WfL at hw ⊢
  rw [e1, e2, e3, e4, e5, e6, e7, e8, e9, e10, e11, e12, e14]
  exact hw
/-- of a role: earliest and latest year of birth, marks, clashes, alive, dead -/
def eF (M : Mem) (o : Nat) : Int := ebF (M.1 12 1) (M.1 12 2) (M.1 12 3) (M.1 12 4) (M.1 6 o) (M.1 7 o) (M.1 9 o)
def lF (M : Mem) (o : Nat) : Int := lbF (M.1 12 0) (M.1 12 4) (M.1 6 o) (M.1 7 o) (M.1 9 o)
def mkI (r k s : Int) (a b : Int) : Int := if s = 2 then bor (if s = 1 then bor (if k = 5 then bor (if k = 0 then bor (shl 1 r) 256 else shl 1 r) 512 else (if k = 0 then bor (shl 1 r) 256 else shl 1 r)) a else (if k = 5 then bor (if k = 0 then bor (shl 1 r) 256 else shl 1 r) 512 else (if k = 0 then bor (shl 1 r) 256 else shl 1 r))) b else (if s = 1 then bor (if k = 5 then bor (if k = 0 then bor (shl 1 r) 256 else shl 1 r) 512 else (if k = 0 then bor (shl 1 r) 256 else shl 1 r)) a else (if k = 5 then bor (if k = 0 then bor (shl 1 r) 256 else shl 1 r) 512 else (if k = 0 then bor (shl 1 r) 256 else shl 1 r)))
def mF (M : Mem) (o : Nat) : Int := mkI (M.1 5 o) (M.1 6 o) (M.1 8 o) 1024 2048
def cF (M : Mem) (o : Nat) : Int := mkI (M.1 5 o) (M.1 6 o) (M.1 8 o) 2048 1024
def alF (M : Mem) (o : Nat) : Int := if M.1 6 o = 2 then M.1 7 o - 1 else M.1 7 o
def deF (M : Mem) (o : Nat) : Int := if M.1 6 o = 5 then M.1 7 o else 1000000
def apF (M : Mem) (o p : Nat) : Int := distC (M.1 14) (M.2 11 o) (M.2 11 p)
theorem F_dat {M M1 : Mem} (h : Dat M M1) (o p : Nat) : eF M1 o = eF M o ∧ lF M1 o = lF M o ∧ mF M1 o = mF M o ∧ cF M1 o = cF M o ∧ alF M1 o = alF M o ∧ deF M1 o = deF M o ∧ apF M1 o p = apF M o p := by
  unfold eF lF mF cF alF deF apF
  rw [(h 5 (by decide) (by decide)).1, (h 6 (by decide) (by decide)).1, (h 7 (by decide) (by decide)).1, (h 8 (by decide) (by decide)).1, (h 9 (by decide) (by decide)).1, (h 11 (by decide) (by decide)).2, (h 12 (by decide) (by decide)).1, (h 14 (by decide) (by decide)).1]
  exact ⟨rfl, rfl, rfl, rfl, rfl, rfl, rfl⟩
/-- the table's rows of role o -/
def TabO (M M1 : Mem) (o : Nat) : Prop := M1.1 17 o = eF M o ∧ M1.1 18 o = lF M o ∧ M1.1 19 o = mF M o ∧ M1.1 20 o = cF M o ∧ M1.1 21 o = alF M o ∧ M1.1 22 o = deF M o ∧ ∀ p, p < o → M1.1 23 (o * 14 + p) = apF M o p
def Tab (M : Mem) : Prop := (∀ o : Nat, (o : Int) < M.1 1 11 → TabO M M o) ∧ M.1 16 10 = M.1 12 5 ∧ M.1 16 11 = M.1 12 6

theorem w_X8_prepareYears {d : Nat} {M : Mem} {o : Nat} (ho : o < 14) (hk0 : 0 ≤ M.1 6 o) (hk7 : M.1 6 o ≤ 7) (hy0 : 0 ≤ M.1 7 o) (hy1 : M.1 7 o ≤ 3000) (ha0 : -1 ≤ M.1 9 o) (ha1 : M.1 9 o ≤ 120) : WP wdC (d + 1) mX8_prepareYears [vr 16, vi o] M (Ret (none) (si (si (si (si M 17 o (eF M o)) 18 o (lF M o)) 21 o (alF M o)) 22 o (deF M o))) := by
  refine wp_of (by decide +kernel) (Nat.le_of_ble_eq_true rfl) ?_
  refine g_aload_n dX8_prepareYears_0 rfl rfl ?_
  refine g_getr dX8_prepareYears_1 fX8_40 rfl rfl ?_
  refine g_getr dX8_prepareYears_4 fX8_71 rfl rfl ?_
  refine g_iload_n dX8_prepareYears_7 rfl rfl ?_
  refine g_iald dX8_prepareYears_8 rfl (by decide) ?_
  try simp only [Int.toNat_natCast]
  refine g_istore_n (ls' := [_, _, _, _]) dX8_prepareYears_9 rfl (by decide) rfl ?_
  refine g_aload_n dX8_prepareYears_10 rfl rfl ?_
  refine g_getr dX8_prepareYears_11 fX8_40 rfl rfl ?_
  refine g_getr dX8_prepareYears_14 fX8_74 rfl rfl ?_
  refine g_iload_n dX8_prepareYears_17 rfl rfl ?_
  refine g_iald dX8_prepareYears_18 rfl (by decide) ?_
  try simp only [Int.toNat_natCast]
  refine g_istore_n (ls' := [_, _, _, _]) dX8_prepareYears_19 rfl (by decide) rfl ?_
  refine g_aload_n dX8_prepareYears_20 rfl rfl ?_
  refine g_getr dX8_prepareYears_21 fX8_11 rfl rfl ?_
  refine g_iload_n dX8_prepareYears_24 rfl rfl ?_
  refine g_aload_n dX8_prepareYears_25 rfl rfl ?_
  refine g_getr dX8_prepareYears_26 fX8_44 rfl rfl ?_
  refine g_iload_n dX8_prepareYears_29 rfl rfl ?_
  refine g_iload_n dX8_prepareYears_30 rfl rfl ?_
  refine g_aload_n dX8_prepareYears_31 rfl rfl ?_
  refine g_getr dX8_prepareYears_32 fX8_40 rfl rfl ?_
  refine g_getr dX8_prepareYears_35 fX8_77 rfl rfl ?_
  refine g_iload_n dX8_prepareYears_38 rfl rfl ?_
  refine g_iald dX8_prepareYears_39 rfl (by decide) ?_
  try simp only [Int.toNat_natCast]
  refine g_callVr dX8_prepareYears_40 lX8_80 (w_X5_earliestBirth hk0 hk7 ha0 ha1) rfl rfl rfl rfl (Nat.le_of_ble_eq_true rfl) ?_
  refine g_iast dX8_prepareYears_43 rfl (by decide) ?_
  try simp only [Int.toNat_natCast]
  refine g_aload_n dX8_prepareYears_44 rfl rfl ?_
  refine g_getr dX8_prepareYears_45 fX8_15 rfl rfl ?_
  refine g_iload_n dX8_prepareYears_48 rfl rfl ?_
  refine g_aload_n dX8_prepareYears_49 rfl rfl ?_
  refine g_getr dX8_prepareYears_50 fX8_44 rfl rfl ?_
  refine g_iload_n dX8_prepareYears_53 rfl rfl ?_
  refine g_iload_n dX8_prepareYears_54 rfl rfl ?_
  refine g_aload_n dX8_prepareYears_55 rfl rfl ?_
  refine g_getr dX8_prepareYears_56 fX8_40 rfl rfl ?_
  refine g_getr dX8_prepareYears_59 fX8_77 rfl rfl ?_
  refine g_iload_n dX8_prepareYears_62 rfl rfl ?_
  refine g_iald dX8_prepareYears_63 rfl (by decide) ?_
  try simp only [sil, sjl, eq_self, false_and, and_false, true_and, and_true, if_false, if_true, reduceIte]
  try simp only [Int.toNat_natCast]
  refine g_callVr dX8_prepareYears_64 lX8_84 (w_X5_latestBirth hk0 hk7 ha0 ha1) rfl rfl rfl rfl (Nat.le_of_ble_eq_true rfl) ?_
  refine g_iast dX8_prepareYears_67 rfl (by decide) ?_
  try simp only [Int.toNat_natCast]
  refine g_aload_n dX8_prepareYears_68 rfl rfl ?_
  refine g_getr dX8_prepareYears_69 fX8_24 rfl rfl ?_
  refine g_iload_n dX8_prepareYears_72 rfl rfl ?_
  refine g_iload_n dX8_prepareYears_73 rfl rfl ?_
  refine g_iconst dX8_prepareYears_74 ?_
  refine g_icmp_ne (tgt := 84) dX8_prepareYears_75 rfl (fun h75 => ?_) (fun h75 => ?_)
  · refine g_iload_n dX8_prepareYears_84 rfl rfl ?_
    refine g_iast dX8_prepareYears_85 rfl (by decide) ?_
    try simp only [Int.toNat_natCast]
    refine g_aload_n dX8_prepareYears_86 rfl rfl ?_
    refine g_getr dX8_prepareYears_87 fX8_27 rfl rfl ?_
    refine g_iload_n dX8_prepareYears_90 rfl rfl ?_
    refine g_iload_n dX8_prepareYears_91 rfl rfl ?_
    refine g_iconst dX8_prepareYears_92 ?_
    refine g_icmp_ne (tgt := 100) dX8_prepareYears_93 rfl (fun h93 => ?_) (fun h93 => ?_)
    · refine g_ldc (z := 1000000) dX8_prepareYears_100 kX8_87 rfl ?_
      refine g_iast dX8_prepareYears_102 rfl (by decide) ?_
      try simp only [Int.toNat_natCast]
      refine g_vret dX8_prepareYears_103 rfl ?_
      refine ⟨rfl, ?_⟩
      unfold alF deF
      first | rw [if_pos (show M.1 6 o = 2 from h75)] | rw [if_neg (show ¬ M.1 6 o = 2 from h75)]
      first | rw [if_pos (show M.1 6 o = 5 from h93)] | rw [if_neg (show ¬ M.1 6 o = 5 from h93)]
      rfl
    · refine g_iload_n dX8_prepareYears_96 rfl rfl ?_
      refine g_goto (tgt := 102) dX8_prepareYears_97 rfl ?_
      refine g_iast dX8_prepareYears_102 rfl (by decide) ?_
      try simp only [Int.toNat_natCast]
      refine g_vret dX8_prepareYears_103 rfl ?_
      refine ⟨rfl, ?_⟩
      unfold alF deF
      first | rw [if_pos (show M.1 6 o = 2 from h75)] | rw [if_neg (show ¬ M.1 6 o = 2 from h75)]
      first | rw [if_pos (show M.1 6 o = 5 from h93)] | rw [if_neg (show ¬ M.1 6 o = 5 from h93)]
      rfl
  · refine g_iload_n dX8_prepareYears_78 rfl rfl ?_
    refine g_iconst dX8_prepareYears_79 ?_
    refine g_isub dX8_prepareYears_80 ?_
    refine g_goto (tgt := 85) dX8_prepareYears_81 rfl ?_
    refine g_iast dX8_prepareYears_85 rfl (by decide) ?_
    try simp only [Int.toNat_natCast]
    refine g_aload_n dX8_prepareYears_86 rfl rfl ?_
    refine g_getr dX8_prepareYears_87 fX8_27 rfl rfl ?_
    refine g_iload_n dX8_prepareYears_90 rfl rfl ?_
    refine g_iload_n dX8_prepareYears_91 rfl rfl ?_
    refine g_iconst dX8_prepareYears_92 ?_
    refine g_icmp_ne (tgt := 100) dX8_prepareYears_93 rfl (fun h93 => ?_) (fun h93 => ?_)
    · refine g_ldc (z := 1000000) dX8_prepareYears_100 kX8_87 rfl ?_
      refine g_iast dX8_prepareYears_102 rfl (by decide) ?_
      try simp only [Int.toNat_natCast]
      refine g_vret dX8_prepareYears_103 rfl ?_
      refine ⟨rfl, ?_⟩
      unfold alF deF
      first | rw [if_pos (show M.1 6 o = 2 from h75)] | rw [if_neg (show ¬ M.1 6 o = 2 from h75)]
      first | rw [if_pos (show M.1 6 o = 5 from h93)] | rw [if_neg (show ¬ M.1 6 o = 5 from h93)]
      rfl
    · refine g_iload_n dX8_prepareYears_96 rfl rfl ?_
      refine g_goto (tgt := 102) dX8_prepareYears_97 rfl ?_
      refine g_iast dX8_prepareYears_102 rfl (by decide) ?_
      try simp only [Int.toNat_natCast]
      refine g_vret dX8_prepareYears_103 rfl ?_
      refine ⟨rfl, ?_⟩
      unfold alF deF
      first | rw [if_pos (show M.1 6 o = 2 from h75)] | rw [if_neg (show ¬ M.1 6 o = 2 from h75)]
      first | rw [if_pos (show M.1 6 o = 5 from h93)] | rw [if_neg (show ¬ M.1 6 o = 5 from h93)]
      rfl

theorem w_X8_prepareMarks {d : Nat} {M : Mem} {o : Nat} (ho : (o : Int) < M.1 1 11) (hR0 : 0 ≤ M.1 1 10) (hR8 : M.1 1 10 ≤ 8) (hN0 : 0 ≤ M.1 1 11) (hN14 : M.1 1 11 ≤ 14) (hk0 : 0 ≤ M.1 6 o) (hk7 : M.1 6 o ≤ 7) (hs0 : 0 ≤ M.1 8 o) (hs1 : M.1 8 o ≤ 2) : WP wdC (d + 2) mX8_prepareMarks [vr 16, vi o] M (Ret (none) (si (si M 19 o (mF M o)) 20 o (cF M o))) := by
  refine wp_of (by decide +kernel) (Nat.le_of_ble_eq_true rfl) ?_
  refine g_aload_n dX8_prepareMarks_0 rfl rfl ?_
  refine g_getr dX8_prepareMarks_1 fX8_40 rfl rfl ?_
  refine g_iload_n dX8_prepareMarks_4 rfl rfl ?_
  refine g_callVr dX8_prepareMarks_5 lX8_88 (w_X0_bitOf (by omega) (by omega) hR0 hR8 hN0 hN14) rfl rfl rfl rfl (Nat.le_of_ble_eq_true rfl) ?_
  rw [if_pos ⟨by omega, ho⟩]
  refine g_istore_n (ls' := [_, _, _, _]) dX8_prepareMarks_8 rfl (by decide) rfl ?_
  refine g_iload_n dX8_prepareMarks_9 rfl rfl ?_
  refine g_istore_n (ls' := [_, _, _, _]) dX8_prepareMarks_10 rfl (by decide) rfl ?_
  refine g_aload_n dX8_prepareMarks_11 rfl rfl ?_
  refine g_getr dX8_prepareMarks_12 fX8_40 rfl rfl ?_
  refine g_getr dX8_prepareMarks_15 fX8_71 rfl rfl ?_
  refine g_iload_n dX8_prepareMarks_18 rfl rfl ?_
  refine g_iald dX8_prepareMarks_19 rfl (by decide) ?_
  try simp only [Int.toNat_natCast]
  refine g_if_ne (tgt := 35) dX8_prepareMarks_20 rfl (fun h20 => ?_) (fun h20 => ?_)
  · refine g_aload_n dX8_prepareMarks_35 rfl rfl ?_
    refine g_getr dX8_prepareMarks_36 fX8_40 rfl rfl ?_
    refine g_getr dX8_prepareMarks_39 fX8_71 rfl rfl ?_
    refine g_iload_n dX8_prepareMarks_42 rfl rfl ?_
    refine g_iald dX8_prepareMarks_43 rfl (by decide) ?_
    try simp only [Int.toNat_natCast]
    refine g_iconst dX8_prepareMarks_44 ?_
    refine g_icmp_ne (tgt := 60) dX8_prepareMarks_45 rfl (fun h45 => ?_) (fun h45 => ?_)
    · refine g_aload_n dX8_prepareMarks_60 rfl rfl ?_
      refine g_getr dX8_prepareMarks_61 fX8_40 rfl rfl ?_
      refine g_getr dX8_prepareMarks_64 fX8_92 rfl rfl ?_
      refine g_iload_n dX8_prepareMarks_67 rfl rfl ?_
      refine g_iald dX8_prepareMarks_68 rfl (by decide) ?_
      try simp only [Int.toNat_natCast]
      refine g_iconst dX8_prepareMarks_69 ?_
      refine g_icmp_ne (tgt := 85) dX8_prepareMarks_70 rfl (fun h70 => ?_) (fun h70 => ?_)
      · refine g_aload_n dX8_prepareMarks_85 rfl rfl ?_
        refine g_getr dX8_prepareMarks_86 fX8_40 rfl rfl ?_
        refine g_getr dX8_prepareMarks_89 fX8_92 rfl rfl ?_
        refine g_iload_n dX8_prepareMarks_92 rfl rfl ?_
        refine g_iald dX8_prepareMarks_93 rfl (by decide) ?_
        try simp only [Int.toNat_natCast]
        refine g_iconst dX8_prepareMarks_94 ?_
        refine g_icmp_ne (tgt := 110) dX8_prepareMarks_95 rfl (fun h95 => ?_) (fun h95 => ?_)
        · refine g_aload_n dX8_prepareMarks_110 rfl rfl ?_
          refine g_getr dX8_prepareMarks_111 fX8_18 rfl rfl ?_
          refine g_iload_n dX8_prepareMarks_114 rfl rfl ?_
          refine g_iload_n dX8_prepareMarks_115 rfl rfl ?_
          refine g_iast dX8_prepareMarks_116 rfl (by decide) ?_
          try simp only [Int.toNat_natCast]
          refine g_aload_n dX8_prepareMarks_117 rfl rfl ?_
          refine g_getr dX8_prepareMarks_118 fX8_21 rfl rfl ?_
          refine g_iload_n dX8_prepareMarks_121 rfl rfl ?_
          refine g_iload_n dX8_prepareMarks_122 rfl rfl ?_
          refine g_iast dX8_prepareMarks_123 rfl (by decide) ?_
          try simp only [Int.toNat_natCast]
          refine g_vret dX8_prepareMarks_124 rfl ?_
          refine ⟨rfl, ?_⟩
          unfold mF cF mkI
          first | simp only [if_pos (show M.1 6 o = 0 from h20)] | simp only [if_neg (show ¬ M.1 6 o = 0 from h20)]
          first | simp only [if_pos (show M.1 6 o = 5 from h45)] | simp only [if_neg (show ¬ M.1 6 o = 5 from h45)]
          first | simp only [if_pos (show M.1 8 o = 1 from h70)] | simp only [if_neg (show ¬ M.1 8 o = 1 from h70)]
          first | simp only [if_pos (show M.1 8 o = 2 from h95)] | simp only [if_neg (show ¬ M.1 8 o = 2 from h95)]
          try rfl
        · refine g_iload_n dX8_prepareMarks_98 rfl rfl ?_
          refine g_sipush dX8_prepareMarks_99 rfl ?_
          refine g_ior dX8_prepareMarks_102 ?_
          refine g_istore_n (ls' := [_, _, _, _]) dX8_prepareMarks_103 rfl (by decide) rfl ?_
          refine g_iload_n dX8_prepareMarks_104 rfl rfl ?_
          refine g_sipush dX8_prepareMarks_105 rfl ?_
          refine g_ior dX8_prepareMarks_108 ?_
          refine g_istore_n (ls' := [_, _, _, _]) dX8_prepareMarks_109 rfl (by decide) rfl ?_
          refine g_aload_n dX8_prepareMarks_110 rfl rfl ?_
          refine g_getr dX8_prepareMarks_111 fX8_18 rfl rfl ?_
          refine g_iload_n dX8_prepareMarks_114 rfl rfl ?_
          refine g_iload_n dX8_prepareMarks_115 rfl rfl ?_
          refine g_iast dX8_prepareMarks_116 rfl (by decide) ?_
          try simp only [Int.toNat_natCast]
          refine g_aload_n dX8_prepareMarks_117 rfl rfl ?_
          refine g_getr dX8_prepareMarks_118 fX8_21 rfl rfl ?_
          refine g_iload_n dX8_prepareMarks_121 rfl rfl ?_
          refine g_iload_n dX8_prepareMarks_122 rfl rfl ?_
          refine g_iast dX8_prepareMarks_123 rfl (by decide) ?_
          try simp only [Int.toNat_natCast]
          refine g_vret dX8_prepareMarks_124 rfl ?_
          refine ⟨rfl, ?_⟩
          unfold mF cF mkI
          first | simp only [if_pos (show M.1 6 o = 0 from h20)] | simp only [if_neg (show ¬ M.1 6 o = 0 from h20)]
          first | simp only [if_pos (show M.1 6 o = 5 from h45)] | simp only [if_neg (show ¬ M.1 6 o = 5 from h45)]
          first | simp only [if_pos (show M.1 8 o = 1 from h70)] | simp only [if_neg (show ¬ M.1 8 o = 1 from h70)]
          first | simp only [if_pos (show M.1 8 o = 2 from h95)] | simp only [if_neg (show ¬ M.1 8 o = 2 from h95)]
          try rfl
      · refine g_iload_n dX8_prepareMarks_73 rfl rfl ?_
        refine g_sipush dX8_prepareMarks_74 rfl ?_
        refine g_ior dX8_prepareMarks_77 ?_
        refine g_istore_n (ls' := [_, _, _, _]) dX8_prepareMarks_78 rfl (by decide) rfl ?_
        refine g_iload_n dX8_prepareMarks_79 rfl rfl ?_
        refine g_sipush dX8_prepareMarks_80 rfl ?_
        refine g_ior dX8_prepareMarks_83 ?_
        refine g_istore_n (ls' := [_, _, _, _]) dX8_prepareMarks_84 rfl (by decide) rfl ?_
        refine g_aload_n dX8_prepareMarks_85 rfl rfl ?_
        refine g_getr dX8_prepareMarks_86 fX8_40 rfl rfl ?_
        refine g_getr dX8_prepareMarks_89 fX8_92 rfl rfl ?_
        refine g_iload_n dX8_prepareMarks_92 rfl rfl ?_
        refine g_iald dX8_prepareMarks_93 rfl (by decide) ?_
        try simp only [Int.toNat_natCast]
        refine g_iconst dX8_prepareMarks_94 ?_
        refine g_icmp_ne (tgt := 110) dX8_prepareMarks_95 rfl (fun h95 => ?_) (fun h95 => ?_)
        · refine g_aload_n dX8_prepareMarks_110 rfl rfl ?_
          refine g_getr dX8_prepareMarks_111 fX8_18 rfl rfl ?_
          refine g_iload_n dX8_prepareMarks_114 rfl rfl ?_
          refine g_iload_n dX8_prepareMarks_115 rfl rfl ?_
          refine g_iast dX8_prepareMarks_116 rfl (by decide) ?_
          try simp only [Int.toNat_natCast]
          refine g_aload_n dX8_prepareMarks_117 rfl rfl ?_
          refine g_getr dX8_prepareMarks_118 fX8_21 rfl rfl ?_
          refine g_iload_n dX8_prepareMarks_121 rfl rfl ?_
          refine g_iload_n dX8_prepareMarks_122 rfl rfl ?_
          refine g_iast dX8_prepareMarks_123 rfl (by decide) ?_
          try simp only [Int.toNat_natCast]
          refine g_vret dX8_prepareMarks_124 rfl ?_
          refine ⟨rfl, ?_⟩
          unfold mF cF mkI
          first | simp only [if_pos (show M.1 6 o = 0 from h20)] | simp only [if_neg (show ¬ M.1 6 o = 0 from h20)]
          first | simp only [if_pos (show M.1 6 o = 5 from h45)] | simp only [if_neg (show ¬ M.1 6 o = 5 from h45)]
          first | simp only [if_pos (show M.1 8 o = 1 from h70)] | simp only [if_neg (show ¬ M.1 8 o = 1 from h70)]
          first | simp only [if_pos (show M.1 8 o = 2 from h95)] | simp only [if_neg (show ¬ M.1 8 o = 2 from h95)]
          try rfl
        · refine g_iload_n dX8_prepareMarks_98 rfl rfl ?_
          refine g_sipush dX8_prepareMarks_99 rfl ?_
          refine g_ior dX8_prepareMarks_102 ?_
          refine g_istore_n (ls' := [_, _, _, _]) dX8_prepareMarks_103 rfl (by decide) rfl ?_
          refine g_iload_n dX8_prepareMarks_104 rfl rfl ?_
          refine g_sipush dX8_prepareMarks_105 rfl ?_
          refine g_ior dX8_prepareMarks_108 ?_
          refine g_istore_n (ls' := [_, _, _, _]) dX8_prepareMarks_109 rfl (by decide) rfl ?_
          refine g_aload_n dX8_prepareMarks_110 rfl rfl ?_
          refine g_getr dX8_prepareMarks_111 fX8_18 rfl rfl ?_
          refine g_iload_n dX8_prepareMarks_114 rfl rfl ?_
          refine g_iload_n dX8_prepareMarks_115 rfl rfl ?_
          refine g_iast dX8_prepareMarks_116 rfl (by decide) ?_
          try simp only [Int.toNat_natCast]
          refine g_aload_n dX8_prepareMarks_117 rfl rfl ?_
          refine g_getr dX8_prepareMarks_118 fX8_21 rfl rfl ?_
          refine g_iload_n dX8_prepareMarks_121 rfl rfl ?_
          refine g_iload_n dX8_prepareMarks_122 rfl rfl ?_
          refine g_iast dX8_prepareMarks_123 rfl (by decide) ?_
          try simp only [Int.toNat_natCast]
          refine g_vret dX8_prepareMarks_124 rfl ?_
          refine ⟨rfl, ?_⟩
          unfold mF cF mkI
          first | simp only [if_pos (show M.1 6 o = 0 from h20)] | simp only [if_neg (show ¬ M.1 6 o = 0 from h20)]
          first | simp only [if_pos (show M.1 6 o = 5 from h45)] | simp only [if_neg (show ¬ M.1 6 o = 5 from h45)]
          first | simp only [if_pos (show M.1 8 o = 1 from h70)] | simp only [if_neg (show ¬ M.1 8 o = 1 from h70)]
          first | simp only [if_pos (show M.1 8 o = 2 from h95)] | simp only [if_neg (show ¬ M.1 8 o = 2 from h95)]
          try rfl
    · refine g_iload_n dX8_prepareMarks_48 rfl rfl ?_
      refine g_sipush dX8_prepareMarks_49 rfl ?_
      refine g_ior dX8_prepareMarks_52 ?_
      refine g_istore_n (ls' := [_, _, _, _]) dX8_prepareMarks_53 rfl (by decide) rfl ?_
      refine g_iload_n dX8_prepareMarks_54 rfl rfl ?_
      refine g_sipush dX8_prepareMarks_55 rfl ?_
      refine g_ior dX8_prepareMarks_58 ?_
      refine g_istore_n (ls' := [_, _, _, _]) dX8_prepareMarks_59 rfl (by decide) rfl ?_
      refine g_aload_n dX8_prepareMarks_60 rfl rfl ?_
      refine g_getr dX8_prepareMarks_61 fX8_40 rfl rfl ?_
      refine g_getr dX8_prepareMarks_64 fX8_92 rfl rfl ?_
      refine g_iload_n dX8_prepareMarks_67 rfl rfl ?_
      refine g_iald dX8_prepareMarks_68 rfl (by decide) ?_
      try simp only [Int.toNat_natCast]
      refine g_iconst dX8_prepareMarks_69 ?_
      refine g_icmp_ne (tgt := 85) dX8_prepareMarks_70 rfl (fun h70 => ?_) (fun h70 => ?_)
      · refine g_aload_n dX8_prepareMarks_85 rfl rfl ?_
        refine g_getr dX8_prepareMarks_86 fX8_40 rfl rfl ?_
        refine g_getr dX8_prepareMarks_89 fX8_92 rfl rfl ?_
        refine g_iload_n dX8_prepareMarks_92 rfl rfl ?_
        refine g_iald dX8_prepareMarks_93 rfl (by decide) ?_
        try simp only [Int.toNat_natCast]
        refine g_iconst dX8_prepareMarks_94 ?_
        refine g_icmp_ne (tgt := 110) dX8_prepareMarks_95 rfl (fun h95 => ?_) (fun h95 => ?_)
        · refine g_aload_n dX8_prepareMarks_110 rfl rfl ?_
          refine g_getr dX8_prepareMarks_111 fX8_18 rfl rfl ?_
          refine g_iload_n dX8_prepareMarks_114 rfl rfl ?_
          refine g_iload_n dX8_prepareMarks_115 rfl rfl ?_
          refine g_iast dX8_prepareMarks_116 rfl (by decide) ?_
          try simp only [Int.toNat_natCast]
          refine g_aload_n dX8_prepareMarks_117 rfl rfl ?_
          refine g_getr dX8_prepareMarks_118 fX8_21 rfl rfl ?_
          refine g_iload_n dX8_prepareMarks_121 rfl rfl ?_
          refine g_iload_n dX8_prepareMarks_122 rfl rfl ?_
          refine g_iast dX8_prepareMarks_123 rfl (by decide) ?_
          try simp only [Int.toNat_natCast]
          refine g_vret dX8_prepareMarks_124 rfl ?_
          refine ⟨rfl, ?_⟩
          unfold mF cF mkI
          first | simp only [if_pos (show M.1 6 o = 0 from h20)] | simp only [if_neg (show ¬ M.1 6 o = 0 from h20)]
          first | simp only [if_pos (show M.1 6 o = 5 from h45)] | simp only [if_neg (show ¬ M.1 6 o = 5 from h45)]
          first | simp only [if_pos (show M.1 8 o = 1 from h70)] | simp only [if_neg (show ¬ M.1 8 o = 1 from h70)]
          first | simp only [if_pos (show M.1 8 o = 2 from h95)] | simp only [if_neg (show ¬ M.1 8 o = 2 from h95)]
          try rfl
        · refine g_iload_n dX8_prepareMarks_98 rfl rfl ?_
          refine g_sipush dX8_prepareMarks_99 rfl ?_
          refine g_ior dX8_prepareMarks_102 ?_
          refine g_istore_n (ls' := [_, _, _, _]) dX8_prepareMarks_103 rfl (by decide) rfl ?_
          refine g_iload_n dX8_prepareMarks_104 rfl rfl ?_
          refine g_sipush dX8_prepareMarks_105 rfl ?_
          refine g_ior dX8_prepareMarks_108 ?_
          refine g_istore_n (ls' := [_, _, _, _]) dX8_prepareMarks_109 rfl (by decide) rfl ?_
          refine g_aload_n dX8_prepareMarks_110 rfl rfl ?_
          refine g_getr dX8_prepareMarks_111 fX8_18 rfl rfl ?_
          refine g_iload_n dX8_prepareMarks_114 rfl rfl ?_
          refine g_iload_n dX8_prepareMarks_115 rfl rfl ?_
          refine g_iast dX8_prepareMarks_116 rfl (by decide) ?_
          try simp only [Int.toNat_natCast]
          refine g_aload_n dX8_prepareMarks_117 rfl rfl ?_
          refine g_getr dX8_prepareMarks_118 fX8_21 rfl rfl ?_
          refine g_iload_n dX8_prepareMarks_121 rfl rfl ?_
          refine g_iload_n dX8_prepareMarks_122 rfl rfl ?_
          refine g_iast dX8_prepareMarks_123 rfl (by decide) ?_
          try simp only [Int.toNat_natCast]
          refine g_vret dX8_prepareMarks_124 rfl ?_
          refine ⟨rfl, ?_⟩
          unfold mF cF mkI
          first | simp only [if_pos (show M.1 6 o = 0 from h20)] | simp only [if_neg (show ¬ M.1 6 o = 0 from h20)]
          first | simp only [if_pos (show M.1 6 o = 5 from h45)] | simp only [if_neg (show ¬ M.1 6 o = 5 from h45)]
          first | simp only [if_pos (show M.1 8 o = 1 from h70)] | simp only [if_neg (show ¬ M.1 8 o = 1 from h70)]
          first | simp only [if_pos (show M.1 8 o = 2 from h95)] | simp only [if_neg (show ¬ M.1 8 o = 2 from h95)]
          try rfl
      · refine g_iload_n dX8_prepareMarks_73 rfl rfl ?_
        refine g_sipush dX8_prepareMarks_74 rfl ?_
        refine g_ior dX8_prepareMarks_77 ?_
        refine g_istore_n (ls' := [_, _, _, _]) dX8_prepareMarks_78 rfl (by decide) rfl ?_
        refine g_iload_n dX8_prepareMarks_79 rfl rfl ?_
        refine g_sipush dX8_prepareMarks_80 rfl ?_
        refine g_ior dX8_prepareMarks_83 ?_
        refine g_istore_n (ls' := [_, _, _, _]) dX8_prepareMarks_84 rfl (by decide) rfl ?_
        refine g_aload_n dX8_prepareMarks_85 rfl rfl ?_
        refine g_getr dX8_prepareMarks_86 fX8_40 rfl rfl ?_
        refine g_getr dX8_prepareMarks_89 fX8_92 rfl rfl ?_
        refine g_iload_n dX8_prepareMarks_92 rfl rfl ?_
        refine g_iald dX8_prepareMarks_93 rfl (by decide) ?_
        try simp only [Int.toNat_natCast]
        refine g_iconst dX8_prepareMarks_94 ?_
        refine g_icmp_ne (tgt := 110) dX8_prepareMarks_95 rfl (fun h95 => ?_) (fun h95 => ?_)
        · refine g_aload_n dX8_prepareMarks_110 rfl rfl ?_
          refine g_getr dX8_prepareMarks_111 fX8_18 rfl rfl ?_
          refine g_iload_n dX8_prepareMarks_114 rfl rfl ?_
          refine g_iload_n dX8_prepareMarks_115 rfl rfl ?_
          refine g_iast dX8_prepareMarks_116 rfl (by decide) ?_
          try simp only [Int.toNat_natCast]
          refine g_aload_n dX8_prepareMarks_117 rfl rfl ?_
          refine g_getr dX8_prepareMarks_118 fX8_21 rfl rfl ?_
          refine g_iload_n dX8_prepareMarks_121 rfl rfl ?_
          refine g_iload_n dX8_prepareMarks_122 rfl rfl ?_
          refine g_iast dX8_prepareMarks_123 rfl (by decide) ?_
          try simp only [Int.toNat_natCast]
          refine g_vret dX8_prepareMarks_124 rfl ?_
          refine ⟨rfl, ?_⟩
          unfold mF cF mkI
          first | simp only [if_pos (show M.1 6 o = 0 from h20)] | simp only [if_neg (show ¬ M.1 6 o = 0 from h20)]
          first | simp only [if_pos (show M.1 6 o = 5 from h45)] | simp only [if_neg (show ¬ M.1 6 o = 5 from h45)]
          first | simp only [if_pos (show M.1 8 o = 1 from h70)] | simp only [if_neg (show ¬ M.1 8 o = 1 from h70)]
          first | simp only [if_pos (show M.1 8 o = 2 from h95)] | simp only [if_neg (show ¬ M.1 8 o = 2 from h95)]
          try rfl
        · refine g_iload_n dX8_prepareMarks_98 rfl rfl ?_
          refine g_sipush dX8_prepareMarks_99 rfl ?_
          refine g_ior dX8_prepareMarks_102 ?_
          refine g_istore_n (ls' := [_, _, _, _]) dX8_prepareMarks_103 rfl (by decide) rfl ?_
          refine g_iload_n dX8_prepareMarks_104 rfl rfl ?_
          refine g_sipush dX8_prepareMarks_105 rfl ?_
          refine g_ior dX8_prepareMarks_108 ?_
          refine g_istore_n (ls' := [_, _, _, _]) dX8_prepareMarks_109 rfl (by decide) rfl ?_
          refine g_aload_n dX8_prepareMarks_110 rfl rfl ?_
          refine g_getr dX8_prepareMarks_111 fX8_18 rfl rfl ?_
          refine g_iload_n dX8_prepareMarks_114 rfl rfl ?_
          refine g_iload_n dX8_prepareMarks_115 rfl rfl ?_
          refine g_iast dX8_prepareMarks_116 rfl (by decide) ?_
          try simp only [Int.toNat_natCast]
          refine g_aload_n dX8_prepareMarks_117 rfl rfl ?_
          refine g_getr dX8_prepareMarks_118 fX8_21 rfl rfl ?_
          refine g_iload_n dX8_prepareMarks_121 rfl rfl ?_
          refine g_iload_n dX8_prepareMarks_122 rfl rfl ?_
          refine g_iast dX8_prepareMarks_123 rfl (by decide) ?_
          try simp only [Int.toNat_natCast]
          refine g_vret dX8_prepareMarks_124 rfl ?_
          refine ⟨rfl, ?_⟩
          unfold mF cF mkI
          first | simp only [if_pos (show M.1 6 o = 0 from h20)] | simp only [if_neg (show ¬ M.1 6 o = 0 from h20)]
          first | simp only [if_pos (show M.1 6 o = 5 from h45)] | simp only [if_neg (show ¬ M.1 6 o = 5 from h45)]
          first | simp only [if_pos (show M.1 8 o = 1 from h70)] | simp only [if_neg (show ¬ M.1 8 o = 1 from h70)]
          first | simp only [if_pos (show M.1 8 o = 2 from h95)] | simp only [if_neg (show ¬ M.1 8 o = 2 from h95)]
          try rfl
  · refine g_iload_n dX8_prepareMarks_23 rfl rfl ?_
    refine g_sipush dX8_prepareMarks_24 rfl ?_
    refine g_ior dX8_prepareMarks_27 ?_
    refine g_istore_n (ls' := [_, _, _, _]) dX8_prepareMarks_28 rfl (by decide) rfl ?_
    refine g_iload_n dX8_prepareMarks_29 rfl rfl ?_
    refine g_sipush dX8_prepareMarks_30 rfl ?_
    refine g_ior dX8_prepareMarks_33 ?_
    refine g_istore_n (ls' := [_, _, _, _]) dX8_prepareMarks_34 rfl (by decide) rfl ?_
    refine g_aload_n dX8_prepareMarks_35 rfl rfl ?_
    refine g_getr dX8_prepareMarks_36 fX8_40 rfl rfl ?_
    refine g_getr dX8_prepareMarks_39 fX8_71 rfl rfl ?_
    refine g_iload_n dX8_prepareMarks_42 rfl rfl ?_
    refine g_iald dX8_prepareMarks_43 rfl (by decide) ?_
    try simp only [Int.toNat_natCast]
    refine g_iconst dX8_prepareMarks_44 ?_
    refine g_icmp_ne (tgt := 60) dX8_prepareMarks_45 rfl (fun h45 => ?_) (fun h45 => ?_)
    · refine g_aload_n dX8_prepareMarks_60 rfl rfl ?_
      refine g_getr dX8_prepareMarks_61 fX8_40 rfl rfl ?_
      refine g_getr dX8_prepareMarks_64 fX8_92 rfl rfl ?_
      refine g_iload_n dX8_prepareMarks_67 rfl rfl ?_
      refine g_iald dX8_prepareMarks_68 rfl (by decide) ?_
      try simp only [Int.toNat_natCast]
      refine g_iconst dX8_prepareMarks_69 ?_
      refine g_icmp_ne (tgt := 85) dX8_prepareMarks_70 rfl (fun h70 => ?_) (fun h70 => ?_)
      · refine g_aload_n dX8_prepareMarks_85 rfl rfl ?_
        refine g_getr dX8_prepareMarks_86 fX8_40 rfl rfl ?_
        refine g_getr dX8_prepareMarks_89 fX8_92 rfl rfl ?_
        refine g_iload_n dX8_prepareMarks_92 rfl rfl ?_
        refine g_iald dX8_prepareMarks_93 rfl (by decide) ?_
        try simp only [Int.toNat_natCast]
        refine g_iconst dX8_prepareMarks_94 ?_
        refine g_icmp_ne (tgt := 110) dX8_prepareMarks_95 rfl (fun h95 => ?_) (fun h95 => ?_)
        · refine g_aload_n dX8_prepareMarks_110 rfl rfl ?_
          refine g_getr dX8_prepareMarks_111 fX8_18 rfl rfl ?_
          refine g_iload_n dX8_prepareMarks_114 rfl rfl ?_
          refine g_iload_n dX8_prepareMarks_115 rfl rfl ?_
          refine g_iast dX8_prepareMarks_116 rfl (by decide) ?_
          try simp only [Int.toNat_natCast]
          refine g_aload_n dX8_prepareMarks_117 rfl rfl ?_
          refine g_getr dX8_prepareMarks_118 fX8_21 rfl rfl ?_
          refine g_iload_n dX8_prepareMarks_121 rfl rfl ?_
          refine g_iload_n dX8_prepareMarks_122 rfl rfl ?_
          refine g_iast dX8_prepareMarks_123 rfl (by decide) ?_
          try simp only [Int.toNat_natCast]
          refine g_vret dX8_prepareMarks_124 rfl ?_
          refine ⟨rfl, ?_⟩
          unfold mF cF mkI
          first | simp only [if_pos (show M.1 6 o = 0 from h20)] | simp only [if_neg (show ¬ M.1 6 o = 0 from h20)]
          first | simp only [if_pos (show M.1 6 o = 5 from h45)] | simp only [if_neg (show ¬ M.1 6 o = 5 from h45)]
          first | simp only [if_pos (show M.1 8 o = 1 from h70)] | simp only [if_neg (show ¬ M.1 8 o = 1 from h70)]
          first | simp only [if_pos (show M.1 8 o = 2 from h95)] | simp only [if_neg (show ¬ M.1 8 o = 2 from h95)]
          try rfl
        · refine g_iload_n dX8_prepareMarks_98 rfl rfl ?_
          refine g_sipush dX8_prepareMarks_99 rfl ?_
          refine g_ior dX8_prepareMarks_102 ?_
          refine g_istore_n (ls' := [_, _, _, _]) dX8_prepareMarks_103 rfl (by decide) rfl ?_
          refine g_iload_n dX8_prepareMarks_104 rfl rfl ?_
          refine g_sipush dX8_prepareMarks_105 rfl ?_
          refine g_ior dX8_prepareMarks_108 ?_
          refine g_istore_n (ls' := [_, _, _, _]) dX8_prepareMarks_109 rfl (by decide) rfl ?_
          refine g_aload_n dX8_prepareMarks_110 rfl rfl ?_
          refine g_getr dX8_prepareMarks_111 fX8_18 rfl rfl ?_
          refine g_iload_n dX8_prepareMarks_114 rfl rfl ?_
          refine g_iload_n dX8_prepareMarks_115 rfl rfl ?_
          refine g_iast dX8_prepareMarks_116 rfl (by decide) ?_
          try simp only [Int.toNat_natCast]
          refine g_aload_n dX8_prepareMarks_117 rfl rfl ?_
          refine g_getr dX8_prepareMarks_118 fX8_21 rfl rfl ?_
          refine g_iload_n dX8_prepareMarks_121 rfl rfl ?_
          refine g_iload_n dX8_prepareMarks_122 rfl rfl ?_
          refine g_iast dX8_prepareMarks_123 rfl (by decide) ?_
          try simp only [Int.toNat_natCast]
          refine g_vret dX8_prepareMarks_124 rfl ?_
          refine ⟨rfl, ?_⟩
          unfold mF cF mkI
          first | simp only [if_pos (show M.1 6 o = 0 from h20)] | simp only [if_neg (show ¬ M.1 6 o = 0 from h20)]
          first | simp only [if_pos (show M.1 6 o = 5 from h45)] | simp only [if_neg (show ¬ M.1 6 o = 5 from h45)]
          first | simp only [if_pos (show M.1 8 o = 1 from h70)] | simp only [if_neg (show ¬ M.1 8 o = 1 from h70)]
          first | simp only [if_pos (show M.1 8 o = 2 from h95)] | simp only [if_neg (show ¬ M.1 8 o = 2 from h95)]
          try rfl
      · refine g_iload_n dX8_prepareMarks_73 rfl rfl ?_
        refine g_sipush dX8_prepareMarks_74 rfl ?_
        refine g_ior dX8_prepareMarks_77 ?_
        refine g_istore_n (ls' := [_, _, _, _]) dX8_prepareMarks_78 rfl (by decide) rfl ?_
        refine g_iload_n dX8_prepareMarks_79 rfl rfl ?_
        refine g_sipush dX8_prepareMarks_80 rfl ?_
        refine g_ior dX8_prepareMarks_83 ?_
        refine g_istore_n (ls' := [_, _, _, _]) dX8_prepareMarks_84 rfl (by decide) rfl ?_
        refine g_aload_n dX8_prepareMarks_85 rfl rfl ?_
        refine g_getr dX8_prepareMarks_86 fX8_40 rfl rfl ?_
        refine g_getr dX8_prepareMarks_89 fX8_92 rfl rfl ?_
        refine g_iload_n dX8_prepareMarks_92 rfl rfl ?_
        refine g_iald dX8_prepareMarks_93 rfl (by decide) ?_
        try simp only [Int.toNat_natCast]
        refine g_iconst dX8_prepareMarks_94 ?_
        refine g_icmp_ne (tgt := 110) dX8_prepareMarks_95 rfl (fun h95 => ?_) (fun h95 => ?_)
        · refine g_aload_n dX8_prepareMarks_110 rfl rfl ?_
          refine g_getr dX8_prepareMarks_111 fX8_18 rfl rfl ?_
          refine g_iload_n dX8_prepareMarks_114 rfl rfl ?_
          refine g_iload_n dX8_prepareMarks_115 rfl rfl ?_
          refine g_iast dX8_prepareMarks_116 rfl (by decide) ?_
          try simp only [Int.toNat_natCast]
          refine g_aload_n dX8_prepareMarks_117 rfl rfl ?_
          refine g_getr dX8_prepareMarks_118 fX8_21 rfl rfl ?_
          refine g_iload_n dX8_prepareMarks_121 rfl rfl ?_
          refine g_iload_n dX8_prepareMarks_122 rfl rfl ?_
          refine g_iast dX8_prepareMarks_123 rfl (by decide) ?_
          try simp only [Int.toNat_natCast]
          refine g_vret dX8_prepareMarks_124 rfl ?_
          refine ⟨rfl, ?_⟩
          unfold mF cF mkI
          first | simp only [if_pos (show M.1 6 o = 0 from h20)] | simp only [if_neg (show ¬ M.1 6 o = 0 from h20)]
          first | simp only [if_pos (show M.1 6 o = 5 from h45)] | simp only [if_neg (show ¬ M.1 6 o = 5 from h45)]
          first | simp only [if_pos (show M.1 8 o = 1 from h70)] | simp only [if_neg (show ¬ M.1 8 o = 1 from h70)]
          first | simp only [if_pos (show M.1 8 o = 2 from h95)] | simp only [if_neg (show ¬ M.1 8 o = 2 from h95)]
          try rfl
        · refine g_iload_n dX8_prepareMarks_98 rfl rfl ?_
          refine g_sipush dX8_prepareMarks_99 rfl ?_
          refine g_ior dX8_prepareMarks_102 ?_
          refine g_istore_n (ls' := [_, _, _, _]) dX8_prepareMarks_103 rfl (by decide) rfl ?_
          refine g_iload_n dX8_prepareMarks_104 rfl rfl ?_
          refine g_sipush dX8_prepareMarks_105 rfl ?_
          refine g_ior dX8_prepareMarks_108 ?_
          refine g_istore_n (ls' := [_, _, _, _]) dX8_prepareMarks_109 rfl (by decide) rfl ?_
          refine g_aload_n dX8_prepareMarks_110 rfl rfl ?_
          refine g_getr dX8_prepareMarks_111 fX8_18 rfl rfl ?_
          refine g_iload_n dX8_prepareMarks_114 rfl rfl ?_
          refine g_iload_n dX8_prepareMarks_115 rfl rfl ?_
          refine g_iast dX8_prepareMarks_116 rfl (by decide) ?_
          try simp only [Int.toNat_natCast]
          refine g_aload_n dX8_prepareMarks_117 rfl rfl ?_
          refine g_getr dX8_prepareMarks_118 fX8_21 rfl rfl ?_
          refine g_iload_n dX8_prepareMarks_121 rfl rfl ?_
          refine g_iload_n dX8_prepareMarks_122 rfl rfl ?_
          refine g_iast dX8_prepareMarks_123 rfl (by decide) ?_
          try simp only [Int.toNat_natCast]
          refine g_vret dX8_prepareMarks_124 rfl ?_
          refine ⟨rfl, ?_⟩
          unfold mF cF mkI
          first | simp only [if_pos (show M.1 6 o = 0 from h20)] | simp only [if_neg (show ¬ M.1 6 o = 0 from h20)]
          first | simp only [if_pos (show M.1 6 o = 5 from h45)] | simp only [if_neg (show ¬ M.1 6 o = 5 from h45)]
          first | simp only [if_pos (show M.1 8 o = 1 from h70)] | simp only [if_neg (show ¬ M.1 8 o = 1 from h70)]
          first | simp only [if_pos (show M.1 8 o = 2 from h95)] | simp only [if_neg (show ¬ M.1 8 o = 2 from h95)]
          try rfl
    · refine g_iload_n dX8_prepareMarks_48 rfl rfl ?_
      refine g_sipush dX8_prepareMarks_49 rfl ?_
      refine g_ior dX8_prepareMarks_52 ?_
      refine g_istore_n (ls' := [_, _, _, _]) dX8_prepareMarks_53 rfl (by decide) rfl ?_
      refine g_iload_n dX8_prepareMarks_54 rfl rfl ?_
      refine g_sipush dX8_prepareMarks_55 rfl ?_
      refine g_ior dX8_prepareMarks_58 ?_
      refine g_istore_n (ls' := [_, _, _, _]) dX8_prepareMarks_59 rfl (by decide) rfl ?_
      refine g_aload_n dX8_prepareMarks_60 rfl rfl ?_
      refine g_getr dX8_prepareMarks_61 fX8_40 rfl rfl ?_
      refine g_getr dX8_prepareMarks_64 fX8_92 rfl rfl ?_
      refine g_iload_n dX8_prepareMarks_67 rfl rfl ?_
      refine g_iald dX8_prepareMarks_68 rfl (by decide) ?_
      try simp only [Int.toNat_natCast]
      refine g_iconst dX8_prepareMarks_69 ?_
      refine g_icmp_ne (tgt := 85) dX8_prepareMarks_70 rfl (fun h70 => ?_) (fun h70 => ?_)
      · refine g_aload_n dX8_prepareMarks_85 rfl rfl ?_
        refine g_getr dX8_prepareMarks_86 fX8_40 rfl rfl ?_
        refine g_getr dX8_prepareMarks_89 fX8_92 rfl rfl ?_
        refine g_iload_n dX8_prepareMarks_92 rfl rfl ?_
        refine g_iald dX8_prepareMarks_93 rfl (by decide) ?_
        try simp only [Int.toNat_natCast]
        refine g_iconst dX8_prepareMarks_94 ?_
        refine g_icmp_ne (tgt := 110) dX8_prepareMarks_95 rfl (fun h95 => ?_) (fun h95 => ?_)
        · refine g_aload_n dX8_prepareMarks_110 rfl rfl ?_
          refine g_getr dX8_prepareMarks_111 fX8_18 rfl rfl ?_
          refine g_iload_n dX8_prepareMarks_114 rfl rfl ?_
          refine g_iload_n dX8_prepareMarks_115 rfl rfl ?_
          refine g_iast dX8_prepareMarks_116 rfl (by decide) ?_
          try simp only [Int.toNat_natCast]
          refine g_aload_n dX8_prepareMarks_117 rfl rfl ?_
          refine g_getr dX8_prepareMarks_118 fX8_21 rfl rfl ?_
          refine g_iload_n dX8_prepareMarks_121 rfl rfl ?_
          refine g_iload_n dX8_prepareMarks_122 rfl rfl ?_
          refine g_iast dX8_prepareMarks_123 rfl (by decide) ?_
          try simp only [Int.toNat_natCast]
          refine g_vret dX8_prepareMarks_124 rfl ?_
          refine ⟨rfl, ?_⟩
          unfold mF cF mkI
          first | simp only [if_pos (show M.1 6 o = 0 from h20)] | simp only [if_neg (show ¬ M.1 6 o = 0 from h20)]
          first | simp only [if_pos (show M.1 6 o = 5 from h45)] | simp only [if_neg (show ¬ M.1 6 o = 5 from h45)]
          first | simp only [if_pos (show M.1 8 o = 1 from h70)] | simp only [if_neg (show ¬ M.1 8 o = 1 from h70)]
          first | simp only [if_pos (show M.1 8 o = 2 from h95)] | simp only [if_neg (show ¬ M.1 8 o = 2 from h95)]
          try rfl
        · refine g_iload_n dX8_prepareMarks_98 rfl rfl ?_
          refine g_sipush dX8_prepareMarks_99 rfl ?_
          refine g_ior dX8_prepareMarks_102 ?_
          refine g_istore_n (ls' := [_, _, _, _]) dX8_prepareMarks_103 rfl (by decide) rfl ?_
          refine g_iload_n dX8_prepareMarks_104 rfl rfl ?_
          refine g_sipush dX8_prepareMarks_105 rfl ?_
          refine g_ior dX8_prepareMarks_108 ?_
          refine g_istore_n (ls' := [_, _, _, _]) dX8_prepareMarks_109 rfl (by decide) rfl ?_
          refine g_aload_n dX8_prepareMarks_110 rfl rfl ?_
          refine g_getr dX8_prepareMarks_111 fX8_18 rfl rfl ?_
          refine g_iload_n dX8_prepareMarks_114 rfl rfl ?_
          refine g_iload_n dX8_prepareMarks_115 rfl rfl ?_
          refine g_iast dX8_prepareMarks_116 rfl (by decide) ?_
          try simp only [Int.toNat_natCast]
          refine g_aload_n dX8_prepareMarks_117 rfl rfl ?_
          refine g_getr dX8_prepareMarks_118 fX8_21 rfl rfl ?_
          refine g_iload_n dX8_prepareMarks_121 rfl rfl ?_
          refine g_iload_n dX8_prepareMarks_122 rfl rfl ?_
          refine g_iast dX8_prepareMarks_123 rfl (by decide) ?_
          try simp only [Int.toNat_natCast]
          refine g_vret dX8_prepareMarks_124 rfl ?_
          refine ⟨rfl, ?_⟩
          unfold mF cF mkI
          first | simp only [if_pos (show M.1 6 o = 0 from h20)] | simp only [if_neg (show ¬ M.1 6 o = 0 from h20)]
          first | simp only [if_pos (show M.1 6 o = 5 from h45)] | simp only [if_neg (show ¬ M.1 6 o = 5 from h45)]
          first | simp only [if_pos (show M.1 8 o = 1 from h70)] | simp only [if_neg (show ¬ M.1 8 o = 1 from h70)]
          first | simp only [if_pos (show M.1 8 o = 2 from h95)] | simp only [if_neg (show ¬ M.1 8 o = 2 from h95)]
          try rfl
      · refine g_iload_n dX8_prepareMarks_73 rfl rfl ?_
        refine g_sipush dX8_prepareMarks_74 rfl ?_
        refine g_ior dX8_prepareMarks_77 ?_
        refine g_istore_n (ls' := [_, _, _, _]) dX8_prepareMarks_78 rfl (by decide) rfl ?_
        refine g_iload_n dX8_prepareMarks_79 rfl rfl ?_
        refine g_sipush dX8_prepareMarks_80 rfl ?_
        refine g_ior dX8_prepareMarks_83 ?_
        refine g_istore_n (ls' := [_, _, _, _]) dX8_prepareMarks_84 rfl (by decide) rfl ?_
        refine g_aload_n dX8_prepareMarks_85 rfl rfl ?_
        refine g_getr dX8_prepareMarks_86 fX8_40 rfl rfl ?_
        refine g_getr dX8_prepareMarks_89 fX8_92 rfl rfl ?_
        refine g_iload_n dX8_prepareMarks_92 rfl rfl ?_
        refine g_iald dX8_prepareMarks_93 rfl (by decide) ?_
        try simp only [Int.toNat_natCast]
        refine g_iconst dX8_prepareMarks_94 ?_
        refine g_icmp_ne (tgt := 110) dX8_prepareMarks_95 rfl (fun h95 => ?_) (fun h95 => ?_)
        · refine g_aload_n dX8_prepareMarks_110 rfl rfl ?_
          refine g_getr dX8_prepareMarks_111 fX8_18 rfl rfl ?_
          refine g_iload_n dX8_prepareMarks_114 rfl rfl ?_
          refine g_iload_n dX8_prepareMarks_115 rfl rfl ?_
          refine g_iast dX8_prepareMarks_116 rfl (by decide) ?_
          try simp only [Int.toNat_natCast]
          refine g_aload_n dX8_prepareMarks_117 rfl rfl ?_
          refine g_getr dX8_prepareMarks_118 fX8_21 rfl rfl ?_
          refine g_iload_n dX8_prepareMarks_121 rfl rfl ?_
          refine g_iload_n dX8_prepareMarks_122 rfl rfl ?_
          refine g_iast dX8_prepareMarks_123 rfl (by decide) ?_
          try simp only [Int.toNat_natCast]
          refine g_vret dX8_prepareMarks_124 rfl ?_
          refine ⟨rfl, ?_⟩
          unfold mF cF mkI
          first | simp only [if_pos (show M.1 6 o = 0 from h20)] | simp only [if_neg (show ¬ M.1 6 o = 0 from h20)]
          first | simp only [if_pos (show M.1 6 o = 5 from h45)] | simp only [if_neg (show ¬ M.1 6 o = 5 from h45)]
          first | simp only [if_pos (show M.1 8 o = 1 from h70)] | simp only [if_neg (show ¬ M.1 8 o = 1 from h70)]
          first | simp only [if_pos (show M.1 8 o = 2 from h95)] | simp only [if_neg (show ¬ M.1 8 o = 2 from h95)]
          try rfl
        · refine g_iload_n dX8_prepareMarks_98 rfl rfl ?_
          refine g_sipush dX8_prepareMarks_99 rfl ?_
          refine g_ior dX8_prepareMarks_102 ?_
          refine g_istore_n (ls' := [_, _, _, _]) dX8_prepareMarks_103 rfl (by decide) rfl ?_
          refine g_iload_n dX8_prepareMarks_104 rfl rfl ?_
          refine g_sipush dX8_prepareMarks_105 rfl ?_
          refine g_ior dX8_prepareMarks_108 ?_
          refine g_istore_n (ls' := [_, _, _, _]) dX8_prepareMarks_109 rfl (by decide) rfl ?_
          refine g_aload_n dX8_prepareMarks_110 rfl rfl ?_
          refine g_getr dX8_prepareMarks_111 fX8_18 rfl rfl ?_
          refine g_iload_n dX8_prepareMarks_114 rfl rfl ?_
          refine g_iload_n dX8_prepareMarks_115 rfl rfl ?_
          refine g_iast dX8_prepareMarks_116 rfl (by decide) ?_
          try simp only [Int.toNat_natCast]
          refine g_aload_n dX8_prepareMarks_117 rfl rfl ?_
          refine g_getr dX8_prepareMarks_118 fX8_21 rfl rfl ?_
          refine g_iload_n dX8_prepareMarks_121 rfl rfl ?_
          refine g_iload_n dX8_prepareMarks_122 rfl rfl ?_
          refine g_iast dX8_prepareMarks_123 rfl (by decide) ?_
          try simp only [Int.toNat_natCast]
          refine g_vret dX8_prepareMarks_124 rfl ?_
          refine ⟨rfl, ?_⟩
          unfold mF cF mkI
          first | simp only [if_pos (show M.1 6 o = 0 from h20)] | simp only [if_neg (show ¬ M.1 6 o = 0 from h20)]
          first | simp only [if_pos (show M.1 6 o = 5 from h45)] | simp only [if_neg (show ¬ M.1 6 o = 5 from h45)]
          first | simp only [if_pos (show M.1 8 o = 1 from h70)] | simp only [if_neg (show ¬ M.1 8 o = 1 from h70)]
          first | simp only [if_pos (show M.1 8 o = 2 from h95)] | simp only [if_neg (show ¬ M.1 8 o = 2 from h95)]
          try rfl

theorem w_X8_prepareDistances {d : Nat} {M : Mem} {o : Nat} (ho : o < 14) (hn : ∀ p, p ≤ o → NameOK (M.2 11 p)) (hal : ∀ j : Nat, M.1 14 j = 0 ∨ M.1 14 j = 1) : WP wdC (d + 2) mX8_prepareDistances [vr 16, vi o] M (fun v M' => v = none ∧ (∀ p, p ≠ 15 → p ≠ 23 → M'.1 p = M.1 p ∧ M'.2 p = M.2 p) ∧ (∀ p, p < o → M'.1 23 (o * 14 + p) = apF M o p) ∧ ∀ a b, b < a → a < o → M'.1 23 (a * 14 + b) = M.1 23 (a * 14 + b)) := by
  refine wp_of (by decide +kernel) (Nat.le_of_ble_eq_true rfl) ?_
  have loop : ∀ n' i : Nat, i + n' = o → ∀ (M1 : Mem) (x3 : Option AV), (∀ p, p ≠ 15 → p ≠ 23 → M1.1 p = M.1 p ∧ M1.2 p = M.2 p) → (∀ p, p < i → M1.1 23 (o * 14 + p) = apF M o p) → (∀ a b, b < a → a < o → M1.1 23 (a * 14 + b) = M.1 23 (a * 14 + b)) → G wdC mX8_prepareDistances (d + 2) (fun v M' => v = none ∧ (∀ p, p ≠ 15 → p ≠ 23 → M'.1 p = M.1 p ∧ M'.2 p = M.2 p) ∧ (∀ p, p < o → M'.1 23 (o * 14 + p) = apF M o p) ∧ ∀ a b, b < a → a < o → M'.1 23 (a * 14 + b) = M.1 23 (a * 14 + b)) 2 [some (vr 16), some (vi o), some (vi i), x3] [] M1 := by
    intro n'
    induction n' with
    | zero =>
      intro i hi M1 x3 h1 h2 h3
      have hi : i = o := by omega
      subst hi
      refine g_iload_n dX8_prepareDistances_2 rfl rfl ?_
      refine g_iload_n dX8_prepareDistances_3 rfl rfl ?_
      refine g_icmp_ge (tgt := 63) dX8_prepareDistances_4 rfl (fun h4 => ?_) (fun h4 => ?_)
      · refine g_vret dX8_prepareDistances_63 rfl ?_
        exact ⟨rfl, h1, h2, h3⟩
      · exfalso; omega
    | succ n' ih =>
      intro i hi M1 x3 h1 h2 h3
      have hA : M1.1 14 = M.1 14 := (h1 _ (by decide) (by decide)).1
      have hNm : M1.2 11 = M.2 11 := (h1 _ (by decide) (by decide)).2
      refine g_iload_n dX8_prepareDistances_2 rfl rfl ?_
      refine g_iload_n dX8_prepareDistances_3 rfl rfl ?_
      refine g_icmp_ge (tgt := 63) dX8_prepareDistances_4 rfl (fun h4 => ?_) (fun h4 => ?_)
      · exfalso; omega
      · refine g_aload_n dX8_prepareDistances_7 rfl rfl ?_
        refine g_getr dX8_prepareDistances_8 fX8_48 rfl rfl ?_
        refine g_aload_n dX8_prepareDistances_11 rfl rfl ?_
        refine g_getr dX8_prepareDistances_12 fX8_40 rfl rfl ?_
        refine g_getr dX8_prepareDistances_15 fX8_95 rfl rfl ?_
        refine g_iload_n dX8_prepareDistances_18 rfl rfl ?_
        refine g_lald dX8_prepareDistances_19 rfl (by decide) ?_
        try simp only [Int.toNat_natCast]
        refine g_aload_n dX8_prepareDistances_20 rfl rfl ?_
        refine g_getr dX8_prepareDistances_21 fX8_40 rfl rfl ?_
        refine g_getr dX8_prepareDistances_24 fX8_95 rfl rfl ?_
        refine g_iload_n dX8_prepareDistances_27 rfl rfl ?_
        refine g_lald dX8_prepareDistances_28 rfl (by decide) ?_
        try simp only [Int.toNat_natCast]
        refine g_callV dX8_prepareDistances_29 lX8_99 (w_X1_distance (by rw [hNm]; exact hn o (Nat.le_refl _)) (by rw [hNm]; exact hn i (by omega)) (by rw [hA]; exact hal)) rfl rfl rfl rfl (Nat.le_of_ble_eq_true rfl) ?_
        rintro v M2 ⟨rfl, hF⟩
        show G _ _ _ _ _ _ [vi _] M2
        refine g_istore_n (ls' := [_, _, _, _]) dX8_prepareDistances_32 rfl (by decide) rfl ?_
        refine g_aload_n dX8_prepareDistances_33 rfl rfl ?_
        refine g_getr dX8_prepareDistances_34 fX8_30 rfl rfl ?_
        refine g_iload_n dX8_prepareDistances_37 rfl rfl ?_
        refine g_bipush dX8_prepareDistances_38 rfl ?_
        refine g_imul dX8_prepareDistances_40 ?_
        refine g_iload_n dX8_prepareDistances_41 rfl rfl ?_
        refine g_iadd dX8_prepareDistances_42 ?_
        refine g_iload_n dX8_prepareDistances_43 rfl rfl ?_
        refine g_iast dX8_prepareDistances_44 rfl (by decide) ?_
        try simp only [Int.toNat_natCast]
        refine g_aload_n dX8_prepareDistances_45 rfl rfl ?_
        refine g_getr dX8_prepareDistances_46 fX8_30 rfl rfl ?_
        refine g_iload_n dX8_prepareDistances_49 rfl rfl ?_
        refine g_bipush dX8_prepareDistances_50 rfl ?_
        refine g_imul dX8_prepareDistances_52 ?_
        refine g_iload_n dX8_prepareDistances_53 rfl rfl ?_
        refine g_iadd dX8_prepareDistances_54 ?_
        refine g_iload_n dX8_prepareDistances_55 rfl rfl ?_
        refine g_iast dX8_prepareDistances_56 rfl (by decide) ?_
        try simp only [Int.toNat_natCast]
        refine g_iinc (ls' := [_, _, _, _]) dX8_prepareDistances_57 rfl rfl ?_
        refine g_goto (tgt := 2) dX8_prepareDistances_60 rfl ?_
        have hd : distC (M1.1 14) (M1.2 11 o) (M1.2 11 i) = apF M o i := by rw [hA, hNm]; rfl
        rw [hd]
        have e1 : ((o : Int) * 14 + i).toNat = o * 14 + i := by omega
        have e2 : ((i : Int) * 14 + o).toNat = i * 14 + o := by omega
        rw [e1, e2]
        have hap : M2.1 23 = M1.1 23 := (hF _ (Or.inr (by decide))).1
        refine ih (i + 1) (by omega) _ _ (fun p hp hq => ?_) (fun p hp => ?_) (fun a b hab hao => ?_)
        · have g := hF p (by omega)
          have g2 := h1 p hp hq
          rw [si_1 _ _ _ _ _ hq, si_1 _ _ _ _ _ hq, si_J, si_J]
          exact ⟨g.1.trans g2.1, g.2.trans g2.2⟩
        · rw [sil, if_neg (by omega), sil]
          by_cases hpi : p = i
          · subst hpi; rw [if_pos ⟨rfl, rfl⟩]
          · rw [if_neg (by omega), hap]; exact h2 p (by omega)
        · rw [sil, if_neg (by omega), sil, if_neg (by omega), hap]
          exact h3 a b hab hao
  refine g_iconst dX8_prepareDistances_0 ?_
  refine g_istore_n (ls' := [_, _, _, _]) dX8_prepareDistances_1 rfl (by decide) rfl ?_
  exact loop o 0 (by omega) M _ (fun _ _ _ => ⟨rfl, rfl⟩) (fun p hp => absurd hp (by omega)) (fun _ _ _ _ => rfl)

theorem w_X8_prepare {d : Nat} {M : Mem} (hw : Wf M) : WP wdC (d + 3) mX8_prepare [vr 16] M (fun v M' => v = none ∧ Fr 15 24 M M' ∧ Tab M') := by
  refine wp_of (by decide +kernel) (Nat.le_of_ble_eq_true rfl) ?_
  obtain ⟨⟨hR0, hR8, hN0, hN14⟩, hwR, hwO, hwC, hwD, hwV, hwL⟩ := id hw
  have loop : ∀ n' i : Nat, i + n' = nN M → ∀ (M1 : Mem), Fr 15 24 M M1 → (∀ o, o < i → TabO M M1 o) → M1.1 16 10 = M.1 12 5 → M1.1 16 11 = M.1 12 6 → G wdC mX8_prepare (d + 3) (fun v M' => v = none ∧ Fr 15 24 M M' ∧ Tab M') 24 [some (vr 16), some (vi i)] [] M1 := by
    intro n'
    induction n' with
    | zero =>
      intro i hi M1 hF h1 h2 h3
      unfold nN at hi
      have hN : M1.1 1 11 = M.1 1 11 := by rw [(hF 1 (by decide)).1]
      have hfin : Tab M1 := by
        refine ⟨fun o ho => ?_, ?_, ?_⟩
        · obtain ⟨a1, a2, a3, a4, a5, a6, a7⟩ := h1 o (by omega)
          have e := fun p => F_dat (hF.dat (by decide)) o p
          refine ⟨by rw [a1, (e 0).1], by rw [a2, (e 0).2.1], by rw [a3, (e 0).2.2.1], by rw [a4, (e 0).2.2.2.1], by rw [a5, (e 0).2.2.2.2.1], by rw [a6, (e 0).2.2.2.2.2.1], fun p hp => by rw [a7 p hp, (e p).2.2.2.2.2.2]⟩
        · rw [h2, (hF 12 (by decide)).1]
        · rw [h3, (hF 12 (by decide)).1]
      refine g_iload_n dX8_prepare_24 rfl rfl ?_
      refine g_aload_n dX8_prepare_25 rfl rfl ?_
      refine g_getr dX8_prepare_26 fX8_40 rfl rfl ?_
      refine g_get dX8_prepare_29 fX8_56 rfl rfl ?_
      refine g_icmp_ge (tgt := 62) dX8_prepare_32 rfl (fun h32 => ?_) (fun h32 => ?_)
      · refine g_vret dX8_prepare_62 rfl ?_
        exact ⟨rfl, hF, hfin⟩
      · exfalso; omega
    | succ n' ih =>
      intro i hi M1 hF h1 h2 h3
      unfold nN at hi
      have hN : M1.1 1 11 = M.1 1 11 := by rw [(hF 1 (by decide)).1]
      obtain ⟨⟨gR0, gR8, gN0, gN14⟩, gR, gO, gC, gD, gV, gL⟩ := hw.dat (hF.dat (by decide))
      have hv := gV i (by omega)
      refine g_iload_n dX8_prepare_24 rfl rfl ?_
      refine g_aload_n dX8_prepare_25 rfl rfl ?_
      refine g_getr dX8_prepare_26 fX8_40 rfl rfl ?_
      refine g_get dX8_prepare_29 fX8_56 rfl rfl ?_
      refine g_icmp_ge (tgt := 62) dX8_prepare_32 rfl (fun h32 => ?_) (fun h32 => ?_)
      · exfalso; omega
      · refine g_iload_n dX8_prepare_35 rfl rfl ?_
        refine g_bipush dX8_prepare_36 rfl ?_
        refine g_icmp_ge (tgt := 62) dX8_prepare_38 rfl (fun h38 => ?_) (fun h38 => ?_)
        · exfalso; omega
        · refine g_aload_n dX8_prepare_41 rfl rfl ?_
          refine g_iload_n dX8_prepare_42 rfl rfl ?_
          refine g_callVr dX8_prepare_43 lX8_61 (w_X8_prepareYears (by omega) (by omega) (by omega) (by omega) (by omega) (by omega) (by omega)) rfl rfl rfl rfl (Nat.le_of_ble_eq_true rfl) ?_
          refine g_aload_n dX8_prepare_46 rfl rfl ?_
          refine g_iload_n dX8_prepare_47 rfl rfl ?_
          refine g_callVr dX8_prepare_48 lX8_65 (w_X8_prepareMarks (M := si (si (si (si M1 17 i (eF M1 i)) 18 i (lF M1 i)) 21 i (alF M1 i)) 22 i (deF M1 i)) (show (i : Int) < M1.1 1 11 by omega) gR0 gR8 gN0 gN14 (show 0 ≤ M1.1 6 i by omega) (show M1.1 6 i ≤ 7 by omega) (show 0 ≤ M1.1 8 i by omega) (show M1.1 8 i ≤ 2 by omega)) rfl rfl rfl rfl (Nat.le_of_ble_eq_true rfl) ?_
          refine g_aload_n dX8_prepare_51 rfl rfl ?_
          refine g_iload_n dX8_prepare_52 rfl rfl ?_
          refine g_callV dX8_prepare_53 lX8_68 (w_X8_prepareDistances (by omega) (fun p hp => (gV p (by omega)).2.2.2.2.2.2.2.2) gL.2.2) rfl rfl rfl rfl (Nat.le_of_ble_eq_true rfl) ?_
          rintro v M2 ⟨rfl, hq, hap, hol⟩
          show G _ _ _ _ _ _ [] M2
          refine g_iinc (ls' := [_, _]) dX8_prepare_56 rfl rfl ?_
          refine g_goto (tgt := 24) dX8_prepare_59 rfl ?_
          have e := fun p => F_dat (hF.dat (by decide)) i p
          have r1 : ∀ p, p ≠ 15 → p ≠ 23 → p ≠ 17 → p ≠ 18 → p ≠ 21 → p ≠ 22 → p ≠ 19 → p ≠ 20 → M2.1 p = M1.1 p ∧ M2.2 p = M1.2 p := fun p a1 a2 a3 a4 a5 a6 a7 a8 => by
            have g := hq p a1 a2
            rw [g.1, g.2, si_1 _ _ _ _ _ a8, si_1 _ _ _ _ _ a7, si_1 _ _ _ _ _ a6, si_1 _ _ _ _ _ a5, si_1 _ _ _ _ _ a4, si_1 _ _ _ _ _ a3]
            exact ⟨rfl, rfl⟩
          have q17 : ∀ j, M2.1 17 j = if j = i then eF M1 i else M1.1 17 j := fun j => by
            rw [(hq 17 (by decide) (by decide)).1]
            simp only [sil, sjl]
            simp
          have q18 : ∀ j, M2.1 18 j = if j = i then lF M1 i else M1.1 18 j := fun j => by
            rw [(hq 18 (by decide) (by decide)).1]
            simp only [sil, sjl]
            simp
          have q19 : ∀ j, M2.1 19 j = if j = i then mF M1 i else M1.1 19 j := fun j => by
            rw [(hq 19 (by decide) (by decide)).1]
            simp only [sil, sjl]
            simp
            rfl
          have q20 : ∀ j, M2.1 20 j = if j = i then cF M1 i else M1.1 20 j := fun j => by
            rw [(hq 20 (by decide) (by decide)).1]
            simp only [sil, sjl]
            simp
            rfl
          have q21 : ∀ j, M2.1 21 j = if j = i then alF M1 i else M1.1 21 j := fun j => by
            rw [(hq 21 (by decide) (by decide)).1]
            simp only [sil, sjl]
            simp
          have q22 : ∀ j, M2.1 22 j = if j = i then deF M1 i else M1.1 22 j := fun j => by
            rw [(hq 22 (by decide) (by decide)).1]
            simp only [sil, sjl]
            simp
          have q23 : ∀ a b, b < a → a < i → M2.1 23 (a * 14 + b) = M1.1 23 (a * 14 + b) := fun a b h h' => by
            rw [hol a b h h']
            rfl
          refine ih (i + 1) (by unfold nN; omega) M2 (fun p hp => ?_) (fun o ho => ?_) ?_ ?_
          · have g := r1 p (by omega) (by omega) (by omega) (by omega) (by omega) (by omega) (by omega) (by omega)
            have g2 := hF p hp
            exact ⟨g.1.trans g2.1, g.2.trans g2.2⟩
          · by_cases hoi : o = i
            · subst hoi
              refine ⟨by rw [q17, if_pos rfl, (e 0).1], by rw [q18, if_pos rfl, (e 0).2.1], by rw [q19, if_pos rfl, (e 0).2.2.1], by rw [q20, if_pos rfl, (e 0).2.2.2.1], by rw [q21, if_pos rfl, (e 0).2.2.2.2.1], by rw [q22, if_pos rfl, (e 0).2.2.2.2.2.1], fun p hp => ?_⟩
              rw [hap p hp]
              exact (e p).2.2.2.2.2.2
            · obtain ⟨b1, b2, b3, b4, b5, b6, b7⟩ := h1 o (by omega)
              exact ⟨by rw [q17, if_neg hoi, b1], by rw [q18, if_neg hoi, b2], by rw [q19, if_neg hoi, b3], by rw [q20, if_neg hoi, b4], by rw [q21, if_neg hoi, b5], by rw [q22, if_neg hoi, b6], fun p hp => by rw [q23 o p hp (by omega), b7 p hp]⟩
          · rw [(r1 16 (by decide) (by decide) (by decide) (by decide) (by decide) (by decide) (by decide) (by decide)).1, h2]
          · rw [(r1 16 (by decide) (by decide) (by decide) (by decide) (by decide) (by decide) (by decide) (by decide)).1, h3]
  refine g_aload_n dX8_prepare_0 rfl rfl ?_
  refine g_aload_n dX8_prepare_1 rfl rfl ?_
  refine g_getr dX8_prepare_2 fX8_44 rfl rfl ?_
  refine g_get dX8_prepare_5 fX8_52 rfl rfl ?_
  refine g_puti dX8_prepare_8 fX8_33 rfl rfl rfl (tyX8_ok 10 (by decide)) ?_
  refine g_aload_n dX8_prepare_11 rfl rfl ?_
  refine g_aload_n dX8_prepare_12 rfl rfl ?_
  refine g_getr dX8_prepare_13 fX8_44 rfl rfl ?_
  refine g_get dX8_prepare_16 fX8_55 rfl rfl ?_
  try simp only [sil, sjl, eq_self, false_and, and_false, true_and, and_true, if_false, if_true, reduceIte]
  refine g_puti dX8_prepare_19 fX8_37 rfl rfl rfl (tyX8_ok 11 (by decide)) ?_
  refine g_iconst dX8_prepare_22 ?_
  refine g_istore_n (ls' := [_, _]) dX8_prepare_23 rfl (by decide) rfl ?_
  exact loop (nN M) 0 (by omega) _ ((Fr.rf.si _ _ _).si _ _ _) (fun o ho => absurd ho (by omega)) rfl rfl

