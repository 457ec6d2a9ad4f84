/-! MODULE 29: the reference's book against the class's; a role's years. -/
def DRb (D M : Mem) : Prop := M.1 0 12 = D.1 1 10 ∧ M.1 0 13 = D.1 1 11 ∧ (∀ r : Nat, (r : Int) < D.1 1 10 → M.1 2 r = D.1 2 r ∧ M.1 3 r = D.1 4 r ∧ 0 ≤ M.1 1 r ∧ M.1 1 r ≤ 3000 ∧ 0 ≤ M.1 4 r ∧ M.1 4 r ≤ 4) ∧ M.1 2 (nR D) = D.1 1 11
def DRo (D M : Mem) : Prop := ∀ o : Nat, (o : Int) < D.1 1 11 → M.1 5 o = D.1 5 o ∧ M.1 6 o = D.1 8 o ∧ M.1 7 o = D.1 9 o ∧ M.1 8 o = D.1 6 o ∧ M.1 9 o = D.1 10 o ∧ M.2 11 o = D.2 11 o ∧ M.1 1 (D.1 5 o).toNat = D.1 7 o
def DRl (D M : Mem) : Prop := M.1 0 16 = D.1 12 0 ∧ M.1 0 17 = D.1 12 1 ∧ M.1 0 18 = D.1 12 2 ∧ M.1 0 19 = D.1 12 3 ∧ M.1 0 20 = D.1 12 4 ∧ M.1 0 14 = D.1 12 5 ∧ M.1 0 15 = D.1 12 6 ∧ AlR (M.1 12) (D.1 14)
def DR (D M : Mem) : Prop := DRb D M ∧ DRo D M ∧ DRl D M
/-- the kind of a record -/
def DRk (D M : Mem) : Prop := ∀ r : Nat, (r : Int) < D.1 1 10 → D.1 4 r = -1 → (M.1 4 r = 0 ↔ D.1 3 r = 3 ∧ D.1 6 (D.1 2 r).toNat = 0)
/-- the same book -/
def MDat (M M1 : Mem) : Prop := (∀ k, 12 ≤ k → k ≤ 20 → M1.1 0 k = M.1 0 k) ∧ ∀ p, 1 ≤ p → p < 13 → p ≠ 10 → M1.1 p = M.1 p ∧ M1.2 p = M.2 p
theorem MDat.rf {M : Mem} : MDat M M := ⟨fun _ _ _ => rfl, fun _ _ _ _ => ⟨rfl, rfl⟩⟩
theorem MDat.tr {M M1 M2 : Mem} (h : MDat M M1) (h2 : MDat M1 M2) : MDat M M2 := ⟨fun k a b => (h2.1 k a b).trans (h.1 k a b), fun p a b c => ⟨(h2.2 p a b c).1.trans (h.2 p a b c).1, (h2.2 p a b c).2.trans (h.2 p a b c).2⟩⟩
theorem MDat.si {M M1 : Mem} (h : MDat M M1) (p k : Nat) (z : Int) (hp : (p = 0 ∧ (k < 12 ∨ 20 < k)) ∨ p = 10 ∨ 13 ≤ p := by omega) : MDat M (si M1 p k z) := by
  refine ⟨fun j a b => ?_, fun j a b c => ?_⟩
  · rw [← h.1 j a b, sil, if_neg (by omega)]
  · rw [si_1 M1 p k z j (by omega)]
    exact h.2 j a b c
theorem Fr.mdat {M M1 : Mem} (h : Fr 13 (2 + 13) M M1) : MDat M M1 := ⟨fun k _ _ => by rw [(h 0 (Or.inl (by decide))).1], fun p _ h2 _ => h p (Or.inl (by omega))⟩
theorem DR.dat {D M M1 : Mem} (h : MDat M M1) (hr : DR D M) : DR D M1 := by
  have e := h.1
  have f := h.2
  unfold DR DRb DRo DRl at hr ⊢
  rw [e 12 (by decide) (by decide), e 13 (by decide) (by decide), e 14 (by decide) (by decide), e 15 (by decide) (by decide), e 16 (by decide) (by decide), e 17 (by decide) (by decide), e 18 (by decide) (by decide), e 19 (by decide) (by decide), e 20 (by decide) (by decide)]
  rw [(f 1 (by decide) (by decide) (by decide)).1, (f 2 (by decide) (by decide) (by decide)).1, (f 3 (by decide) (by decide) (by decide)).1, (f 4 (by decide) (by decide) (by decide)).1, (f 5 (by decide) (by decide) (by decide)).1, (f 6 (by decide) (by decide) (by decide)).1, (f 7 (by decide) (by decide) (by decide)).1, (f 8 (by decide) (by decide) (by decide)).1, (f 9 (by decide) (by decide) (by decide)).1, (f 11 (by decide) (by decide) (by decide)).2, (f 12 (by decide) (by decide) (by decide)).1]
  exact hr
theorem DRk.dat {D M M1 : Mem} (h : MDat M M1) (hr : DRk D M) : DRk D M1 := by
  unfold DRk at hr ⊢
  rw [(h.2 4 (by decide) (by decide) (by decide)).1]
  exact hr
theorem DR.bd {D M : Mem} (hw : Wf D) (h : DR D M) : 0 ≤ M.1 0 12 ∧ M.1 0 12 ≤ 8 ∧ 0 ≤ M.1 0 13 ∧ M.1 0 13 ≤ 14 := by
  obtain ⟨h1, h2, h3, h4⟩ := hw.1
  rw [h.1.1, h.1.2.1]
  exact ⟨h1, h2, h3, h4⟩

theorem w_X10_earliest {d : Nat} {M : Mem} {o r : Nat} {k y a : Int} (ho : o < 14) (hr8 : r < 8) (hr : M.1 5 o = r) (hy : M.1 1 r = y) (hs : M.1 8 o = k) (ha : M.1 7 o = a) (hy0 : 0 ≤ y) (hy1 : y ≤ 3000) (hk0 : 0 ≤ k) (hk7 : k ≤ 7) (ha0 : -1 ≤ a) (ha1 : a ≤ 120) (hm : -100000 ≤ M.1 0 17 ∧ M.1 0 17 ≤ 100000) (hf : -100000 ≤ M.1 0 18 ∧ M.1 0 18 ≤ 100000) (hl : -100000 ≤ M.1 0 19 ∧ M.1 0 19 ≤ 100000) (hro : -100000 ≤ M.1 0 20 ∧ M.1 0 20 ≤ 100000) : WP wdM d mX10_earliest [vr 0, vi o] M (Ret (some (vi (ebF (M.1 0 17) (M.1 0 18) (M.1 0 19) (M.1 0 20) k y a))) M) := by
  refine wp_of (by decide +kernel) (Nat.le_of_ble_eq_true rfl) ?_
  have hk : k = 0 ∨ k = 1 ∨ k = 2 ∨ k = 3 ∨ k = 4 ∨ k = 5 ∨ k = 6 ∨ k = 7 := by omega
  refine g_aload_n dX10_earliest_0 rfl rfl ?_
  refine g_getr dX10_earliest_1 fX10_7 rfl rfl ?_
  refine g_aload_n dX10_earliest_4 rfl rfl ?_
  refine g_getr dX10_earliest_5 fX10_22 rfl rfl ?_
  refine g_iload_n dX10_earliest_8 rfl rfl ?_
  refine g_iald dX10_earliest_9 rfl (by decide) ?_
  try simp only [Int.toNat_natCast]
  rw [hr]
  refine g_iald dX10_earliest_10 rfl (by decide) ?_
  try simp only [Int.toNat_natCast]
  rw [hy]
  refine g_istore_n (ls' := [some _, some _, some _]) dX10_earliest_11 rfl (by decide) rfl ?_
  refine g_aload_n dX10_earliest_12 rfl rfl ?_
  refine g_getr dX10_earliest_13 fX10_31 rfl rfl ?_
  refine g_iload_n dX10_earliest_16 rfl rfl ?_
  refine g_iald dX10_earliest_17 rfl (by decide) ?_
  try simp only [Int.toNat_natCast]
  rw [hs]
  clear hs
  rcases hk with rfl | rfl | rfl | rfl | rfl | rfl | rfl | rfl
  · refine g_tsw (tgt := 60) dX10_earliest_18 rfl rfl ?_
    refine g_iload_n dX10_earliest_60 rfl rfl ?_
    refine g_iret dX10_earliest_61 rfl ?_
    refine ⟨?_, rfl⟩
    unfold ebF
    first
    | rfl
    | (have ha2 : a = -1 := by omega
       subst ha2
       rfl)
    | (have ha2 : ¬ a = -1 := by omega
       simp only [if_neg ha2]
       rfl)
  · refine g_tsw (tgt := 62) dX10_earliest_18 rfl rfl ?_
    refine g_iload_n dX10_earliest_62 rfl rfl ?_
    refine g_aload_n dX10_earliest_63 rfl rfl ?_
    refine g_get dX10_earliest_64 fX10_52 rfl rfl ?_
    refine g_isub dX10_earliest_67 ?_
    refine g_iret dX10_earliest_68 rfl ?_
    refine ⟨?_, rfl⟩
    unfold ebF
    first
    | rfl
    | (have ha2 : a = -1 := by omega
       subst ha2
       rfl)
    | (have ha2 : ¬ a = -1 := by omega
       simp only [if_neg ha2]
       rfl)
  · refine g_tsw (tgt := 69) dX10_earliest_18 rfl rfl ?_
    refine g_iload_n dX10_earliest_69 rfl rfl ?_
    refine g_aload_n dX10_earliest_70 rfl rfl ?_
    refine g_get dX10_earliest_71 fX10_55 rfl rfl ?_
    refine g_isub dX10_earliest_74 ?_
    refine g_iret dX10_earliest_75 rfl ?_
    refine ⟨?_, rfl⟩
    unfold ebF
    first
    | rfl
    | (have ha2 : a = -1 := by omega
       subst ha2
       rfl)
    | (have ha2 : ¬ a = -1 := by omega
       simp only [if_neg ha2]
       rfl)
  · refine g_tsw (tgt := 139) dX10_earliest_18 rfl rfl ?_
    refine g_iload_n dX10_earliest_139 rfl rfl ?_
    refine g_aload_n dX10_earliest_140 rfl rfl ?_
    refine g_get dX10_earliest_141 fX10_58 rfl rfl ?_
    refine g_isub dX10_earliest_144 ?_
    refine g_iret dX10_earliest_145 rfl ?_
    refine ⟨?_, rfl⟩
    unfold ebF
    first
    | rfl
    | (have ha2 : a = -1 := by omega
       subst ha2
       rfl)
    | (have ha2 : ¬ a = -1 := by omega
       simp only [if_neg ha2]
       rfl)
  · refine g_tsw (tgt := 139) dX10_earliest_18 rfl rfl ?_
    refine g_iload_n dX10_earliest_139 rfl rfl ?_
    refine g_aload_n dX10_earliest_140 rfl rfl ?_
    refine g_get dX10_earliest_141 fX10_58 rfl rfl ?_
    refine g_isub dX10_earliest_144 ?_
    refine g_iret dX10_earliest_145 rfl ?_
    refine ⟨?_, rfl⟩
    unfold ebF
    first
    | rfl
    | (have ha2 : a = -1 := by omega
       subst ha2
       rfl)
    | (have ha2 : ¬ a = -1 := by omega
       simp only [if_neg ha2]
       rfl)
  · refine g_tsw (tgt := 76) dX10_earliest_18 rfl rfl ?_
    refine g_aload_n dX10_earliest_76 rfl rfl ?_
    refine g_getr dX10_earliest_77 fX10_28 rfl rfl ?_
    refine g_iload_n dX10_earliest_80 rfl rfl ?_
    refine g_iald dX10_earliest_81 rfl (by decide) ?_
    try simp only [Int.toNat_natCast]
    rw [ha]
    refine g_if_ge (tgt := 94) dX10_earliest_82 rfl (fun h82 => ?_) (fun h82 => ?_)
    · refine g_iload_n dX10_earliest_94 rfl rfl ?_
      refine g_aload_n dX10_earliest_95 rfl rfl ?_
      refine g_getr dX10_earliest_96 fX10_28 rfl rfl ?_
      refine g_iload_n dX10_earliest_99 rfl rfl ?_
      refine g_iald dX10_earliest_100 rfl (by decide) ?_
      try simp only [Int.toNat_natCast]
      rw [ha]
      refine g_isub dX10_earliest_101 ?_
      refine g_iconst dX10_earliest_102 ?_
      refine g_isub dX10_earliest_103 ?_
      refine g_iret dX10_earliest_104 rfl ?_
      refine ⟨?_, rfl⟩
      unfold ebF
      first
      | rfl
      | (have ha2 : a = -1 := by omega
         subst ha2
         rfl)
      | (have ha2 : ¬ a = -1 := by omega
         simp only [if_neg ha2]
         rfl)
    · refine g_iload_n dX10_earliest_85 rfl rfl ?_
      refine g_aload_n dX10_earliest_86 rfl rfl ?_
      refine g_get dX10_earliest_87 fX10_58 rfl rfl ?_
      refine g_isub dX10_earliest_90 ?_
      refine g_goto (tgt := 104) dX10_earliest_91 rfl ?_
      refine g_iret dX10_earliest_104 rfl ?_
      refine ⟨?_, rfl⟩
      unfold ebF
      first
      | rfl
      | (have ha2 : a = -1 := by omega
         subst ha2
         rfl)
      | (have ha2 : ¬ a = -1 := by omega
         simp only [if_neg ha2]
         rfl)
  · refine g_tsw (tgt := 105) dX10_earliest_18 rfl rfl ?_
    refine g_aload_n dX10_earliest_105 rfl rfl ?_
    refine g_getr dX10_earliest_106 fX10_28 rfl rfl ?_
    refine g_iload_n dX10_earliest_109 rfl rfl ?_
    refine g_iald dX10_earliest_110 rfl (by decide) ?_
    try simp only [Int.toNat_natCast]
    rw [ha]
    refine g_if_ge (tgt := 123) dX10_earliest_111 rfl (fun h111 => ?_) (fun h111 => ?_)
    · refine g_iload_n dX10_earliest_123 rfl rfl ?_
      refine g_aload_n dX10_earliest_124 rfl rfl ?_
      refine g_getr dX10_earliest_125 fX10_28 rfl rfl ?_
      refine g_iload_n dX10_earliest_128 rfl rfl ?_
      refine g_iald dX10_earliest_129 rfl (by decide) ?_
      try simp only [Int.toNat_natCast]
      rw [ha]
      refine g_isub dX10_earliest_130 ?_
      refine g_iconst dX10_earliest_131 ?_
      refine g_isub dX10_earliest_132 ?_
      refine g_aload_n dX10_earliest_133 rfl rfl ?_
      refine g_get dX10_earliest_134 fX10_61 rfl rfl ?_
      refine g_isub dX10_earliest_137 ?_
      refine g_iret dX10_earliest_138 rfl ?_
      refine ⟨?_, rfl⟩
      unfold ebF
      first
      | rfl
      | (have ha2 : a = -1 := by omega
         subst ha2
         rfl)
      | (have ha2 : ¬ a = -1 := by omega
         simp only [if_neg ha2]
         rfl)
    · refine g_iload_n dX10_earliest_114 rfl rfl ?_
      refine g_aload_n dX10_earliest_115 rfl rfl ?_
      refine g_get dX10_earliest_116 fX10_58 rfl rfl ?_
      refine g_isub dX10_earliest_119 ?_
      refine g_goto (tgt := 138) dX10_earliest_120 rfl ?_
      refine g_iret dX10_earliest_138 rfl ?_
      refine ⟨?_, rfl⟩
      unfold ebF
      first
      | rfl
      | (have ha2 : a = -1 := by omega
         subst ha2
         rfl)
      | (have ha2 : ¬ a = -1 := by omega
         simp only [if_neg ha2]
         rfl)
  · refine g_tswO (tgt := 139) dX10_earliest_18 rfl ?_
    refine g_iload_n dX10_earliest_139 rfl rfl ?_
    refine g_aload_n dX10_earliest_140 rfl rfl ?_
    refine g_get dX10_earliest_141 fX10_58 rfl rfl ?_
    refine g_isub dX10_earliest_144 ?_
    refine g_iret dX10_earliest_145 rfl ?_
    refine ⟨?_, rfl⟩
    unfold ebF
    first
    | rfl
    | (have ha2 : a = -1 := by omega
       subst ha2
       rfl)
    | (have ha2 : ¬ a = -1 := by omega
       simp only [if_neg ha2]
       rfl)

theorem w_X10_latest {d : Nat} {M : Mem} {o r : Nat} {k y a : Int} (ho : o < 14) (hr8 : r < 8) (hr : M.1 5 o = r) (hy : M.1 1 r = y) (hs : M.1 8 o = k) (ha : M.1 7 o = a) (hy0 : 0 ≤ y) (hy1 : y ≤ 3000) (hk0 : 0 ≤ k) (hk7 : k ≤ 7) (ha0 : -1 ≤ a) (ha1 : a ≤ 120) (hg : -100000 ≤ M.1 0 16 ∧ M.1 0 16 ≤ 100000) (hro : -100000 ≤ M.1 0 20 ∧ M.1 0 20 ≤ 100000) : WP wdM d mX10_latest [vr 0, vi o] M (Ret (some (vi (lbF (M.1 0 16) (M.1 0 20) k y a))) M) := by
  refine wp_of (by decide +kernel) (Nat.le_of_ble_eq_true rfl) ?_
  have hk : k = 0 ∨ k = 1 ∨ k = 2 ∨ k = 3 ∨ k = 4 ∨ k = 5 ∨ k = 6 ∨ k = 7 := by omega
  refine g_aload_n dX10_latest_0 rfl rfl ?_
  refine g_getr dX10_latest_1 fX10_7 rfl rfl ?_
  refine g_aload_n dX10_latest_4 rfl rfl ?_
  refine g_getr dX10_latest_5 fX10_22 rfl rfl ?_
  refine g_iload_n dX10_latest_8 rfl rfl ?_
  refine g_iald dX10_latest_9 rfl (by decide) ?_
  try simp only [Int.toNat_natCast]
  rw [hr]
  refine g_iald dX10_latest_10 rfl (by decide) ?_
  try simp only [Int.toNat_natCast]
  rw [hy]
  refine g_istore_n (ls' := [some _, some _, some _]) dX10_latest_11 rfl (by decide) rfl ?_
  refine g_aload_n dX10_latest_12 rfl rfl ?_
  refine g_getr dX10_latest_13 fX10_31 rfl rfl ?_
  refine g_iload_n dX10_latest_16 rfl rfl ?_
  refine g_iald dX10_latest_17 rfl (by decide) ?_
  try simp only [Int.toNat_natCast]
  rw [hs]
  clear hs
  rcases hk with rfl | rfl | rfl | rfl | rfl | rfl | rfl | rfl
  · refine g_lsw (off := 34) (tgt := 52) dX10_latest_18 (by decide) (by decide) rfl ?_
    refine g_iload_n dX10_latest_52 rfl rfl ?_
    refine g_iret dX10_latest_53 rfl ?_
    refine ⟨?_, rfl⟩
    unfold lbF
    first
    | rfl
    | (have ha2 : a = -1 := by omega
       subst ha2
       rfl)
    | (have ha2 : ¬ a = -1 := by omega
       simp only [if_neg ha2]
       rfl)
  · refine g_lsw (off := 85) (tgt := 103) dX10_latest_18 (by decide) (by decide) rfl ?_
    refine g_iload_n dX10_latest_103 rfl rfl ?_
    refine g_aload_n dX10_latest_104 rfl rfl ?_
    refine g_get dX10_latest_105 fX10_48 rfl rfl ?_
    refine g_isub dX10_latest_108 ?_
    refine g_iret dX10_latest_109 rfl ?_
    refine ⟨?_, rfl⟩
    unfold lbF
    first
    | rfl
    | (have ha2 : a = -1 := by omega
       subst ha2
       rfl)
    | (have ha2 : ¬ a = -1 := by omega
       simp only [if_neg ha2]
       rfl)
  · refine g_lsw (off := 85) (tgt := 103) dX10_latest_18 (by decide) (by decide) rfl ?_
    refine g_iload_n dX10_latest_103 rfl rfl ?_
    refine g_aload_n dX10_latest_104 rfl rfl ?_
    refine g_get dX10_latest_105 fX10_48 rfl rfl ?_
    refine g_isub dX10_latest_108 ?_
    refine g_iret dX10_latest_109 rfl ?_
    refine ⟨?_, rfl⟩
    unfold lbF
    first
    | rfl
    | (have ha2 : a = -1 := by omega
       subst ha2
       rfl)
    | (have ha2 : ¬ a = -1 := by omega
       simp only [if_neg ha2]
       rfl)
  · refine g_lsw (off := 85) (tgt := 103) dX10_latest_18 (by decide) (by decide) rfl ?_
    refine g_iload_n dX10_latest_103 rfl rfl ?_
    refine g_aload_n dX10_latest_104 rfl rfl ?_
    refine g_get dX10_latest_105 fX10_48 rfl rfl ?_
    refine g_isub dX10_latest_108 ?_
    refine g_iret dX10_latest_109 rfl ?_
    refine ⟨?_, rfl⟩
    unfold lbF
    first
    | rfl
    | (have ha2 : a = -1 := by omega
       subst ha2
       rfl)
    | (have ha2 : ¬ a = -1 := by omega
       simp only [if_neg ha2]
       rfl)
  · refine g_lsw (off := 85) (tgt := 103) dX10_latest_18 (by decide) (by decide) rfl ?_
    refine g_iload_n dX10_latest_103 rfl rfl ?_
    refine g_aload_n dX10_latest_104 rfl rfl ?_
    refine g_get dX10_latest_105 fX10_48 rfl rfl ?_
    refine g_isub dX10_latest_108 ?_
    refine g_iret dX10_latest_109 rfl ?_
    refine ⟨?_, rfl⟩
    unfold lbF
    first
    | rfl
    | (have ha2 : a = -1 := by omega
       subst ha2
       rfl)
    | (have ha2 : ¬ a = -1 := by omega
       simp only [if_neg ha2]
       rfl)
  · refine g_lsw (off := 36) (tgt := 54) dX10_latest_18 (by decide) (by decide) rfl ?_
    refine g_aload_n dX10_latest_54 rfl rfl ?_
    refine g_getr dX10_latest_55 fX10_28 rfl rfl ?_
    refine g_iload_n dX10_latest_58 rfl rfl ?_
    refine g_iald dX10_latest_59 rfl (by decide) ?_
    try simp only [Int.toNat_natCast]
    rw [ha]
    refine g_if_ge (tgt := 67) dX10_latest_60 rfl (fun h60 => ?_) (fun h60 => ?_)
    · refine g_iload_n dX10_latest_67 rfl rfl ?_
      refine g_aload_n dX10_latest_68 rfl rfl ?_
      refine g_getr dX10_latest_69 fX10_28 rfl rfl ?_
      refine g_iload_n dX10_latest_72 rfl rfl ?_
      refine g_iald dX10_latest_73 rfl (by decide) ?_
      try simp only [Int.toNat_natCast]
      rw [ha]
      refine g_isub dX10_latest_74 ?_
      refine g_iret dX10_latest_75 rfl ?_
      refine ⟨?_, rfl⟩
      unfold lbF
      first
      | rfl
      | (have ha2 : a = -1 := by omega
         subst ha2
         rfl)
      | (have ha2 : ¬ a = -1 := by omega
         simp only [if_neg ha2]
         rfl)
    · refine g_iload_n dX10_latest_63 rfl rfl ?_
      refine g_goto (tgt := 75) dX10_latest_64 rfl ?_
      refine g_iret dX10_latest_75 rfl ?_
      refine ⟨?_, rfl⟩
      unfold lbF
      first
      | rfl
      | (have ha2 : a = -1 := by omega
         subst ha2
         rfl)
      | (have ha2 : ¬ a = -1 := by omega
         simp only [if_neg ha2]
         rfl)
  · refine g_lsw (off := 58) (tgt := 76) dX10_latest_18 (by decide) (by decide) rfl ?_
    refine g_aload_n dX10_latest_76 rfl rfl ?_
    refine g_getr dX10_latest_77 fX10_28 rfl rfl ?_
    refine g_iload_n dX10_latest_80 rfl rfl ?_
    refine g_iald dX10_latest_81 rfl (by decide) ?_
    try simp only [Int.toNat_natCast]
    rw [ha]
    refine g_if_ge (tgt := 89) dX10_latest_82 rfl (fun h82 => ?_) (fun h82 => ?_)
    · refine g_iload_n dX10_latest_89 rfl rfl ?_
      refine g_aload_n dX10_latest_90 rfl rfl ?_
      refine g_getr dX10_latest_91 fX10_28 rfl rfl ?_
      refine g_iload_n dX10_latest_94 rfl rfl ?_
      refine g_iald dX10_latest_95 rfl (by decide) ?_
      try simp only [Int.toNat_natCast]
      rw [ha]
      refine g_isub dX10_latest_96 ?_
      refine g_aload_n dX10_latest_97 rfl rfl ?_
      refine g_get dX10_latest_98 fX10_61 rfl rfl ?_
      refine g_iadd dX10_latest_101 ?_
      refine g_iret dX10_latest_102 rfl ?_
      refine ⟨?_, rfl⟩
      unfold lbF
      first
      | rfl
      | (have ha2 : a = -1 := by omega
         subst ha2
         rfl)
      | (have ha2 : ¬ a = -1 := by omega
         simp only [if_neg ha2]
         rfl)
    · refine g_iload_n dX10_latest_85 rfl rfl ?_
      refine g_goto (tgt := 102) dX10_latest_86 rfl ?_
      refine g_iret dX10_latest_102 rfl ?_
      refine ⟨?_, rfl⟩
      unfold lbF
      first
      | rfl
      | (have ha2 : a = -1 := by omega
         subst ha2
         rfl)
      | (have ha2 : ¬ a = -1 := by omega
         simp only [if_neg ha2]
         rfl)
  · refine g_lsw (off := 85) (tgt := 103) dX10_latest_18 (by decide) (by decide) rfl ?_
    refine g_iload_n dX10_latest_103 rfl rfl ?_
    refine g_aload_n dX10_latest_104 rfl rfl ?_
    refine g_get dX10_latest_105 fX10_48 rfl rfl ?_
    refine g_isub dX10_latest_108 ?_
    refine g_iret dX10_latest_109 rfl ?_
    refine ⟨?_, rfl⟩
    unfold lbF
    first
    | rfl
    | (have ha2 : a = -1 := by omega
       subst ha2
       rfl)
    | (have ha2 : ¬ a = -1 := by omega
       simp only [if_neg ha2]
       rfl)

theorem u_X10_earliest {d : Nat} {D M : Mem} (hw : Wf D) (hr : DR D M) {o : Nat} (ho : (o : Int) < D.1 1 11) : WP wdM d mX10_earliest [vr 0, vi o] M (Ret (some (vi (eF D o))) M) := by
  obtain ⟨l1, l2, l3, l4, l5, l6, l7, l8⟩ := hr.2.2
  obtain ⟨⟨m1, m2, m3, m4, m5, m6, m7, m8, m9, m10⟩, m11, m12⟩ := hw.2.2.2.2.2.2
  obtain ⟨o1, o2, o3, o4, o5, o6, o7⟩ := hr.2.1 o ho
  obtain ⟨v1, v2, v3, v4, v5, v6, v7, v8, v9⟩ := hw.2.2.2.2.2.1 o ho
  obtain ⟨b1, b2, b3, b4⟩ := hw.1
  obtain ⟨c1, c2, c3, c4⟩ := hw.2.2.1 o ho
  have h := w_X10_earliest (d := d) (M := M) (o := o) (r := (D.1 5 o).toNat) (k := D.1 6 o) (y := D.1 7 o) (a := D.1 9 o) (by omega) (by omega) (by omega) o7 o4 o3 v3 v4 v1 v2 v7 v8 (by omega) (by omega) (by omega) (by omega)
  rw [l2, l3, l4, l5] at h
  exact h
theorem u_X10_latest {d : Nat} {D M : Mem} (hw : Wf D) (hr : DR D M) {o : Nat} (ho : (o : Int) < D.1 1 11) : WP wdM d mX10_latest [vr 0, vi o] M (Ret (some (vi (lF D o))) M) := by
  obtain ⟨l1, l2, l3, l4, l5, l6, l7, l8⟩ := hr.2.2
  obtain ⟨⟨m1, m2, m3, m4, m5, m6, m7, m8, m9, m10⟩, m11, m12⟩ := hw.2.2.2.2.2.2
  obtain ⟨o1, o2, o3, o4, o5, o6, o7⟩ := hr.2.1 o ho
  obtain ⟨v1, v2, v3, v4, v5, v6, v7, v8, v9⟩ := hw.2.2.2.2.2.1 o ho
  obtain ⟨b1, b2, b3, b4⟩ := hw.1
  obtain ⟨c1, c2, c3, c4⟩ := hw.2.2.1 o ho
  have h := w_X10_latest (d := d) (M := M) (o := o) (r := (D.1 5 o).toNat) (k := D.1 6 o) (y := D.1 7 o) (a := D.1 9 o) (by omega) (by omega) (by omega) o7 o4 o3 v3 v4 v1 v2 v7 v8 (by omega) (by omega)
  rw [l1, l5] at h
  exact h
abbrev outF (D : Mem) (p o : Nat) : Prop := D.1 6 p ≠ 5 ∨ D.1 7 o ≤ (if D.1 6 o = 2 then D.1 7 p + 1 else D.1 7 p)
abbrev twoF (D : Mem) (a b : Nat) (s : Int) : Prop := D.1 6 a = s ∧ D.1 6 b = s ∧ D.1 10 a < 0 ∧ D.1 10 b < 0
abbrev oneF (D : Mem) (a b : Nat) : Prop := D.1 5 a ≠ D.1 5 b ∧ ¬ (0 < D.1 8 a ∧ 0 < D.1 8 b ∧ D.1 8 a ≠ D.1 8 b) ∧ ¬ twoF D a b 0 ∧ ¬ twoF D a b 5 ∧ outF D a b ∧ outF D b a

theorem copy_r {D : Mem} (hw : Wf D) {o : Nat} (ho : (o : Int) < D.1 1 11) : -2147483648 ≤ D.1 10 o ∧ D.1 10 o < 2147483648 := by
  obtain ⟨hB, hR, hO, hC, hD, hV, hL⟩ := hw
  obtain ⟨c1, c2, c3, c4⟩ := hO o ho
  obtain ⟨b1, b2, b3, b4⟩ := hB
  obtain ⟨d1, d2⟩ := hD o ho
  have c := hC (D.1 5 o).toNat (by omega)
  rcases c with c | ⟨c5, c6, c7, c8⟩
  · rw [d1 c]; omega
  · have r1 := hR.1 (D.1 5 o).toNat (by omega)
    have r2 := hR.1 (D.1 4 (D.1 5 o).toNat).toNat (by omega)
    rw [(d2 c5).1]; omega

theorem u_X10_outlives {d : Nat} {D M : Mem} (hw : Wf D) (hr : DR D M) {a b : Nat} (ha : (a : Int) < D.1 1 11) (hb : (b : Int) < D.1 1 11) : WP wdM d mX10_outlives [vr 0, vi a, vi b] M (Ret (some (vi (bi (outF D a b)))) M) := by
  obtain ⟨b1, b2, b3, b4⟩ := hw.1
  obtain ⟨o1, o2, o3, o4, o5, o6, o7⟩ := hr.2.1 a ha
  obtain ⟨v1, v2, v3, v4, v5, v6, v7, v8, v9⟩ := hw.2.2.2.2.2.1 a ha
  obtain ⟨c1, c2, c3, c4⟩ := hw.2.2.1 a ha
  obtain ⟨p1, p2, p3, p4, p5, p6, p7⟩ := hr.2.1 b hb
  obtain ⟨w1, w2, w3, w4, w5, w6, w7, w8, w9⟩ := hw.2.2.2.2.2.1 b hb
  obtain ⟨e1, e2, e3, e4⟩ := hw.2.2.1 b hb
  have cpa : -2147483648 ≤ D.1 10 a ∧ D.1 10 a < 2147483648 := copy_r hw ha
  have cpb : -2147483648 ≤ D.1 10 b ∧ D.1 10 b < 2147483648 := copy_r hw hb
  refine wp_of (by decide +kernel) (Nat.le_of_ble_eq_true rfl) ?_
  refine g_aload_n dX10_outlives_0 rfl rfl ?_
  refine g_getr dX10_outlives_1 fX10_31 rfl rfl ?_
  refine g_iload_n dX10_outlives_4 rfl rfl ?_
  refine g_iald dX10_outlives_5 rfl (by decide) ?_
  try simp only [Int.toNat_natCast]
  rw [o4]
  refine g_iconst dX10_outlives_6 ?_
  refine g_icmp_eq (tgt := 12) dX10_outlives_7 rfl (fun h7 => ?_) (fun h7 => ?_)
  · refine g_aload_n dX10_outlives_12 rfl rfl ?_
    refine g_getr dX10_outlives_13 fX10_7 rfl rfl ?_
    refine g_aload_n dX10_outlives_16 rfl rfl ?_
    refine g_getr dX10_outlives_17 fX10_22 rfl rfl ?_
    refine g_iload_n dX10_outlives_20 rfl rfl ?_
    refine g_iald dX10_outlives_21 rfl (by decide) ?_
    try simp only [Int.toNat_natCast]
    rw [o1]
    refine g_iald dX10_outlives_22 rfl (by decide) ?_
    try simp only [Int.toNat_natCast]
    rw [o7]
    refine g_istore_n (ls' := [some _, some _, some _, some _]) dX10_outlives_23 rfl (by decide) rfl ?_
    refine g_aload_n dX10_outlives_24 rfl rfl ?_
    refine g_getr dX10_outlives_25 fX10_7 rfl rfl ?_
    refine g_aload_n dX10_outlives_28 rfl rfl ?_
    refine g_getr dX10_outlives_29 fX10_22 rfl rfl ?_
    refine g_iload_n dX10_outlives_32 rfl rfl ?_
    refine g_iald dX10_outlives_33 rfl (by decide) ?_
    try simp only [Int.toNat_natCast]
    rw [p1]
    refine g_iald dX10_outlives_34 rfl (by decide) ?_
    try simp only [Int.toNat_natCast]
    rw [p7]
    refine g_aload_n dX10_outlives_35 rfl rfl ?_
    refine g_getr dX10_outlives_36 fX10_31 rfl rfl ?_
    refine g_iload_n dX10_outlives_39 rfl rfl ?_
    refine g_iald dX10_outlives_40 rfl (by decide) ?_
    try simp only [Int.toNat_natCast]
    rw [p4]
    refine g_iconst dX10_outlives_41 ?_
    refine g_icmp_ne (tgt := 51) dX10_outlives_42 rfl (fun h42 => ?_) (fun h42 => ?_)
    · refine g_iload_n dX10_outlives_51 rfl rfl ?_
      refine g_icmp_gt (tgt := 59) dX10_outlives_52 rfl (fun h52 => ?_) (fun h52 => ?_)
      · refine g_iconst dX10_outlives_59 ?_
        refine g_zret dX10_outlives_60 rfl ?_
        first
        | exact leafT (Or.inl (by omega))
        | exact leafT (Or.inr (by first | (rw [if_pos h42]; omega) | (rw [if_neg h42]; omega)))
        | exact leafF (fun z => z.elim (fun z => by omega) (fun z => by first | (rw [if_pos h42] at z; omega) | (rw [if_neg h42] at z; omega)))
      · refine g_iconst dX10_outlives_55 ?_
        refine g_goto (tgt := 60) dX10_outlives_56 rfl ?_
        refine g_zret dX10_outlives_60 rfl ?_
        first
        | exact leafT (Or.inl (by omega))
        | exact leafT (Or.inr (by first | (rw [if_pos h42]; omega) | (rw [if_neg h42]; omega)))
        | exact leafF (fun z => z.elim (fun z => by omega) (fun z => by first | (rw [if_pos h42] at z; omega) | (rw [if_neg h42] at z; omega)))
    · refine g_iload_n dX10_outlives_45 rfl rfl ?_
      refine g_iconst dX10_outlives_46 ?_
      refine g_iadd dX10_outlives_47 ?_
      refine g_goto (tgt := 52) dX10_outlives_48 rfl ?_
      refine g_icmp_gt (tgt := 59) dX10_outlives_52 rfl (fun h52 => ?_) (fun h52 => ?_)
      · refine g_iconst dX10_outlives_59 ?_
        refine g_zret dX10_outlives_60 rfl ?_
        first
        | exact leafT (Or.inl (by omega))
        | exact leafT (Or.inr (by first | (rw [if_pos h42]; omega) | (rw [if_neg h42]; omega)))
        | exact leafF (fun z => z.elim (fun z => by omega) (fun z => by first | (rw [if_pos h42] at z; omega) | (rw [if_neg h42] at z; omega)))
      · refine g_iconst dX10_outlives_55 ?_
        refine g_goto (tgt := 60) dX10_outlives_56 rfl ?_
        refine g_zret dX10_outlives_60 rfl ?_
        first
        | exact leafT (Or.inl (by omega))
        | exact leafT (Or.inr (by first | (rw [if_pos h42]; omega) | (rw [if_neg h42]; omega)))
        | exact leafF (fun z => z.elim (fun z => by omega) (fun z => by first | (rw [if_pos h42] at z; omega) | (rw [if_neg h42] at z; omega)))
  · refine g_iconst dX10_outlives_10 ?_
    refine g_zret dX10_outlives_11 rfl ?_
    first
    | exact leafT (Or.inl (by omega))
    | exact leafT (Or.inr (by first | (rw [if_pos h42]; omega) | (rw [if_neg h42]; omega)))
    | exact leafF (fun z => z.elim (fun z => by omega) (fun z => by first | (rw [if_pos h42] at z; omega) | (rw [if_neg h42] at z; omega)))
theorem u_X10_areTwo {d : Nat} {D M : Mem} (hw : Wf D) (hr : DR D M) {a b : Nat} {s : Int} (hs : 0 ≤ s ∧ s ≤ 7) (ha : (a : Int) < D.1 1 11) (hb : (b : Int) < D.1 1 11) : WP wdM d mX10_areTwo [vr 0, vi a, vi b, vi s] M (Ret (some (vi (bi (twoF D a b s)))) M) := by
  obtain ⟨b1, b2, b3, b4⟩ := hw.1
  obtain ⟨o1, o2, o3, o4, o5, o6, o7⟩ := hr.2.1 a ha
  obtain ⟨v1, v2, v3, v4, v5, v6, v7, v8, v9⟩ := hw.2.2.2.2.2.1 a ha
  obtain ⟨c1, c2, c3, c4⟩ := hw.2.2.1 a ha
  obtain ⟨p1, p2, p3, p4, p5, p6, p7⟩ := hr.2.1 b hb
  obtain ⟨w1, w2, w3, w4, w5, w6, w7, w8, w9⟩ := hw.2.2.2.2.2.1 b hb
  obtain ⟨e1, e2, e3, e4⟩ := hw.2.2.1 b hb
  have cpa : -2147483648 ≤ D.1 10 a ∧ D.1 10 a < 2147483648 := copy_r hw ha
  have cpb : -2147483648 ≤ D.1 10 b ∧ D.1 10 b < 2147483648 := copy_r hw hb
  refine wp_of (by decide +kernel) (Nat.le_of_ble_eq_true rfl) ?_
  refine g_aload_n dX10_areTwo_0 rfl rfl ?_
  refine g_getr dX10_areTwo_1 fX10_31 rfl rfl ?_
  refine g_iload_n dX10_areTwo_4 rfl rfl ?_
  refine g_iald dX10_areTwo_5 rfl (by decide) ?_
  try simp only [Int.toNat_natCast]
  rw [o4]
  refine g_iload_n dX10_areTwo_6 rfl rfl ?_
  refine g_icmp_ne (tgt := 42) dX10_areTwo_7 rfl (fun h7 => ?_) (fun h7 => ?_)
  · refine g_iconst dX10_areTwo_42 ?_
    refine g_zret dX10_areTwo_43 rfl ?_
    first | exact leafT ⟨by omega, by omega, by omega, by omega⟩ | exact leafF (fun z => by omega)
  · refine g_aload_n dX10_areTwo_10 rfl rfl ?_
    refine g_getr dX10_areTwo_11 fX10_31 rfl rfl ?_
    refine g_iload_n dX10_areTwo_14 rfl rfl ?_
    refine g_iald dX10_areTwo_15 rfl (by decide) ?_
    try simp only [Int.toNat_natCast]
    rw [p4]
    refine g_iload_n dX10_areTwo_16 rfl rfl ?_
    refine g_icmp_ne (tgt := 42) dX10_areTwo_17 rfl (fun h17 => ?_) (fun h17 => ?_)
    · refine g_iconst dX10_areTwo_42 ?_
      refine g_zret dX10_areTwo_43 rfl ?_
      first | exact leafT ⟨by omega, by omega, by omega, by omega⟩ | exact leafF (fun z => by omega)
    · refine g_aload_n dX10_areTwo_20 rfl rfl ?_
      refine g_getr dX10_areTwo_21 fX10_34 rfl rfl ?_
      refine g_iload_n dX10_areTwo_24 rfl rfl ?_
      refine g_iald dX10_areTwo_25 rfl (by decide) ?_
      try simp only [Int.toNat_natCast]
      rw [o5]
      refine g_if_ge (tgt := 42) dX10_areTwo_26 rfl (fun h26 => ?_) (fun h26 => ?_)
      · refine g_iconst dX10_areTwo_42 ?_
        refine g_zret dX10_areTwo_43 rfl ?_
        first | exact leafT ⟨by omega, by omega, by omega, by omega⟩ | exact leafF (fun z => by omega)
      · refine g_aload_n dX10_areTwo_29 rfl rfl ?_
        refine g_getr dX10_areTwo_30 fX10_34 rfl rfl ?_
        refine g_iload_n dX10_areTwo_33 rfl rfl ?_
        refine g_iald dX10_areTwo_34 rfl (by decide) ?_
        try simp only [Int.toNat_natCast]
        rw [p5]
        refine g_if_ge (tgt := 42) dX10_areTwo_35 rfl (fun h35 => ?_) (fun h35 => ?_)
        · refine g_iconst dX10_areTwo_42 ?_
          refine g_zret dX10_areTwo_43 rfl ?_
          first | exact leafT ⟨by omega, by omega, by omega, by omega⟩ | exact leafF (fun z => by omega)
        · refine g_iconst dX10_areTwo_38 ?_
          refine g_goto (tgt := 43) dX10_areTwo_39 rfl ?_
          refine g_zret dX10_areTwo_43 rfl ?_
          first | exact leafT ⟨by omega, by omega, by omega, by omega⟩ | exact leafF (fun z => by omega)
theorem u_X10_canBeOne {d : Nat} {D M : Mem} (hw : Wf D) (hr : DR D M) {a b : Nat} (ha : (a : Int) < D.1 1 11) (hb : (b : Int) < D.1 1 11) : WP wdM (d + 1) mX10_canBeOne [vr 0, vi a, vi b] M (Ret (some (vi (bi (oneF D a b)))) M) := by
  obtain ⟨b1, b2, b3, b4⟩ := hw.1
  obtain ⟨o1, o2, o3, o4, o5, o6, o7⟩ := hr.2.1 a ha
  obtain ⟨v1, v2, v3, v4, v5, v6, v7, v8, v9⟩ := hw.2.2.2.2.2.1 a ha
  obtain ⟨c1, c2, c3, c4⟩ := hw.2.2.1 a ha
  obtain ⟨p1, p2, p3, p4, p5, p6, p7⟩ := hr.2.1 b hb
  obtain ⟨w1, w2, w3, w4, w5, w6, w7, w8, w9⟩ := hw.2.2.2.2.2.1 b hb
  obtain ⟨e1, e2, e3, e4⟩ := hw.2.2.1 b hb
  have cpa : -2147483648 ≤ D.1 10 a ∧ D.1 10 a < 2147483648 := copy_r hw ha
  have cpb : -2147483648 ≤ D.1 10 b ∧ D.1 10 b < 2147483648 := copy_r hw hb
  refine wp_of (by decide +kernel) (Nat.le_of_ble_eq_true rfl) ?_
  refine g_aload_n dX10_canBeOne_0 rfl rfl ?_
  refine g_getr dX10_canBeOne_1 fX10_22 rfl rfl ?_
  refine g_iload_n dX10_canBeOne_4 rfl rfl ?_
  refine g_iald dX10_canBeOne_5 rfl (by decide) ?_
  try simp only [Int.toNat_natCast]
  rw [o1]
  refine g_aload_n dX10_canBeOne_6 rfl rfl ?_
  refine g_getr dX10_canBeOne_7 fX10_22 rfl rfl ?_
  refine g_iload_n dX10_canBeOne_10 rfl rfl ?_
  refine g_iald dX10_canBeOne_11 rfl (by decide) ?_
  try simp only [Int.toNat_natCast]
  rw [p1]
  refine g_icmp_ne (tgt := 17) dX10_canBeOne_12 rfl (fun h12 => ?_) (fun h12 => ?_)
  · refine g_aload_n dX10_canBeOne_17 rfl rfl ?_
    refine g_getr dX10_canBeOne_18 fX10_25 rfl rfl ?_
    refine g_iload_n dX10_canBeOne_21 rfl rfl ?_
    refine g_iald dX10_canBeOne_22 rfl (by decide) ?_
    try simp only [Int.toNat_natCast]
    rw [o2]
    refine g_if_le (tgt := 52) dX10_canBeOne_23 rfl (fun h23 => ?_) (fun h23 => ?_)
    · refine g_aload_n dX10_canBeOne_52 rfl rfl ?_
      refine g_iload_n dX10_canBeOne_53 rfl rfl ?_
      refine g_iload_n dX10_canBeOne_54 rfl rfl ?_
      refine g_iconst dX10_canBeOne_55 ?_
      refine g_callVr dX10_canBeOne_56 lX10_156 (u_X10_areTwo hw hr (by omega) ha hb) rfl rfl rfl rfl (Nat.le_of_ble_eq_true rfl) ?_
      refine g_if_neB (tgt := 94) dX10_canBeOne_59 rfl (fun h59 => ?_) (fun h59 => ?_)
      · refine g_iconst dX10_canBeOne_94 ?_
        refine g_zret dX10_canBeOne_95 rfl ?_
        first
        | exact leafT ⟨by omega, by omega, h59, h69, h78, h87⟩
        | exact leafF (fun z => by first | exact h87 z.2.2.2.2.2 | exact h78 z.2.2.2.2.1 | exact z.2.2.2.1 h69 | exact z.2.2.1 h59 | exact z.2.1 (by omega) | exact z.1 (by omega))
      · refine g_aload_n dX10_canBeOne_62 rfl rfl ?_
        refine g_iload_n dX10_canBeOne_63 rfl rfl ?_
        refine g_iload_n dX10_canBeOne_64 rfl rfl ?_
        refine g_iconst dX10_canBeOne_65 ?_
        refine g_callVr dX10_canBeOne_66 lX10_156 (u_X10_areTwo hw hr (by omega) ha hb) rfl rfl rfl rfl (Nat.le_of_ble_eq_true rfl) ?_
        refine g_if_neB (tgt := 94) dX10_canBeOne_69 rfl (fun h69 => ?_) (fun h69 => ?_)
        · refine g_iconst dX10_canBeOne_94 ?_
          refine g_zret dX10_canBeOne_95 rfl ?_
          first
          | exact leafT ⟨by omega, by omega, h59, h69, h78, h87⟩
          | exact leafF (fun z => by first | exact h87 z.2.2.2.2.2 | exact h78 z.2.2.2.2.1 | exact z.2.2.2.1 h69 | exact z.2.2.1 h59 | exact z.2.1 (by omega) | exact z.1 (by omega))
        · refine g_aload_n dX10_canBeOne_72 rfl rfl ?_
          refine g_iload_n dX10_canBeOne_73 rfl rfl ?_
          refine g_iload_n dX10_canBeOne_74 rfl rfl ?_
          refine g_callVr dX10_canBeOne_75 lX10_160 (u_X10_outlives hw hr ha hb) rfl rfl rfl rfl (Nat.le_of_ble_eq_true rfl) ?_
          refine g_if_eqB (tgt := 94) dX10_canBeOne_78 rfl (fun h78 => ?_) (fun h78 => ?_)
          · refine g_iconst dX10_canBeOne_94 ?_
            refine g_zret dX10_canBeOne_95 rfl ?_
            first
            | exact leafT ⟨by omega, by omega, h59, h69, h78, h87⟩
            | exact leafF (fun z => by first | exact h87 z.2.2.2.2.2 | exact h78 z.2.2.2.2.1 | exact z.2.2.2.1 h69 | exact z.2.2.1 h59 | exact z.2.1 (by omega) | exact z.1 (by omega))
          · refine g_aload_n dX10_canBeOne_81 rfl rfl ?_
            refine g_iload_n dX10_canBeOne_82 rfl rfl ?_
            refine g_iload_n dX10_canBeOne_83 rfl rfl ?_
            refine g_callVr dX10_canBeOne_84 lX10_160 (u_X10_outlives hw hr hb ha) rfl rfl rfl rfl (Nat.le_of_ble_eq_true rfl) ?_
            refine g_if_eqB (tgt := 94) dX10_canBeOne_87 rfl (fun h87 => ?_) (fun h87 => ?_)
            · refine g_iconst dX10_canBeOne_94 ?_
              refine g_zret dX10_canBeOne_95 rfl ?_
              first
              | exact leafT ⟨by omega, by omega, h59, h69, h78, h87⟩
              | exact leafF (fun z => by first | exact h87 z.2.2.2.2.2 | exact h78 z.2.2.2.2.1 | exact z.2.2.2.1 h69 | exact z.2.2.1 h59 | exact z.2.1 (by omega) | exact z.1 (by omega))
            · refine g_iconst dX10_canBeOne_90 ?_
              refine g_goto (tgt := 95) dX10_canBeOne_91 rfl ?_
              refine g_zret dX10_canBeOne_95 rfl ?_
              first
              | exact leafT ⟨by omega, by omega, h59, h69, h78, h87⟩
              | exact leafF (fun z => by first | exact h87 z.2.2.2.2.2 | exact h78 z.2.2.2.2.1 | exact z.2.2.2.1 h69 | exact z.2.2.1 h59 | exact z.2.1 (by omega) | exact z.1 (by omega))
    · refine g_aload_n dX10_canBeOne_26 rfl rfl ?_
      refine g_getr dX10_canBeOne_27 fX10_25 rfl rfl ?_
      refine g_iload_n dX10_canBeOne_30 rfl rfl ?_
      refine g_iald dX10_canBeOne_31 rfl (by decide) ?_
      try simp only [Int.toNat_natCast]
      rw [p2]
      refine g_if_le (tgt := 52) dX10_canBeOne_32 rfl (fun h32 => ?_) (fun h32 => ?_)
      · refine g_aload_n dX10_canBeOne_52 rfl rfl ?_
        refine g_iload_n dX10_canBeOne_53 rfl rfl ?_
        refine g_iload_n dX10_canBeOne_54 rfl rfl ?_
        refine g_iconst dX10_canBeOne_55 ?_
        refine g_callVr dX10_canBeOne_56 lX10_156 (u_X10_areTwo hw hr (by omega) ha hb) rfl rfl rfl rfl (Nat.le_of_ble_eq_true rfl) ?_
        refine g_if_neB (tgt := 94) dX10_canBeOne_59 rfl (fun h59 => ?_) (fun h59 => ?_)
        · refine g_iconst dX10_canBeOne_94 ?_
          refine g_zret dX10_canBeOne_95 rfl ?_
          first
          | exact leafT ⟨by omega, by omega, h59, h69, h78, h87⟩
          | exact leafF (fun z => by first | exact h87 z.2.2.2.2.2 | exact h78 z.2.2.2.2.1 | exact z.2.2.2.1 h69 | exact z.2.2.1 h59 | exact z.2.1 (by omega) | exact z.1 (by omega))
        · refine g_aload_n dX10_canBeOne_62 rfl rfl ?_
          refine g_iload_n dX10_canBeOne_63 rfl rfl ?_
          refine g_iload_n dX10_canBeOne_64 rfl rfl ?_
          refine g_iconst dX10_canBeOne_65 ?_
          refine g_callVr dX10_canBeOne_66 lX10_156 (u_X10_areTwo hw hr (by omega) ha hb) rfl rfl rfl rfl (Nat.le_of_ble_eq_true rfl) ?_
          refine g_if_neB (tgt := 94) dX10_canBeOne_69 rfl (fun h69 => ?_) (fun h69 => ?_)
          · refine g_iconst dX10_canBeOne_94 ?_
            refine g_zret dX10_canBeOne_95 rfl ?_
            first
            | exact leafT ⟨by omega, by omega, h59, h69, h78, h87⟩
            | exact leafF (fun z => by first | exact h87 z.2.2.2.2.2 | exact h78 z.2.2.2.2.1 | exact z.2.2.2.1 h69 | exact z.2.2.1 h59 | exact z.2.1 (by omega) | exact z.1 (by omega))
          · refine g_aload_n dX10_canBeOne_72 rfl rfl ?_
            refine g_iload_n dX10_canBeOne_73 rfl rfl ?_
            refine g_iload_n dX10_canBeOne_74 rfl rfl ?_
            refine g_callVr dX10_canBeOne_75 lX10_160 (u_X10_outlives hw hr ha hb) rfl rfl rfl rfl (Nat.le_of_ble_eq_true rfl) ?_
            refine g_if_eqB (tgt := 94) dX10_canBeOne_78 rfl (fun h78 => ?_) (fun h78 => ?_)
            · refine g_iconst dX10_canBeOne_94 ?_
              refine g_zret dX10_canBeOne_95 rfl ?_
              first
              | exact leafT ⟨by omega, by omega, h59, h69, h78, h87⟩
              | exact leafF (fun z => by first | exact h87 z.2.2.2.2.2 | exact h78 z.2.2.2.2.1 | exact z.2.2.2.1 h69 | exact z.2.2.1 h59 | exact z.2.1 (by omega) | exact z.1 (by omega))
            · refine g_aload_n dX10_canBeOne_81 rfl rfl ?_
              refine g_iload_n dX10_canBeOne_82 rfl rfl ?_
              refine g_iload_n dX10_canBeOne_83 rfl rfl ?_
              refine g_callVr dX10_canBeOne_84 lX10_160 (u_X10_outlives hw hr hb ha) rfl rfl rfl rfl (Nat.le_of_ble_eq_true rfl) ?_
              refine g_if_eqB (tgt := 94) dX10_canBeOne_87 rfl (fun h87 => ?_) (fun h87 => ?_)
              · refine g_iconst dX10_canBeOne_94 ?_
                refine g_zret dX10_canBeOne_95 rfl ?_
                first
                | exact leafT ⟨by omega, by omega, h59, h69, h78, h87⟩
                | exact leafF (fun z => by first | exact h87 z.2.2.2.2.2 | exact h78 z.2.2.2.2.1 | exact z.2.2.2.1 h69 | exact z.2.2.1 h59 | exact z.2.1 (by omega) | exact z.1 (by omega))
              · refine g_iconst dX10_canBeOne_90 ?_
                refine g_goto (tgt := 95) dX10_canBeOne_91 rfl ?_
                refine g_zret dX10_canBeOne_95 rfl ?_
                first
                | exact leafT ⟨by omega, by omega, h59, h69, h78, h87⟩
                | exact leafF (fun z => by first | exact h87 z.2.2.2.2.2 | exact h78 z.2.2.2.2.1 | exact z.2.2.2.1 h69 | exact z.2.2.1 h59 | exact z.2.1 (by omega) | exact z.1 (by omega))
      · refine g_aload_n dX10_canBeOne_35 rfl rfl ?_
        refine g_getr dX10_canBeOne_36 fX10_25 rfl rfl ?_
        refine g_iload_n dX10_canBeOne_39 rfl rfl ?_
        refine g_iald dX10_canBeOne_40 rfl (by decide) ?_
        try simp only [Int.toNat_natCast]
        rw [o2]
        refine g_aload_n dX10_canBeOne_41 rfl rfl ?_
        refine g_getr dX10_canBeOne_42 fX10_25 rfl rfl ?_
        refine g_iload_n dX10_canBeOne_45 rfl rfl ?_
        refine g_iald dX10_canBeOne_46 rfl (by decide) ?_
        try simp only [Int.toNat_natCast]
        rw [p2]
        refine g_icmp_eq (tgt := 52) dX10_canBeOne_47 rfl (fun h47 => ?_) (fun h47 => ?_)
        · refine g_aload_n dX10_canBeOne_52 rfl rfl ?_
          refine g_iload_n dX10_canBeOne_53 rfl rfl ?_
          refine g_iload_n dX10_canBeOne_54 rfl rfl ?_
          refine g_iconst dX10_canBeOne_55 ?_
          refine g_callVr dX10_canBeOne_56 lX10_156 (u_X10_areTwo hw hr (by omega) ha hb) rfl rfl rfl rfl (Nat.le_of_ble_eq_true rfl) ?_
          refine g_if_neB (tgt := 94) dX10_canBeOne_59 rfl (fun h59 => ?_) (fun h59 => ?_)
          · refine g_iconst dX10_canBeOne_94 ?_
            refine g_zret dX10_canBeOne_95 rfl ?_
            first
            | exact leafT ⟨by omega, by omega, h59, h69, h78, h87⟩
            | exact leafF (fun z => by first | exact h87 z.2.2.2.2.2 | exact h78 z.2.2.2.2.1 | exact z.2.2.2.1 h69 | exact z.2.2.1 h59 | exact z.2.1 (by omega) | exact z.1 (by omega))
          · refine g_aload_n dX10_canBeOne_62 rfl rfl ?_
            refine g_iload_n dX10_canBeOne_63 rfl rfl ?_
            refine g_iload_n dX10_canBeOne_64 rfl rfl ?_
            refine g_iconst dX10_canBeOne_65 ?_
            refine g_callVr dX10_canBeOne_66 lX10_156 (u_X10_areTwo hw hr (by omega) ha hb) rfl rfl rfl rfl (Nat.le_of_ble_eq_true rfl) ?_
            refine g_if_neB (tgt := 94) dX10_canBeOne_69 rfl (fun h69 => ?_) (fun h69 => ?_)
            · refine g_iconst dX10_canBeOne_94 ?_
              refine g_zret dX10_canBeOne_95 rfl ?_
              first
              | exact leafT ⟨by omega, by omega, h59, h69, h78, h87⟩
              | exact leafF (fun z => by first | exact h87 z.2.2.2.2.2 | exact h78 z.2.2.2.2.1 | exact z.2.2.2.1 h69 | exact z.2.2.1 h59 | exact z.2.1 (by omega) | exact z.1 (by omega))
            · refine g_aload_n dX10_canBeOne_72 rfl rfl ?_
              refine g_iload_n dX10_canBeOne_73 rfl rfl ?_
              refine g_iload_n dX10_canBeOne_74 rfl rfl ?_
              refine g_callVr dX10_canBeOne_75 lX10_160 (u_X10_outlives hw hr ha hb) rfl rfl rfl rfl (Nat.le_of_ble_eq_true rfl) ?_
              refine g_if_eqB (tgt := 94) dX10_canBeOne_78 rfl (fun h78 => ?_) (fun h78 => ?_)
              · refine g_iconst dX10_canBeOne_94 ?_
                refine g_zret dX10_canBeOne_95 rfl ?_
                first
                | exact leafT ⟨by omega, by omega, h59, h69, h78, h87⟩
                | exact leafF (fun z => by first | exact h87 z.2.2.2.2.2 | exact h78 z.2.2.2.2.1 | exact z.2.2.2.1 h69 | exact z.2.2.1 h59 | exact z.2.1 (by omega) | exact z.1 (by omega))
              · refine g_aload_n dX10_canBeOne_81 rfl rfl ?_
                refine g_iload_n dX10_canBeOne_82 rfl rfl ?_
                refine g_iload_n dX10_canBeOne_83 rfl rfl ?_
                refine g_callVr dX10_canBeOne_84 lX10_160 (u_X10_outlives hw hr hb ha) rfl rfl rfl rfl (Nat.le_of_ble_eq_true rfl) ?_
                refine g_if_eqB (tgt := 94) dX10_canBeOne_87 rfl (fun h87 => ?_) (fun h87 => ?_)
                · refine g_iconst dX10_canBeOne_94 ?_
                  refine g_zret dX10_canBeOne_95 rfl ?_
                  first
                  | exact leafT ⟨by omega, by omega, h59, h69, h78, h87⟩
                  | exact leafF (fun z => by first | exact h87 z.2.2.2.2.2 | exact h78 z.2.2.2.2.1 | exact z.2.2.2.1 h69 | exact z.2.2.1 h59 | exact z.2.1 (by omega) | exact z.1 (by omega))
                · refine g_iconst dX10_canBeOne_90 ?_
                  refine g_goto (tgt := 95) dX10_canBeOne_91 rfl ?_
                  refine g_zret dX10_canBeOne_95 rfl ?_
                  first
                  | exact leafT ⟨by omega, by omega, h59, h69, h78, h87⟩
                  | exact leafF (fun z => by first | exact h87 z.2.2.2.2.2 | exact h78 z.2.2.2.2.1 | exact z.2.2.2.1 h69 | exact z.2.2.1 h59 | exact z.2.1 (by omega) | exact z.1 (by omega))
        · refine g_iconst dX10_canBeOne_50 ?_
          refine g_zret dX10_canBeOne_51 rfl ?_
          first
          | exact leafT ⟨by omega, by omega, h59, h69, h78, h87⟩
          | exact leafF (fun z => by first | exact h87 z.2.2.2.2.2 | exact h78 z.2.2.2.2.1 | exact z.2.2.2.1 h69 | exact z.2.2.1 h59 | exact z.2.1 (by omega) | exact z.1 (by omega))
  · refine g_iconst dX10_canBeOne_15 ?_
    refine g_zret dX10_canBeOne_16 rfl ?_
    first
    | exact leafT ⟨by omega, by omega, h59, h69, h78, h87⟩
    | exact leafF (fun z => by first | exact h87 z.2.2.2.2.2 | exact h78 z.2.2.2.2.1 | exact z.2.2.2.1 h69 | exact z.2.2.1 h59 | exact z.2.1 (by omega) | exact z.1 (by omega))

