/-! MODULE 28: what the reference is told. -/
theorem w_X10_fits {d : Nat} {M : Mem} {y k : Int} (hk0 : 0 ≤ k) (hk3 : k ≤ 3) (y1 : -2147483648 ≤ y) (y2 : y < 2147483648) (hR0 : 0 ≤ M.1 0 12) (hR8 : M.1 0 12 ≤ 8) (hN0 : 0 ≤ M.1 0 13) (hN14 : M.1 0 13 ≤ 14) : WP wdM (d) mX10_fits [vr 0, vi y, vi k] M (Ret (some (vi (bi ((0 ≤ y ∧ y ≤ 3000) ∧ M.1 0 12 < 8 ∧ M.1 0 13 + k ≤ 14)))) M) := by
  refine wp_of (by decide +kernel) (Nat.le_of_ble_eq_true rfl) ?_
  refine g_iload_n dX10_fits_0 rfl rfl ?_
  refine g_if_lt (tgt := 35) dX10_fits_1 rfl (fun h1 => ?_) (fun h1 => ?_)
  · refine g_iconst dX10_fits_35 ?_
    refine g_zret dX10_fits_36 rfl ?_
    first | exact leafT (by omega) | exact leafF (by omega)
  · refine g_iload_n dX10_fits_4 rfl rfl ?_
    refine g_sipush dX10_fits_5 rfl ?_
    refine g_icmp_gt (tgt := 35) dX10_fits_8 rfl (fun h8 => ?_) (fun h8 => ?_)
    · refine g_iconst dX10_fits_35 ?_
      refine g_zret dX10_fits_36 rfl ?_
      first | exact leafT (by omega) | exact leafF (by omega)
    · refine g_aload_n dX10_fits_11 rfl rfl ?_
      refine g_get dX10_fits_12 fX10_114 rfl rfl ?_
      refine g_bipush dX10_fits_15 rfl ?_
      refine g_icmp_ge (tgt := 35) dX10_fits_17 rfl (fun h17 => ?_) (fun h17 => ?_)
      · refine g_iconst dX10_fits_35 ?_
        refine g_zret dX10_fits_36 rfl ?_
        first | exact leafT (by omega) | exact leafF (by omega)
      · refine g_aload_n dX10_fits_20 rfl rfl ?_
        refine g_get dX10_fits_21 fX10_117 rfl rfl ?_
        refine g_iload_n dX10_fits_24 rfl rfl ?_
        refine g_iadd dX10_fits_25 ?_
        refine g_bipush dX10_fits_26 rfl ?_
        refine g_icmp_gt (tgt := 35) dX10_fits_28 rfl (fun h28 => ?_) (fun h28 => ?_)
        · refine g_iconst dX10_fits_35 ?_
          refine g_zret dX10_fits_36 rfl ?_
          first | exact leafT (by omega) | exact leafF (by omega)
        · refine g_iconst dX10_fits_31 ?_
          refine g_goto (tgt := 36) dX10_fits_32 rfl ?_
          refine g_zret dX10_fits_36 rfl ?_
          first | exact leafT (by omega) | exact leafF (by omega)

theorem w_X10_isSex {d : Nat} {M : Mem} {k : Int} (k1 : -2147483648 ≤ k) (k2 : k < 2147483648) : WP wdM (d) mX10_isSex [vi k] M (Ret (some (vi (bi (0 ≤ k ∧ k ≤ 2)))) M) := by
  refine wp_of (by decide +kernel) (Nat.le_of_ble_eq_true rfl) ?_
  refine g_iload_n dX10_isSex_0 rfl rfl ?_
  refine g_if_lt (tgt := 13) dX10_isSex_1 rfl (fun h1 => ?_) (fun h1 => ?_)
  · refine g_iconst dX10_isSex_13 ?_
    refine g_zret dX10_isSex_14 rfl ?_
    first | exact leafT (by omega) | exact leafF (by omega)
  · refine g_iload_n dX10_isSex_4 rfl rfl ?_
    refine g_iconst dX10_isSex_5 ?_
    refine g_icmp_gt (tgt := 13) dX10_isSex_6 rfl (fun h6 => ?_) (fun h6 => ?_)
    · refine g_iconst dX10_isSex_13 ?_
      refine g_zret dX10_isSex_14 rfl ?_
      first | exact leafT (by omega) | exact leafF (by omega)
    · refine g_iconst dX10_isSex_9 ?_
      refine g_goto (tgt := 14) dX10_isSex_10 rfl ?_
      refine g_zret dX10_isSex_14 rfl ?_
      first | exact leafT (by omega) | exact leafF (by omega)

theorem w_X10_isAge {d : Nat} {M : Mem} {k : Int} (k1 : -2147483648 ≤ k) (k2 : k < 2147483648) : WP wdM (d) mX10_isAge [vi k] M (Ret (some (vi (bi (-1 ≤ k ∧ k ≤ 120)))) M) := by
  refine wp_of (by decide +kernel) (Nat.le_of_ble_eq_true rfl) ?_
  refine g_iload_n dX10_isAge_0 rfl rfl ?_
  refine g_iconst dX10_isAge_1 ?_
  refine g_icmp_lt (tgt := 15) dX10_isAge_2 rfl (fun h2 => ?_) (fun h2 => ?_)
  · refine g_iconst dX10_isAge_15 ?_
    refine g_zret dX10_isAge_16 rfl ?_
    first | exact leafT (by omega) | exact leafF (by omega)
  · refine g_iload_n dX10_isAge_5 rfl rfl ?_
    refine g_bipush dX10_isAge_6 rfl ?_
    refine g_icmp_gt (tgt := 15) dX10_isAge_8 rfl (fun h8 => ?_) (fun h8 => ?_)
    · refine g_iconst dX10_isAge_15 ?_
      refine g_zret dX10_isAge_16 rfl ?_
      first | exact leafT (by omega) | exact leafF (by omega)
    · refine g_iconst dX10_isAge_11 ?_
      refine g_goto (tgt := 16) dX10_isAge_12 rfl ?_
      refine g_zret dX10_isAge_16 rfl ?_
      first | exact leafT (by omega) | exact leafF (by omega)

theorem w_X10_isRole {d : Nat} {M : Mem} {k : Int} (k1 : -2147483648 ≤ k) (k2 : k < 2147483648) (hR0 : 0 ≤ M.1 0 12) (hR8 : M.1 0 12 ≤ 8) (hN0 : 0 ≤ M.1 0 13) (hN14 : M.1 0 13 ≤ 14) : WP wdM (d) mX10_isRole [vr 0, vi k] M (Ret (some (vi (bi (0 ≤ k ∧ k < M.1 0 13)))) M) := by
  refine wp_of (by decide +kernel) (Nat.le_of_ble_eq_true rfl) ?_
  refine g_iload_n dX10_isRole_0 rfl rfl ?_
  refine g_if_lt (tgt := 16) dX10_isRole_1 rfl (fun h1 => ?_) (fun h1 => ?_)
  · refine g_iconst dX10_isRole_16 ?_
    refine g_zret dX10_isRole_17 rfl ?_
    first | exact leafT (by omega) | exact leafF (by omega)
  · refine g_iload_n dX10_isRole_4 rfl rfl ?_
    refine g_aload_n dX10_isRole_5 rfl rfl ?_
    refine g_get dX10_isRole_6 fX10_117 rfl rfl ?_
    refine g_icmp_ge (tgt := 16) dX10_isRole_9 rfl (fun h9 => ?_) (fun h9 => ?_)
    · refine g_iconst dX10_isRole_16 ?_
      refine g_zret dX10_isRole_17 rfl ?_
      first | exact leafT (by omega) | exact leafF (by omega)
    · refine g_iconst dX10_isRole_12 ?_
      refine g_goto (tgt := 17) dX10_isRole_13 rfl ?_
      refine g_zret dX10_isRole_17 rfl ?_
      first | exact leafT (by omega) | exact leafF (by omega)

def mopen (M : Mem) (y k : Int) : Mem := si (si (si (si (si (si (si M 1 (M.1 0 12).toNat y) 2 (M.1 0 12).toNat (M.1 0 13)) 3 (M.1 0 12).toNat (-1)) 4 (M.1 0 12).toNat k) 0 12 (M.1 0 12 + 1)) 2 (M.1 0 12 + 1).toNat (M.1 0 13)) 0 21 0
def madd (M : Mem) (k s a : Int) (n : Int64) (f : Int) : Mem := si (si (si (sj (si (si (si (si M 5 (M.1 0 13).toNat (M.1 0 12 - 1)) 8 (M.1 0 13).toNat k) 6 (M.1 0 13).toNat s) 7 (M.1 0 13).toNat a) 11 (M.1 0 13).toNat n) 9 (M.1 0 13).toNat f) 0 13 (M.1 0 13 + 1)) 2 (M.1 0 12).toNat (M.1 0 13 + 1)
abbrev mbirthOK (M : Mem) (y s : Int) (c m f : Int64) : Prop := (0 ≤ y ∧ y ≤ 3000) ∧ (0 ≤ s ∧ s ≤ 2) ∧ NameOK c ∧ NameOK m ∧ NameOK f ∧ M.1 0 12 < 8 ∧ M.1 0 13 + 3 ≤ 14
def mbirthM (M : Mem) (y s : Int) (c m f : Int64) : Mem := madd (madd (madd (mopen M y 0) 0 s (-1) c (-1)) 1 1 (-1) m (-1)) 2 2 (-1) f (-1)
abbrev mweddingOK (M : Mem) (y : Int) (c m : Int64) : Prop := (0 ≤ y ∧ y ≤ 3000) ∧ NameOK c ∧ NameOK m ∧ M.1 0 12 < 8 ∧ M.1 0 13 + 2 ≤ 14
def mweddingM (M : Mem) (y : Int) (c m : Int64) : Mem := madd (madd (mopen M y 2) 3 1 (-1) c (-1)) 4 2 (-1) m (-1)
abbrev msingleOK (M : Mem) (y s : Int) (n : Int64) (a : Int) : Prop := (0 ≤ y ∧ y ≤ 3000) ∧ (0 ≤ s ∧ s ≤ 2) ∧ NameOK n ∧ (-1 ≤ a ∧ a ≤ 120) ∧ M.1 0 12 < 8 ∧ M.1 0 13 + 1 ≤ 14
def msingleM (M : Mem) (rk k y s : Int) (n : Int64) (a : Int) : Mem := madd (mopen M y rk) k s a n (-1)
abbrev mtwoOK (M : Mem) (y s t : Int) (c m : Int64) : Prop := (0 ≤ y ∧ y ≤ 3000) ∧ (0 ≤ s ∧ s ≤ 2) ∧ (0 ≤ t ∧ t ≤ 2) ∧ NameOK c ∧ NameOK m ∧ M.1 0 12 < 8 ∧ M.1 0 13 + 2 ≤ 14
def mtwoM (M : Mem) (y s t : Int) (c m : Int64) : Mem := madd (madd (mopen M y 4) 7 s (-1) c (-1)) 7 t (-1) m (-1)
def mcopyK (M : Mem) (f : Nat) (nm : Nat → Int64) : Nat → Mem
  | 0 => M
  | i + 1 => madd (mcopyK M f nm i) ((mcopyK M f nm i).1 8 (f + i)) ((mcopyK M f nm i).1 6 (f + i)) ((mcopyK M f nm i).1 7 (f + i)) (nm i) ((f + i : Nat) : Int)
def mcopyO (M : Mem) (r : Nat) : Mem := si (mopen M (M.1 1 r) (M.1 4 r)) 3 (M.1 0 12).toNat r
theorem mcopyK_f (M : Mem) (f : Nat) (nm : Nat → Int64) : ∀ i : Nat, (mcopyK M f nm i).1 0 12 = M.1 0 12 ∧ (mcopyK M f nm i).1 0 13 = M.1 0 13 + i
  | 0 => ⟨rfl, by show M.1 0 13 = M.1 0 13 + ((0 : Nat) : Int); omega⟩
  | i + 1 => by
    obtain ⟨h1, h2⟩ := mcopyK_f M f nm i
    refine ⟨h1, ?_⟩
    show (mcopyK M f nm i).1 0 13 + 1 = _
    rw [h2]; push_cast; omega
abbrev mcopyOK (M : Mem) (r n : Nat) (a b c : Int64) : Prop := M.1 3 r < 0 ∧ NameOK a ∧ (2 ≤ n → NameOK b) ∧ (3 ≤ n → NameOK c) ∧ M.1 0 12 < 8 ∧ M.1 0 13 + n ≤ 14
def mdropM (M : Mem) : Mem := si (si (si M 0 12 (M.1 0 12 - 1)) 0 13 (M.1 2 (M.1 0 12 - 1).toNat)) 0 21 0
def mlawsM (M : Mem) (g mo fa li ro : Int) : Mem := si (si (si (si (si (si M 0 16 g) 0 17 mo) 0 18 fa) 0 19 li) 0 20 ro) 0 21 0
def msoundM (M : Mem) (a b z : Int) : Mem := si (si (si M 12 (26 * a + b).toNat z) 12 (26 * b + a).toNat z) 0 21 0
def mbudgetM (M : Mem) (c p : Int) : Mem := si (si (si M 0 14 c) 0 15 p) 0 21 0
def mroleS (M : Mem) (r : Nat) (w : Int) : Int := if w = 0 then M.1 5 r else if w = 1 then M.1 1 (M.1 5 r).toNat else if w = 2 then M.1 6 r else if w = 3 then M.1 7 r else if w = 4 then M.1 8 r else if w = 5 then M.1 9 r else -1

theorem w_X10_open {d : Nat} {M : Mem} {y k : Int} (hR0 : 0 ≤ M.1 0 12) (hR8 : M.1 0 12 ≤ 8) (hN0 : 0 ≤ M.1 0 13) (hN14 : M.1 0 13 ≤ 14) (h8 : M.1 0 12 < 8) : WP wdM (d) mX10_open [vr 0, vi y, vi k] M (Ret (some (vi (M.1 0 12 + 1 - 1))) (mopen M y k)) := by
  refine wp_of (by decide +kernel) (Nat.le_of_ble_eq_true rfl) ?_
  refine g_aload_n dX10_open_0 rfl rfl ?_
  refine g_getr dX10_open_1 fX10_7 rfl rfl ?_
  refine g_aload_n dX10_open_4 rfl rfl ?_
  refine g_get dX10_open_5 fX10_114 rfl rfl ?_
  refine g_iload_n dX10_open_8 rfl rfl ?_
  refine g_iast dX10_open_9 rfl (by decide) ?_
  refine g_aload_n dX10_open_10 rfl rfl ?_
  refine g_getr dX10_open_11 fX10_13 rfl rfl ?_
  refine g_aload_n dX10_open_14 rfl rfl ?_
  refine g_get dX10_open_15 fX10_114 rfl rfl ?_
  try simp only [sil, sjl, Nat.reduceAdd, Nat.reduceEqDiff, eq_self, false_and, and_false, true_and, and_true, if_false, if_true, reduceIte]
  refine g_aload_n dX10_open_18 rfl rfl ?_
  refine g_get dX10_open_19 fX10_117 rfl rfl ?_
  try simp only [sil, sjl, Nat.reduceAdd, Nat.reduceEqDiff, eq_self, false_and, and_false, true_and, and_true, if_false, if_true, reduceIte]
  refine g_iast dX10_open_22 rfl (by decide) ?_
  refine g_aload_n dX10_open_23 rfl rfl ?_
  refine g_getr dX10_open_24 fX10_16 rfl rfl ?_
  refine g_aload_n dX10_open_27 rfl rfl ?_
  refine g_get dX10_open_28 fX10_114 rfl rfl ?_
  try simp only [sil, sjl, Nat.reduceAdd, Nat.reduceEqDiff, eq_self, false_and, and_false, true_and, and_true, if_false, if_true, reduceIte]
  refine g_iconst dX10_open_31 ?_
  refine g_iast dX10_open_32 rfl (by decide) ?_
  refine g_aload_n dX10_open_33 rfl rfl ?_
  refine g_getr dX10_open_34 fX10_19 rfl rfl ?_
  refine g_aload_n dX10_open_37 rfl rfl ?_
  refine g_get dX10_open_38 fX10_114 rfl rfl ?_
  try simp only [sil, sjl, Nat.reduceAdd, Nat.reduceEqDiff, eq_self, false_and, and_false, true_and, and_true, if_false, if_true, reduceIte]
  refine g_iload_n dX10_open_41 rfl rfl ?_
  refine g_iast dX10_open_42 rfl (by decide) ?_
  refine g_aload_n dX10_open_43 rfl rfl ?_
  refine g_dup dX10_open_44 rfl ?_
  refine g_get dX10_open_45 fX10_114 rfl rfl ?_
  try simp only [sil, sjl, Nat.reduceAdd, Nat.reduceEqDiff, eq_self, false_and, and_false, true_and, and_true, if_false, if_true, reduceIte]
  refine g_iconst dX10_open_48 ?_
  refine g_iadd dX10_open_49 ?_
  refine g_puti dX10_open_50 fX10_114 rfl rfl rfl (tyX10_ok 12 (by decide)) ?_
  refine g_aload_n dX10_open_53 rfl rfl ?_
  refine g_getr dX10_open_54 fX10_13 rfl rfl ?_
  refine g_aload_n dX10_open_57 rfl rfl ?_
  refine g_get dX10_open_58 fX10_114 rfl rfl ?_
  try simp only [sil, sjl, Nat.reduceAdd, Nat.reduceEqDiff, eq_self, false_and, and_false, true_and, and_true, if_false, if_true, reduceIte]
  refine g_aload_n dX10_open_61 rfl rfl ?_
  refine g_get dX10_open_62 fX10_117 rfl rfl ?_
  try simp only [sil, sjl, Nat.reduceAdd, Nat.reduceEqDiff, eq_self, false_and, and_false, true_and, and_true, if_false, if_true, reduceIte]
  refine g_iast dX10_open_65 rfl (by decide) ?_
  refine g_aload_n dX10_open_66 rfl rfl ?_
  refine g_iconst dX10_open_67 ?_
  refine g_putz dX10_open_68 fX10_120 rfl rfl rfl (tyX10_ok 21 (by decide)) ?_
  refine g_aload_n dX10_open_71 rfl rfl ?_
  refine g_get dX10_open_72 fX10_114 rfl rfl ?_
  try simp only [sil, sjl, Nat.reduceAdd, Nat.reduceEqDiff, eq_self, false_and, and_false, true_and, and_true, if_false, if_true, reduceIte]
  refine g_iconst dX10_open_75 ?_
  refine g_isub dX10_open_76 ?_
  refine g_iret dX10_open_77 rfl ?_
  exact ⟨rfl, rfl⟩

theorem w_X10_add {d : Nat} {M : Mem} {k s a f : Int} {n : Int64} (hR0 : 0 ≤ M.1 0 12) (hR8 : M.1 0 12 ≤ 8) (hN0 : 0 ≤ M.1 0 13) (hN14 : M.1 0 13 ≤ 14) (h1 : 1 ≤ M.1 0 12) (h8 : M.1 0 13 < 14) : WP wdM (d) mX10_add [vr 0, vi k, vi s, vi a, vl n, vi f] M (Ret (none) (madd M k s a n f)) := by
  refine wp_of (by decide +kernel) (Nat.le_of_ble_eq_true rfl) ?_
  refine g_aload_n dX10_add_0 rfl rfl ?_
  refine g_getr dX10_add_1 fX10_22 rfl rfl ?_
  refine g_aload_n dX10_add_4 rfl rfl ?_
  refine g_get dX10_add_5 fX10_117 rfl rfl ?_
  refine g_aload_n dX10_add_8 rfl rfl ?_
  refine g_get dX10_add_9 fX10_114 rfl rfl ?_
  refine g_iconst dX10_add_12 ?_
  refine g_isub dX10_add_13 ?_
  refine g_iast dX10_add_14 rfl (by decide) ?_
  refine g_aload_n dX10_add_15 rfl rfl ?_
  refine g_getr dX10_add_16 fX10_31 rfl rfl ?_
  refine g_aload_n dX10_add_19 rfl rfl ?_
  refine g_get dX10_add_20 fX10_117 rfl rfl ?_
  try simp only [sil, sjl, Nat.reduceAdd, Nat.reduceEqDiff, eq_self, false_and, and_false, true_and, and_true, if_false, if_true, reduceIte]
  refine g_iload_n dX10_add_23 rfl rfl ?_
  refine g_iast dX10_add_24 rfl (by decide) ?_
  refine g_aload_n dX10_add_25 rfl rfl ?_
  refine g_getr dX10_add_26 fX10_25 rfl rfl ?_
  refine g_aload_n dX10_add_29 rfl rfl ?_
  refine g_get dX10_add_30 fX10_117 rfl rfl ?_
  try simp only [sil, sjl, Nat.reduceAdd, Nat.reduceEqDiff, eq_self, false_and, and_false, true_and, and_true, if_false, if_true, reduceIte]
  refine g_iload_n dX10_add_33 rfl rfl ?_
  refine g_iast dX10_add_34 rfl (by decide) ?_
  refine g_aload_n dX10_add_35 rfl rfl ?_
  refine g_getr dX10_add_36 fX10_28 rfl rfl ?_
  refine g_aload_n dX10_add_39 rfl rfl ?_
  refine g_get dX10_add_40 fX10_117 rfl rfl ?_
  try simp only [sil, sjl, Nat.reduceAdd, Nat.reduceEqDiff, eq_self, false_and, and_false, true_and, and_true, if_false, if_true, reduceIte]
  refine g_iload_n dX10_add_43 rfl rfl ?_
  refine g_iast dX10_add_44 rfl (by decide) ?_
  refine g_aload_n dX10_add_45 rfl rfl ?_
  refine g_getr dX10_add_46 fX10_40 rfl rfl ?_
  refine g_aload_n dX10_add_49 rfl rfl ?_
  refine g_get dX10_add_50 fX10_117 rfl rfl ?_
  try simp only [sil, sjl, Nat.reduceAdd, Nat.reduceEqDiff, eq_self, false_and, and_false, true_and, and_true, if_false, if_true, reduceIte]
  refine g_lload dX10_add_53 rfl ?_
  refine g_last dX10_add_55 rfl (by decide) ?_
  refine g_aload_n dX10_add_56 rfl rfl ?_
  refine g_getr dX10_add_57 fX10_34 rfl rfl ?_
  refine g_aload_n dX10_add_60 rfl rfl ?_
  refine g_get dX10_add_61 fX10_117 rfl rfl ?_
  try simp only [sil, sjl, Nat.reduceAdd, Nat.reduceEqDiff, eq_self, false_and, and_false, true_and, and_true, if_false, if_true, reduceIte]
  refine g_iload dX10_add_64 rfl ?_
  refine g_iast dX10_add_66 rfl (by decide) ?_
  refine g_aload_n dX10_add_67 rfl rfl ?_
  refine g_dup dX10_add_68 rfl ?_
  refine g_get dX10_add_69 fX10_117 rfl rfl ?_
  try simp only [sil, sjl, Nat.reduceAdd, Nat.reduceEqDiff, eq_self, false_and, and_false, true_and, and_true, if_false, if_true, reduceIte]
  refine g_iconst dX10_add_72 ?_
  refine g_iadd dX10_add_73 ?_
  refine g_puti dX10_add_74 fX10_117 rfl rfl rfl (tyX10_ok 13 (by decide)) ?_
  refine g_aload_n dX10_add_77 rfl rfl ?_
  refine g_getr dX10_add_78 fX10_13 rfl rfl ?_
  refine g_aload_n dX10_add_81 rfl rfl ?_
  refine g_get dX10_add_82 fX10_114 rfl rfl ?_
  try simp only [sil, sjl, Nat.reduceAdd, Nat.reduceEqDiff, eq_self, false_and, and_false, true_and, and_true, if_false, if_true, reduceIte]
  refine g_aload_n dX10_add_85 rfl rfl ?_
  refine g_get dX10_add_86 fX10_117 rfl rfl ?_
  try simp only [sil, sjl, Nat.reduceAdd, Nat.reduceEqDiff, eq_self, false_and, and_false, true_and, and_true, if_false, if_true, reduceIte]
  refine g_iast dX10_add_89 rfl (by decide) ?_
  refine g_vret dX10_add_90 rfl ?_
  exact ⟨rfl, rfl⟩

theorem w_X10_birth {d : Nat} {M : Mem} {y s : Int} {c m f : Int64} (y1 : -2147483648 ≤ y) (y2 : y < 2147483648) (s1 : -2147483648 ≤ s) (s2 : s < 2147483648) (hR0 : 0 ≤ M.1 0 12) (hR8 : M.1 0 12 ≤ 8) (hN0 : 0 ≤ M.1 0 13) (hN14 : M.1 0 13 ≤ 14) : WP wdM (d + 3) mX10_birth [vr 0, vi y, vi s, vl c, vl m, vl f] M (Ret (some (vi (if mbirthOK M y s c m f then M.1 0 12 else -1))) (if mbirthOK M y s c m f then mbirthM M y s c m f else M)) := by
  refine wp_of (by decide +kernel) (Nat.le_of_ble_eq_true rfl) ?_
  refine g_aload_n dX10_birth_0 rfl rfl ?_
  refine g_iload_n dX10_birth_1 rfl rfl ?_
  refine g_iconst dX10_birth_2 ?_
  refine g_callVr dX10_birth_3 lX10_124 (w_X10_fits (by omega) (by omega) (by omega) (by omega) hR0 hR8 hN0 hN14) rfl rfl rfl rfl (Nat.le_of_ble_eq_true rfl) ?_
  refine g_if_eqB (tgt := 39) dX10_birth_6 rfl (fun h6 => ?_) (fun h6 => ?_)
  · refine g_iconst dX10_birth_39 ?_
    refine g_iret dX10_birth_40 rfl ?_
    exact leafN (fun z => by first | exact h36 z.2.2.2.2.1 | exact h28 z.2.2.2.1 | exact h20 z.2.2.1 | exact h13 z.2.1 | exact h6 ⟨z.1, z.2.2.2.2.2⟩)
  · refine g_iload_n dX10_birth_9 rfl rfl ?_
    refine g_callSr dX10_birth_10 lX10_128 (w_X10_isSex (by omega) (by omega)) rfl rfl (Nat.le_of_ble_eq_true rfl) ?_
    refine g_if_eqB (tgt := 39) dX10_birth_13 rfl (fun h13 => ?_) (fun h13 => ?_)
    · refine g_iconst dX10_birth_39 ?_
      refine g_iret dX10_birth_40 rfl ?_
      exact leafN (fun z => by first | exact h36 z.2.2.2.2.1 | exact h28 z.2.2.2.1 | exact h20 z.2.2.1 | exact h13 z.2.1 | exact h6 ⟨z.1, z.2.2.2.2.2⟩)
    · refine g_lload_n dX10_birth_16 rfl rfl ?_
      refine g_callSr dX10_birth_17 lX10_106 (w_X10_isName) rfl rfl (Nat.le_of_ble_eq_true rfl) ?_
      refine g_if_eqB (tgt := 39) dX10_birth_20 rfl (fun h20 => ?_) (fun h20 => ?_)
      · refine g_iconst dX10_birth_39 ?_
        refine g_iret dX10_birth_40 rfl ?_
        exact leafN (fun z => by first | exact h36 z.2.2.2.2.1 | exact h28 z.2.2.2.1 | exact h20 z.2.2.1 | exact h13 z.2.1 | exact h6 ⟨z.1, z.2.2.2.2.2⟩)
      · refine g_lload dX10_birth_23 rfl ?_
        refine g_callSr dX10_birth_25 lX10_106 (w_X10_isName) rfl rfl (Nat.le_of_ble_eq_true rfl) ?_
        refine g_if_eqB (tgt := 39) dX10_birth_28 rfl (fun h28 => ?_) (fun h28 => ?_)
        · refine g_iconst dX10_birth_39 ?_
          refine g_iret dX10_birth_40 rfl ?_
          exact leafN (fun z => by first | exact h36 z.2.2.2.2.1 | exact h28 z.2.2.2.1 | exact h20 z.2.2.1 | exact h13 z.2.1 | exact h6 ⟨z.1, z.2.2.2.2.2⟩)
        · refine g_lload dX10_birth_31 rfl ?_
          refine g_callSr dX10_birth_33 lX10_106 (w_X10_isName) rfl rfl (Nat.le_of_ble_eq_true rfl) ?_
          refine g_if_neB (tgt := 41) dX10_birth_36 rfl (fun h36 => ?_) (fun h36 => ?_)
          · refine g_aload_n dX10_birth_41 rfl rfl ?_
            refine g_iload_n dX10_birth_42 rfl rfl ?_
            refine g_iconst dX10_birth_43 ?_
            refine g_callVr dX10_birth_44 lX10_132 (w_X10_open hR0 hR8 hN0 hN14 (by omega)) rfl rfl rfl rfl (Nat.le_of_ble_eq_true rfl) ?_
            refine g_istore (ls' := [some _, some _, some _, some _, _, some _, _, some _, _, some _]) dX10_birth_47 (by decide) rfl ?_
            refine g_aload_n dX10_birth_49 rfl rfl ?_
            refine g_iconst dX10_birth_50 ?_
            refine g_iload_n dX10_birth_51 rfl rfl ?_
            refine g_iconst dX10_birth_52 ?_
            refine g_lload_n dX10_birth_53 rfl rfl ?_
            refine g_iconst dX10_birth_54 ?_
            refine g_callVr dX10_birth_55 lX10_136 (w_X10_add (M := mopen M y 0) (by show 0 ≤ M.1 0 12 + 1; omega) (by show M.1 0 12 + 1 ≤ 8; omega) (by show 0 ≤ M.1 0 13; omega) (by show M.1 0 13 ≤ 14; omega) (by show 1 ≤ M.1 0 12 + 1; omega) (by show M.1 0 13 < 14; omega)) rfl rfl rfl rfl (Nat.le_of_ble_eq_true rfl) ?_
            refine g_aload_n dX10_birth_58 rfl rfl ?_
            refine g_iconst dX10_birth_59 ?_
            refine g_iconst dX10_birth_60 ?_
            refine g_iconst dX10_birth_61 ?_
            refine g_lload dX10_birth_62 rfl ?_
            refine g_iconst dX10_birth_64 ?_
            refine g_callVr dX10_birth_65 lX10_136 (w_X10_add (M := madd (mopen M y 0) 0 s (-1) c (-1)) (by show 0 ≤ M.1 0 12 + 1; omega) (by show M.1 0 12 + 1 ≤ 8; omega) (by show 0 ≤ M.1 0 13 + 1; omega) (by show M.1 0 13 + 1 ≤ 14; omega) (by show 1 ≤ M.1 0 12 + 1; omega) (by show M.1 0 13 + 1 < 14; omega)) rfl rfl rfl rfl (Nat.le_of_ble_eq_true rfl) ?_
            refine g_aload_n dX10_birth_68 rfl rfl ?_
            refine g_iconst dX10_birth_69 ?_
            refine g_iconst dX10_birth_70 ?_
            refine g_iconst dX10_birth_71 ?_
            refine g_lload dX10_birth_72 rfl ?_
            refine g_iconst dX10_birth_74 ?_
            refine g_callVr dX10_birth_75 lX10_136 (w_X10_add (M := madd (madd (mopen M y 0) 0 s (-1) c (-1)) 1 1 (-1) m (-1)) (by show 0 ≤ M.1 0 12 + 1; omega) (by show M.1 0 12 + 1 ≤ 8; omega) (by show 0 ≤ M.1 0 13 + 1 + 1; omega) (by show M.1 0 13 + 1 + 1 ≤ 14; omega) (by show 1 ≤ M.1 0 12 + 1; omega) (by show M.1 0 13 + 1 + 1 < 14; omega)) rfl rfl rfl rfl (Nat.le_of_ble_eq_true rfl) ?_
            refine g_iload dX10_birth_78 rfl ?_
            refine g_iret dX10_birth_80 rfl ?_
            exact leafY ⟨h6.1, h13, h20, h28, h36, h6.2⟩ (by show M.1 0 12 + 1 - 1 = _; omega)
          · refine g_iconst dX10_birth_39 ?_
            refine g_iret dX10_birth_40 rfl ?_
            exact leafN (fun z => by first | exact h36 z.2.2.2.2.1 | exact h28 z.2.2.2.1 | exact h20 z.2.2.1 | exact h13 z.2.1 | exact h6 ⟨z.1, z.2.2.2.2.2⟩)

theorem w_X10_wedding {d : Nat} {M : Mem} {y : Int} {c m : Int64} (y1 : -2147483648 ≤ y) (y2 : y < 2147483648) (hR0 : 0 ≤ M.1 0 12) (hR8 : M.1 0 12 ≤ 8) (hN0 : 0 ≤ M.1 0 13) (hN14 : M.1 0 13 ≤ 14) : WP wdM (d + 3) mX10_wedding [vr 0, vi y, vl c, vl m] M (Ret (some (vi (if mweddingOK M y c m then M.1 0 12 else -1))) (if mweddingOK M y c m then mweddingM M y c m else M)) := by
  refine wp_of (by decide +kernel) (Nat.le_of_ble_eq_true rfl) ?_
  refine g_aload_n dX10_wedding_0 rfl rfl ?_
  refine g_iload_n dX10_wedding_1 rfl rfl ?_
  refine g_iconst dX10_wedding_2 ?_
  refine g_callVr dX10_wedding_3 lX10_124 (w_X10_fits (by omega) (by omega) (by omega) (by omega) hR0 hR8 hN0 hN14) rfl rfl rfl rfl (Nat.le_of_ble_eq_true rfl) ?_
  refine g_if_eqB (tgt := 24) dX10_wedding_6 rfl (fun h6 => ?_) (fun h6 => ?_)
  · refine g_iconst dX10_wedding_24 ?_
    refine g_iret dX10_wedding_25 rfl ?_
    exact leafN (fun z => by first | exact h21 z.2.2.1 | exact h13 z.2.1 | exact h6 ⟨z.1, z.2.2.2⟩)
  · refine g_lload_n dX10_wedding_9 rfl rfl ?_
    refine g_callSr dX10_wedding_10 lX10_106 (w_X10_isName) rfl rfl (Nat.le_of_ble_eq_true rfl) ?_
    refine g_if_eqB (tgt := 24) dX10_wedding_13 rfl (fun h13 => ?_) (fun h13 => ?_)
    · refine g_iconst dX10_wedding_24 ?_
      refine g_iret dX10_wedding_25 rfl ?_
      exact leafN (fun z => by first | exact h21 z.2.2.1 | exact h13 z.2.1 | exact h6 ⟨z.1, z.2.2.2⟩)
    · refine g_lload dX10_wedding_16 rfl ?_
      refine g_callSr dX10_wedding_18 lX10_106 (w_X10_isName) rfl rfl (Nat.le_of_ble_eq_true rfl) ?_
      refine g_if_neB (tgt := 26) dX10_wedding_21 rfl (fun h21 => ?_) (fun h21 => ?_)
      · refine g_aload_n dX10_wedding_26 rfl rfl ?_
        refine g_iload_n dX10_wedding_27 rfl rfl ?_
        refine g_iconst dX10_wedding_28 ?_
        refine g_callVr dX10_wedding_29 lX10_132 (w_X10_open hR0 hR8 hN0 hN14 (by omega)) rfl rfl rfl rfl (Nat.le_of_ble_eq_true rfl) ?_
        refine g_istore (ls' := [some _, some _, some _, _, some _, _, some _]) dX10_wedding_32 (by decide) rfl ?_
        refine g_aload_n dX10_wedding_34 rfl rfl ?_
        refine g_iconst dX10_wedding_35 ?_
        refine g_iconst dX10_wedding_36 ?_
        refine g_iconst dX10_wedding_37 ?_
        refine g_lload_n dX10_wedding_38 rfl rfl ?_
        refine g_iconst dX10_wedding_39 ?_
        refine g_callVr dX10_wedding_40 lX10_136 (w_X10_add (M := mopen M y 2) (by show 0 ≤ M.1 0 12 + 1; omega) (by show M.1 0 12 + 1 ≤ 8; omega) (by show 0 ≤ M.1 0 13; omega) (by show M.1 0 13 ≤ 14; omega) (by show 1 ≤ M.1 0 12 + 1; omega) (by show M.1 0 13 < 14; omega)) rfl rfl rfl rfl (Nat.le_of_ble_eq_true rfl) ?_
        refine g_aload_n dX10_wedding_43 rfl rfl ?_
        refine g_iconst dX10_wedding_44 ?_
        refine g_iconst dX10_wedding_45 ?_
        refine g_iconst dX10_wedding_46 ?_
        refine g_lload dX10_wedding_47 rfl ?_
        refine g_iconst dX10_wedding_49 ?_
        refine g_callVr dX10_wedding_50 lX10_136 (w_X10_add (M := madd (mopen M y 2) 3 1 (-1) c (-1)) (by show 0 ≤ M.1 0 12 + 1; omega) (by show M.1 0 12 + 1 ≤ 8; omega) (by show 0 ≤ M.1 0 13 + 1; omega) (by show M.1 0 13 + 1 ≤ 14; omega) (by show 1 ≤ M.1 0 12 + 1; omega) (by show M.1 0 13 + 1 < 14; omega)) rfl rfl rfl rfl (Nat.le_of_ble_eq_true rfl) ?_
        refine g_iload dX10_wedding_53 rfl ?_
        refine g_iret dX10_wedding_55 rfl ?_
        exact leafY ⟨h6.1, h13, h21, h6.2⟩ (by show M.1 0 12 + 1 - 1 = _; omega)
      · refine g_iconst dX10_wedding_24 ?_
        refine g_iret dX10_wedding_25 rfl ?_
        exact leafN (fun z => by first | exact h21 z.2.2.1 | exact h13 z.2.1 | exact h6 ⟨z.1, z.2.2.2⟩)

theorem w_X10_found {d : Nat} {M : Mem} {y s : Int} {n : Int64} (y1 : -2147483648 ≤ y) (y2 : y < 2147483648) (s1 : -2147483648 ≤ s) (s2 : s < 2147483648) (hR0 : 0 ≤ M.1 0 12) (hR8 : M.1 0 12 ≤ 8) (hN0 : 0 ≤ M.1 0 13) (hN14 : M.1 0 13 ≤ 14) : WP wdM (d + 3) mX10_found [vr 0, vi y, vi s, vl n] M (Ret (some (vi (if msingleOK M y s n (-1) then M.1 0 12 else -1))) (if msingleOK M y s n (-1) then msingleM M 1 0 y s n (-1) else M)) := by
  refine wp_of (by decide +kernel) (Nat.le_of_ble_eq_true rfl) ?_
  refine g_aload_n dX10_found_0 rfl rfl ?_
  refine g_iload_n dX10_found_1 rfl rfl ?_
  refine g_iconst dX10_found_2 ?_
  refine g_callVr dX10_found_3 lX10_124 (w_X10_fits (by omega) (by omega) (by omega) (by omega) hR0 hR8 hN0 hN14) rfl rfl rfl rfl (Nat.le_of_ble_eq_true rfl) ?_
  refine g_if_eqB (tgt := 23) dX10_found_6 rfl (fun h6 => ?_) (fun h6 => ?_)
  · refine g_iconst dX10_found_23 ?_
    refine g_iret dX10_found_24 rfl ?_
    exact leafN (fun z => by first | exact h20 z.2.2.1 | exact h13 z.2.1 | exact h6 ⟨z.1, z.2.2.2.2⟩)
  · refine g_iload_n dX10_found_9 rfl rfl ?_
    refine g_callSr dX10_found_10 lX10_128 (w_X10_isSex (by omega) (by omega)) rfl rfl (Nat.le_of_ble_eq_true rfl) ?_
    refine g_if_eqB (tgt := 23) dX10_found_13 rfl (fun h13 => ?_) (fun h13 => ?_)
    · refine g_iconst dX10_found_23 ?_
      refine g_iret dX10_found_24 rfl ?_
      exact leafN (fun z => by first | exact h20 z.2.2.1 | exact h13 z.2.1 | exact h6 ⟨z.1, z.2.2.2.2⟩)
    · refine g_lload_n dX10_found_16 rfl rfl ?_
      refine g_callSr dX10_found_17 lX10_106 (w_X10_isName) rfl rfl (Nat.le_of_ble_eq_true rfl) ?_
      refine g_if_neB (tgt := 25) dX10_found_20 rfl (fun h20 => ?_) (fun h20 => ?_)
      · refine g_aload_n dX10_found_25 rfl rfl ?_
        refine g_iload_n dX10_found_26 rfl rfl ?_
        refine g_iconst dX10_found_27 ?_
        refine g_callVr dX10_found_28 lX10_132 (w_X10_open hR0 hR8 hN0 hN14 (by omega)) rfl rfl rfl rfl (Nat.le_of_ble_eq_true rfl) ?_
        refine g_istore (ls' := [some _, some _, some _, some _, _, some _]) dX10_found_31 (by decide) rfl ?_
        refine g_aload_n dX10_found_33 rfl rfl ?_
        refine g_iconst dX10_found_34 ?_
        refine g_iload_n dX10_found_35 rfl rfl ?_
        refine g_iconst dX10_found_36 ?_
        refine g_lload_n dX10_found_37 rfl rfl ?_
        refine g_iconst dX10_found_38 ?_
        refine g_callVr dX10_found_39 lX10_136 (w_X10_add (M := mopen M y 1) (by show 0 ≤ M.1 0 12 + 1; omega) (by show M.1 0 12 + 1 ≤ 8; omega) (by show 0 ≤ M.1 0 13; omega) (by show M.1 0 13 ≤ 14; omega) (by show 1 ≤ M.1 0 12 + 1; omega) (by show M.1 0 13 < 14; omega)) rfl rfl rfl rfl (Nat.le_of_ble_eq_true rfl) ?_
        refine g_iload dX10_found_42 rfl ?_
        refine g_iret dX10_found_44 rfl ?_
        exact leafY ⟨h6.1, h13, h20, by omega, h6.2⟩ (by show M.1 0 12 + 1 - 1 = _; omega)
      · refine g_iconst dX10_found_23 ?_
        refine g_iret dX10_found_24 rfl ?_
        exact leafN (fun z => by first | exact h20 z.2.2.1 | exact h13 z.2.1 | exact h6 ⟨z.1, z.2.2.2.2⟩)

theorem w_X10_one {d : Nat} {M : Mem} {k y s a : Int} {n : Int64} (y1 : -2147483648 ≤ y) (y2 : y < 2147483648) (s1 : -2147483648 ≤ s) (s2 : s < 2147483648) (a1 : -2147483648 ≤ a) (a2 : a < 2147483648) (hR0 : 0 ≤ M.1 0 12) (hR8 : M.1 0 12 ≤ 8) (hN0 : 0 ≤ M.1 0 13) (hN14 : M.1 0 13 ≤ 14) : WP wdM (d + 3) mX10_one [vr 0, vi y, vi s, vl n, vi a, vi k] M (Ret (some (vi (if msingleOK M y s n a then M.1 0 12 else -1))) (if msingleOK M y s n a then msingleM M 3 k y s n a else M)) := by
  refine wp_of (by decide +kernel) (Nat.le_of_ble_eq_true rfl) ?_
  refine g_aload_n dX10_one_0 rfl rfl ?_
  refine g_iload_n dX10_one_1 rfl rfl ?_
  refine g_iconst dX10_one_2 ?_
  refine g_callVr dX10_one_3 lX10_124 (w_X10_fits (by omega) (by omega) (by omega) (by omega) hR0 hR8 hN0 hN14) rfl rfl rfl rfl (Nat.le_of_ble_eq_true rfl) ?_
  refine g_if_eqB (tgt := 31) dX10_one_6 rfl (fun h6 => ?_) (fun h6 => ?_)
  · refine g_iconst dX10_one_31 ?_
    refine g_iret dX10_one_32 rfl ?_
    exact leafN (fun z => by first | exact h28 z.2.2.2.1 | exact h20 z.2.2.1 | exact h13 z.2.1 | exact h6 ⟨z.1, z.2.2.2.2⟩)
  · refine g_iload_n dX10_one_9 rfl rfl ?_
    refine g_callSr dX10_one_10 lX10_128 (w_X10_isSex (by omega) (by omega)) rfl rfl (Nat.le_of_ble_eq_true rfl) ?_
    refine g_if_eqB (tgt := 31) dX10_one_13 rfl (fun h13 => ?_) (fun h13 => ?_)
    · refine g_iconst dX10_one_31 ?_
      refine g_iret dX10_one_32 rfl ?_
      exact leafN (fun z => by first | exact h28 z.2.2.2.1 | exact h20 z.2.2.1 | exact h13 z.2.1 | exact h6 ⟨z.1, z.2.2.2.2⟩)
    · refine g_lload_n dX10_one_16 rfl rfl ?_
      refine g_callSr dX10_one_17 lX10_106 (w_X10_isName) rfl rfl (Nat.le_of_ble_eq_true rfl) ?_
      refine g_if_eqB (tgt := 31) dX10_one_20 rfl (fun h20 => ?_) (fun h20 => ?_)
      · refine g_iconst dX10_one_31 ?_
        refine g_iret dX10_one_32 rfl ?_
        exact leafN (fun z => by first | exact h28 z.2.2.2.1 | exact h20 z.2.2.1 | exact h13 z.2.1 | exact h6 ⟨z.1, z.2.2.2.2⟩)
      · refine g_iload dX10_one_23 rfl ?_
        refine g_callSr dX10_one_25 lX10_144 (w_X10_isAge (by omega) (by omega)) rfl rfl (Nat.le_of_ble_eq_true rfl) ?_
        refine g_if_neB (tgt := 33) dX10_one_28 rfl (fun h28 => ?_) (fun h28 => ?_)
        · refine g_aload_n dX10_one_33 rfl rfl ?_
          refine g_iload_n dX10_one_34 rfl rfl ?_
          refine g_iconst dX10_one_35 ?_
          refine g_callVr dX10_one_36 lX10_132 (w_X10_open hR0 hR8 hN0 hN14 (by omega)) rfl rfl rfl rfl (Nat.le_of_ble_eq_true rfl) ?_
          refine g_istore (ls' := [some _, some _, some _, some _, _, some _, some _, some _]) dX10_one_39 (by decide) rfl ?_
          refine g_aload_n dX10_one_41 rfl rfl ?_
          refine g_iload dX10_one_42 rfl ?_
          refine g_iload_n dX10_one_44 rfl rfl ?_
          refine g_iload dX10_one_45 rfl ?_
          refine g_lload_n dX10_one_47 rfl rfl ?_
          refine g_iconst dX10_one_48 ?_
          refine g_callVr dX10_one_49 lX10_136 (w_X10_add (M := mopen M y 3) (by show 0 ≤ M.1 0 12 + 1; omega) (by show M.1 0 12 + 1 ≤ 8; omega) (by show 0 ≤ M.1 0 13; omega) (by show M.1 0 13 ≤ 14; omega) (by show 1 ≤ M.1 0 12 + 1; omega) (by show M.1 0 13 < 14; omega)) rfl rfl rfl rfl (Nat.le_of_ble_eq_true rfl) ?_
          refine g_iload dX10_one_52 rfl ?_
          refine g_iret dX10_one_54 rfl ?_
          exact leafY ⟨h6.1, h13, h20, h28, h6.2⟩ (by show M.1 0 12 + 1 - 1 = _; omega)
        · refine g_iconst dX10_one_31 ?_
          refine g_iret dX10_one_32 rfl ?_
          exact leafN (fun z => by first | exact h28 z.2.2.2.1 | exact h20 z.2.2.1 | exact h13 z.2.1 | exact h6 ⟨z.1, z.2.2.2.2⟩)

theorem w_X10_death {d : Nat} {M : Mem} {y s a : Int} {n : Int64} (y1 : -2147483648 ≤ y) (y2 : y < 2147483648) (s1 : -2147483648 ≤ s) (s2 : s < 2147483648) (a1 : -2147483648 ≤ a) (a2 : a < 2147483648) (hR0 : 0 ≤ M.1 0 12) (hR8 : M.1 0 12 ≤ 8) (hN0 : 0 ≤ M.1 0 13) (hN14 : M.1 0 13 ≤ 14) : WP wdM (d + 4) mX10_death [vr 0, vi y, vi s, vl n, vi a] M (Ret (some (vi (if msingleOK M y s n a then M.1 0 12 else -1))) (if msingleOK M y s n a then msingleM M 3 5 y s n a else M)) := by
  refine wp_of (by decide +kernel) (Nat.le_of_ble_eq_true rfl) ?_
  refine g_aload_n dX10_death_0 rfl rfl ?_
  refine g_iload_n dX10_death_1 rfl rfl ?_
  refine g_iload_n dX10_death_2 rfl rfl ?_
  refine g_lload_n dX10_death_3 rfl rfl ?_
  refine g_iload dX10_death_4 rfl ?_
  refine g_iconst dX10_death_6 ?_
  refine g_callVr dX10_death_7 lX10_140 (w_X10_one y1 y2 s1 s2 a1 a2 hR0 hR8 hN0 hN14) rfl rfl rfl rfl (Nat.le_of_ble_eq_true rfl) ?_
  refine g_iret dX10_death_10 rfl ?_
  exact ⟨rfl, rfl⟩

theorem w_X10_list {d : Nat} {M : Mem} {y s a : Int} {n : Int64} (y1 : -2147483648 ≤ y) (y2 : y < 2147483648) (s1 : -2147483648 ≤ s) (s2 : s < 2147483648) (a1 : -2147483648 ≤ a) (a2 : a < 2147483648) (hR0 : 0 ≤ M.1 0 12) (hR8 : M.1 0 12 ≤ 8) (hN0 : 0 ≤ M.1 0 13) (hN14 : M.1 0 13 ≤ 14) : WP wdM (d + 4) mX10_list [vr 0, vi y, vi s, vl n, vi a] M (Ret (some (vi (if msingleOK M y s n a then M.1 0 12 else -1))) (if msingleOK M y s n a then msingleM M 3 6 y s n a else M)) := by
  refine wp_of (by decide +kernel) (Nat.le_of_ble_eq_true rfl) ?_
  refine g_aload_n dX10_list_0 rfl rfl ?_
  refine g_iload_n dX10_list_1 rfl rfl ?_
  refine g_iload_n dX10_list_2 rfl rfl ?_
  refine g_lload_n dX10_list_3 rfl rfl ?_
  refine g_iload dX10_list_4 rfl ?_
  refine g_bipush dX10_list_6 rfl ?_
  refine g_callVr dX10_list_8 lX10_140 (w_X10_one y1 y2 s1 s2 a1 a2 hR0 hR8 hN0 hN14) rfl rfl rfl rfl (Nat.le_of_ble_eq_true rfl) ?_
  refine g_iret dX10_list_11 rfl ?_
  exact ⟨rfl, rfl⟩

theorem w_X10_witness {d : Nat} {M : Mem} {y s t : Int} {c m : Int64} (ht : t ≠ -1) (y1 : -2147483648 ≤ y) (y2 : y < 2147483648) (s1 : -2147483648 ≤ s) (s2 : s < 2147483648) (t1 : -2147483648 ≤ t) (t2 : t < 2147483648) (hR0 : 0 ≤ M.1 0 12) (hR8 : M.1 0 12 ≤ 8) (hN0 : 0 ≤ M.1 0 13) (hN14 : M.1 0 13 ≤ 14) : WP wdM (d + 3) mX10_witness [vr 0, vi y, vi s, vl c, vi t, vl m] M (Ret (some (vi (if mtwoOK M y s t c m then M.1 0 12 else -1))) (if mtwoOK M y s t c m then mtwoM M y s t c m else M)) := by
  refine wp_of (by decide +kernel) (Nat.le_of_ble_eq_true rfl) ?_
  refine g_aload_n dX10_witness_0 rfl rfl ?_
  refine g_iload_n dX10_witness_1 rfl rfl ?_
  refine g_iload dX10_witness_2 rfl ?_
  refine g_iconst dX10_witness_4 ?_
  refine g_icmp_ne (tgt := 12) dX10_witness_5 rfl (fun h5 => ?_) (fun h5 => ?_)
  · refine g_iconst dX10_witness_12 ?_
    refine g_callVr dX10_witness_13 lX10_124 (w_X10_fits (by omega) (by omega) (by omega) (by omega) hR0 hR8 hN0 hN14) rfl rfl rfl rfl (Nat.le_of_ble_eq_true rfl) ?_
    refine g_if_eqB (tgt := 55) dX10_witness_16 rfl (fun h16 => ?_) (fun h16 => ?_)
    · refine g_iconst dX10_witness_55 ?_
      refine g_iret dX10_witness_56 rfl ?_
      exact leafN (fun z => by first | exact h52 z.2.2.2.2.1 | exact h44 z.2.2.1 | exact h30 z.2.2.2.1 | exact h23 z.2.1 | exact h16 ⟨z.1, z.2.2.2.2.2⟩)
    · refine g_iload_n dX10_witness_19 rfl rfl ?_
      refine g_callSr dX10_witness_20 lX10_128 (w_X10_isSex (by omega) (by omega)) rfl rfl (Nat.le_of_ble_eq_true rfl) ?_
      refine g_if_eqB (tgt := 55) dX10_witness_23 rfl (fun h23 => ?_) (fun h23 => ?_)
      · refine g_iconst dX10_witness_55 ?_
        refine g_iret dX10_witness_56 rfl ?_
        exact leafN (fun z => by first | exact h52 z.2.2.2.2.1 | exact h44 z.2.2.1 | exact h30 z.2.2.2.1 | exact h23 z.2.1 | exact h16 ⟨z.1, z.2.2.2.2.2⟩)
      · refine g_lload_n dX10_witness_26 rfl rfl ?_
        refine g_callSr dX10_witness_27 lX10_106 (w_X10_isName) rfl rfl (Nat.le_of_ble_eq_true rfl) ?_
        refine g_if_eqB (tgt := 55) dX10_witness_30 rfl (fun h30 => ?_) (fun h30 => ?_)
        · refine g_iconst dX10_witness_55 ?_
          refine g_iret dX10_witness_56 rfl ?_
          exact leafN (fun z => by first | exact h52 z.2.2.2.2.1 | exact h44 z.2.2.1 | exact h30 z.2.2.2.1 | exact h23 z.2.1 | exact h16 ⟨z.1, z.2.2.2.2.2⟩)
        · refine g_iload dX10_witness_33 rfl ?_
          refine g_iconst dX10_witness_35 ?_
          refine g_icmp_eq (tgt := 57) dX10_witness_36 rfl (fun h36 => ?_) (fun h36 => ?_)
          · exact absurd h36 ht
          · refine g_iload dX10_witness_39 rfl ?_
            refine g_callSr dX10_witness_41 lX10_128 (w_X10_isSex (by omega) (by omega)) rfl rfl (Nat.le_of_ble_eq_true rfl) ?_
            refine g_if_eqB (tgt := 55) dX10_witness_44 rfl (fun h44 => ?_) (fun h44 => ?_)
            · refine g_iconst dX10_witness_55 ?_
              refine g_iret dX10_witness_56 rfl ?_
              exact leafN (fun z => by first | exact h52 z.2.2.2.2.1 | exact h44 z.2.2.1 | exact h30 z.2.2.2.1 | exact h23 z.2.1 | exact h16 ⟨z.1, z.2.2.2.2.2⟩)
            · refine g_lload dX10_witness_47 rfl ?_
              refine g_callSr dX10_witness_49 lX10_106 (w_X10_isName) rfl rfl (Nat.le_of_ble_eq_true rfl) ?_
              refine g_if_neB (tgt := 57) dX10_witness_52 rfl (fun h52 => ?_) (fun h52 => ?_)
              · refine g_aload_n dX10_witness_57 rfl rfl ?_
                refine g_iload_n dX10_witness_58 rfl rfl ?_
                refine g_iconst dX10_witness_59 ?_
                refine g_callVr dX10_witness_60 lX10_132 (w_X10_open hR0 hR8 hN0 hN14 (by omega)) rfl rfl rfl rfl (Nat.le_of_ble_eq_true rfl) ?_
                refine g_istore (ls' := [some _, some _, some _, some _, _, some _, some _, _, some _]) dX10_witness_63 (by decide) rfl ?_
                refine g_aload_n dX10_witness_65 rfl rfl ?_
                refine g_bipush dX10_witness_66 rfl ?_
                refine g_iload_n dX10_witness_68 rfl rfl ?_
                refine g_iconst dX10_witness_69 ?_
                refine g_lload_n dX10_witness_70 rfl rfl ?_
                refine g_iconst dX10_witness_71 ?_
                refine g_callVr dX10_witness_72 lX10_136 (w_X10_add (M := mopen M y 4) (by show 0 ≤ M.1 0 12 + 1; omega) (by show M.1 0 12 + 1 ≤ 8; omega) (by show 0 ≤ M.1 0 13; omega) (by show M.1 0 13 ≤ 14; omega) (by show 1 ≤ M.1 0 12 + 1; omega) (by show M.1 0 13 < 14; omega)) rfl rfl rfl rfl (Nat.le_of_ble_eq_true rfl) ?_
                refine g_iload dX10_witness_75 rfl ?_
                refine g_iconst dX10_witness_77 ?_
                refine g_icmp_eq (tgt := 93) dX10_witness_78 rfl (fun h78 => ?_) (fun h78 => ?_)
                · exact absurd h78 ht
                · refine g_aload_n dX10_witness_81 rfl rfl ?_
                  refine g_bipush dX10_witness_82 rfl ?_
                  refine g_iload dX10_witness_84 rfl ?_
                  refine g_iconst dX10_witness_86 ?_
                  refine g_lload dX10_witness_87 rfl ?_
                  refine g_iconst dX10_witness_89 ?_
                  refine g_callVr dX10_witness_90 lX10_136 (w_X10_add (M := madd (mopen M y 4) 7 s (-1) c (-1)) (by show 0 ≤ M.1 0 12 + 1; omega) (by show M.1 0 12 + 1 ≤ 8; omega) (by show 0 ≤ M.1 0 13 + 1; omega) (by show M.1 0 13 + 1 ≤ 14; omega) (by show 1 ≤ M.1 0 12 + 1; omega) (by show M.1 0 13 + 1 < 14; omega)) rfl rfl rfl rfl (Nat.le_of_ble_eq_true rfl) ?_
                  refine g_iload dX10_witness_93 rfl ?_
                  refine g_iret dX10_witness_95 rfl ?_
                  exact leafY ⟨h16.1, h23, h44, h30, h52, h16.2⟩ (by show M.1 0 12 + 1 - 1 = _; omega)
              · refine g_iconst dX10_witness_55 ?_
                refine g_iret dX10_witness_56 rfl ?_
                exact leafN (fun z => by first | exact h52 z.2.2.2.2.1 | exact h44 z.2.2.1 | exact h30 z.2.2.2.1 | exact h23 z.2.1 | exact h16 ⟨z.1, z.2.2.2.2.2⟩)
  · exact absurd h5 ht

theorem w_X10_witness1 {d : Nat} {M : Mem} {y s : Int} {n m : Int64} (y1 : -2147483648 ≤ y) (y2 : y < 2147483648) (s1 : -2147483648 ≤ s) (s2 : s < 2147483648) (hR0 : 0 ≤ M.1 0 12) (hR8 : M.1 0 12 ≤ 8) (hN0 : 0 ≤ M.1 0 13) (hN14 : M.1 0 13 ≤ 14) : WP wdM (d + 4) mX10_witness [vr 0, vi y, vi s, vl n, vi (-1), vl m] M (Ret (some (vi (if msingleOK M y s n (-1) then M.1 0 12 else -1))) (if msingleOK M y s n (-1) then msingleM M 4 7 y s n (-1) else M)) := by
  refine wp_of (by decide +kernel) (Nat.le_of_ble_eq_true rfl) ?_
  refine g_aload_n dX10_witness_0 rfl rfl ?_
  refine g_iload_n dX10_witness_1 rfl rfl ?_
  refine g_iload dX10_witness_2 rfl ?_
  refine g_iconst dX10_witness_4 ?_
  refine g_icmp_ne (tgt := 12) dX10_witness_5 rfl (fun h5 => ?_) (fun h5 => ?_)
  · exact absurd rfl h5
  · refine g_iconst dX10_witness_8 ?_
    refine g_goto (tgt := 13) dX10_witness_9 rfl ?_
    refine g_callVr dX10_witness_13 lX10_124 (w_X10_fits (by omega) (by omega) (by omega) (by omega) hR0 hR8 hN0 hN14) rfl rfl rfl rfl (Nat.le_of_ble_eq_true rfl) ?_
    refine g_if_eqB (tgt := 55) dX10_witness_16 rfl (fun h16 => ?_) (fun h16 => ?_)
    · refine g_iconst dX10_witness_55 ?_
      refine g_iret dX10_witness_56 rfl ?_
      exact leafN (fun z => by first | exact h30 z.2.2.1 | exact h23 z.2.1 | exact h16 ⟨z.1, z.2.2.2.2⟩)
    · refine g_iload_n dX10_witness_19 rfl rfl ?_
      refine g_callSr dX10_witness_20 lX10_128 (w_X10_isSex (by omega) (by omega)) rfl rfl (Nat.le_of_ble_eq_true rfl) ?_
      refine g_if_eqB (tgt := 55) dX10_witness_23 rfl (fun h23 => ?_) (fun h23 => ?_)
      · refine g_iconst dX10_witness_55 ?_
        refine g_iret dX10_witness_56 rfl ?_
        exact leafN (fun z => by first | exact h30 z.2.2.1 | exact h23 z.2.1 | exact h16 ⟨z.1, z.2.2.2.2⟩)
      · refine g_lload_n dX10_witness_26 rfl rfl ?_
        refine g_callSr dX10_witness_27 lX10_106 (w_X10_isName) rfl rfl (Nat.le_of_ble_eq_true rfl) ?_
        refine g_if_eqB (tgt := 55) dX10_witness_30 rfl (fun h30 => ?_) (fun h30 => ?_)
        · refine g_iconst dX10_witness_55 ?_
          refine g_iret dX10_witness_56 rfl ?_
          exact leafN (fun z => by first | exact h30 z.2.2.1 | exact h23 z.2.1 | exact h16 ⟨z.1, z.2.2.2.2⟩)
        · refine g_iload dX10_witness_33 rfl ?_
          refine g_iconst dX10_witness_35 ?_
          refine g_icmp_eq (tgt := 57) dX10_witness_36 rfl (fun h36 => ?_) (fun h36 => ?_)
          · refine g_aload_n dX10_witness_57 rfl rfl ?_
            refine g_iload_n dX10_witness_58 rfl rfl ?_
            refine g_iconst dX10_witness_59 ?_
            refine g_callVr dX10_witness_60 lX10_132 (w_X10_open hR0 hR8 hN0 hN14 (by omega)) rfl rfl rfl rfl (Nat.le_of_ble_eq_true rfl) ?_
            refine g_istore (ls' := [some _, some _, some _, some _, _, some _, some _, _, some _]) dX10_witness_63 (by decide) rfl ?_
            refine g_aload_n dX10_witness_65 rfl rfl ?_
            refine g_bipush dX10_witness_66 rfl ?_
            refine g_iload_n dX10_witness_68 rfl rfl ?_
            refine g_iconst dX10_witness_69 ?_
            refine g_lload_n dX10_witness_70 rfl rfl ?_
            refine g_iconst dX10_witness_71 ?_
            refine g_callVr dX10_witness_72 lX10_136 (w_X10_add (M := mopen M y 4) (by show 0 ≤ M.1 0 12 + 1; omega) (by show M.1 0 12 + 1 ≤ 8; omega) (by show 0 ≤ M.1 0 13; omega) (by show M.1 0 13 ≤ 14; omega) (by show 1 ≤ M.1 0 12 + 1; omega) (by show M.1 0 13 < 14; omega)) rfl rfl rfl rfl (Nat.le_of_ble_eq_true rfl) ?_
            refine g_iload dX10_witness_75 rfl ?_
            refine g_iconst dX10_witness_77 ?_
            refine g_icmp_eq (tgt := 93) dX10_witness_78 rfl (fun h78 => ?_) (fun h78 => ?_)
            · refine g_iload dX10_witness_93 rfl ?_
              refine g_iret dX10_witness_95 rfl ?_
              exact leafY ⟨h16.1, h23, h30, by omega, h16.2⟩ (by show M.1 0 12 + 1 - 1 = _; omega)
            · exact absurd rfl h78
          · exact absurd rfl h36

theorem w_X10_copy {d : Nat} {M : Mem} {r f n : Nat} {a b c : Int64} (hr : (r : Int) < M.1 0 12) (hn1 : 1 ≤ n) (hn3 : n ≤ 3) (hf : M.1 2 r = f) (hfn : M.1 2 (r + 1) = f + n) (hfr : (f : Int) + n ≤ M.1 0 13) (hy : 0 ≤ M.1 1 r ∧ M.1 1 r ≤ 3000) (hO : -1 ≤ M.1 3 r ∧ M.1 3 r < 8) (hR0 : 0 ≤ M.1 0 12) (hR8 : M.1 0 12 ≤ 8) (hN0 : 0 ≤ M.1 0 13) (hN14 : M.1 0 13 ≤ 14) : WP wdM (d + 4) mX10_copy [vr 0, vi r, vl a, vl b, vl c] M (Ret (some (vi (if mcopyOK M r n a b c then M.1 0 12 else -1))) (if mcopyOK M r n a b c then mcopyK (mcopyO M r) f (nmF a b c) n else M)) := by
  refine wp_of (by decide +kernel) (Nat.le_of_ble_eq_true rfl) ?_
  have er : ((r : Int) + 1).toNat = r + 1 := by omega
  have loop : mcopyOK M r n a b c → ∀ k i : Nat, i + k = n → G wdM mX10_copy (d + 4) (Ret (some (vi (if mcopyOK M r n a b c then M.1 0 12 else -1))) (if mcopyOK M r n a b c then mcopyK (mcopyO M r) f (nmF a b c) n else M)) 125 [some (vr 0), some (vi r), some (vl a), none, some (vl b), none, some (vl c), none, some (vi f), some (vi n), some (vi (M.1 0 12 + 1 - 1)), some (vi i)] [] (mcopyK (mcopyO M r) f (nmF a b c) i) := by
    intro hok k
    induction k with
    | zero =>
      intro i hi
      obtain rfl : i = n := by omega
      refine g_iload dX10_copy_125 rfl ?_
      refine g_iload dX10_copy_127 rfl ?_
      refine g_icmp_ge (tgt := 199) dX10_copy_129 rfl (fun h129 => ?_) (fun h129 => ?_)
      · refine g_iload dX10_copy_199 rfl ?_
        refine g_iret dX10_copy_201 rfl ?_
        exact leafY hok (by omega)
      · exfalso; omega
    | succ k ih =>
      intro i hi
      obtain ⟨k1, k2⟩ := mcopyK_f (mcopyO M r) f (nmF a b c) i
      have k1' : (mcopyK (mcopyO M r) f (nmF a b c) i).1 0 12 = M.1 0 12 + 1 := k1
      have k2' : (mcopyK (mcopyO M r) f (nmF a b c) i).1 0 13 = M.1 0 13 + i := k2
      have hok6 := hok.2.2.2.2
      have hst : madd (mcopyK (mcopyO M r) f (nmF a b c) i) ((mcopyK (mcopyO M r) f (nmF a b c) i).1 8 (f + i)) ((mcopyK (mcopyO M r) f (nmF a b c) i).1 6 (f + i)) ((mcopyK (mcopyO M r) f (nmF a b c) i).1 7 (f + i)) (nmF a b c i) ((f + i : Nat) : Int) = mcopyK (mcopyO M r) f (nmF a b c) (i + 1) := rfl
      have ih' := ih (i + 1) (by omega)
      rw [← hst] at ih'
      clear ih hst
      have ef : ((f : Int) + (i : Int)) = ((f + i : Nat) : Int) := by push_cast; rfl
      generalize (mcopyK (mcopyO M r) f (nmF a b c) i) = M1 at *
      refine g_iload dX10_copy_125 rfl ?_
      refine g_iload dX10_copy_127 rfl ?_
      refine g_icmp_ge (tgt := 199) dX10_copy_129 rfl (fun h129 => ?_) (fun h129 => ?_)
      · exfalso; omega
      · refine g_aload_n dX10_copy_132 rfl rfl ?_
        refine g_aload_n dX10_copy_133 rfl rfl ?_
        refine g_getr dX10_copy_134 fX10_31 rfl rfl ?_
        refine g_iload dX10_copy_137 rfl ?_
        refine g_iload dX10_copy_139 rfl ?_
        refine g_iadd dX10_copy_141 ?_
        rw [ef]
        refine g_iald dX10_copy_142 rfl (by decide) ?_
        try simp only [Int.toNat_natCast]
        refine g_aload_n dX10_copy_143 rfl rfl ?_
        refine g_getr dX10_copy_144 fX10_25 rfl rfl ?_
        refine g_iload dX10_copy_147 rfl ?_
        refine g_iload dX10_copy_149 rfl ?_
        refine g_iadd dX10_copy_151 ?_
        rw [ef]
        refine g_iald dX10_copy_152 rfl (by decide) ?_
        try simp only [Int.toNat_natCast]
        refine g_aload_n dX10_copy_153 rfl rfl ?_
        refine g_getr dX10_copy_154 fX10_28 rfl rfl ?_
        refine g_iload dX10_copy_157 rfl ?_
        refine g_iload dX10_copy_159 rfl ?_
        refine g_iadd dX10_copy_161 ?_
        rw [ef]
        refine g_iald dX10_copy_162 rfl (by decide) ?_
        try simp only [Int.toNat_natCast]
        refine g_iload dX10_copy_163 rfl ?_
        refine g_if_ne (tgt := 172) dX10_copy_165 rfl (fun h165 => ?_) (fun h165 => ?_)
        · refine g_iload dX10_copy_172 rfl ?_
          refine g_iconst dX10_copy_174 ?_
          refine g_icmp_ne (tgt := 183) dX10_copy_175 rfl (fun h175 => ?_) (fun h175 => ?_)
          · refine g_lload dX10_copy_183 rfl ?_
            refine g_iload dX10_copy_185 rfl ?_
            refine g_iload dX10_copy_187 rfl ?_
            refine g_iadd dX10_copy_189 ?_
            rw [ef]
            refine g_callVr dX10_copy_190 lX10_136 (w_X10_add (M := M1) (by omega) (by omega) (by omega) (by omega) (by omega) (by omega)) rfl rfl rfl rfl (Nat.le_of_ble_eq_true rfl) ?_
            refine g_iinc (ls' := [some _, some _, some _, _, some _, _, some _, _, some _, some _, some _, some _]) dX10_copy_193 rfl rfl ?_
            refine g_goto (tgt := 125) dX10_copy_196 rfl ?_
            first
              | (rw [show nmF a b c i = a by unfold nmF; rw [if_pos (by omega)]] at ih'; exact ih')
              | (rw [show nmF a b c i = b by unfold nmF; rw [if_neg (by omega), if_pos (by omega)]] at ih'; exact ih')
              | (rw [show nmF a b c i = c by unfold nmF; rw [if_neg (by omega), if_neg (by omega)]] at ih'; exact ih')
          · refine g_lload dX10_copy_178 rfl ?_
            refine g_goto (tgt := 185) dX10_copy_180 rfl ?_
            refine g_iload dX10_copy_185 rfl ?_
            refine g_iload dX10_copy_187 rfl ?_
            refine g_iadd dX10_copy_189 ?_
            rw [ef]
            refine g_callVr dX10_copy_190 lX10_136 (w_X10_add (M := M1) (by omega) (by omega) (by omega) (by omega) (by omega) (by omega)) rfl rfl rfl rfl (Nat.le_of_ble_eq_true rfl) ?_
            refine g_iinc (ls' := [some _, some _, some _, _, some _, _, some _, _, some _, some _, some _, some _]) dX10_copy_193 rfl rfl ?_
            refine g_goto (tgt := 125) dX10_copy_196 rfl ?_
            first
              | (rw [show nmF a b c i = a by unfold nmF; rw [if_pos (by omega)]] at ih'; exact ih')
              | (rw [show nmF a b c i = b by unfold nmF; rw [if_neg (by omega), if_pos (by omega)]] at ih'; exact ih')
              | (rw [show nmF a b c i = c by unfold nmF; rw [if_neg (by omega), if_neg (by omega)]] at ih'; exact ih')
        · refine g_lload_n dX10_copy_168 rfl rfl ?_
          refine g_goto (tgt := 185) dX10_copy_169 rfl ?_
          refine g_iload dX10_copy_185 rfl ?_
          refine g_iload dX10_copy_187 rfl ?_
          refine g_iadd dX10_copy_189 ?_
          rw [ef]
          refine g_callVr dX10_copy_190 lX10_136 (w_X10_add (M := M1) (by omega) (by omega) (by omega) (by omega) (by omega) (by omega)) rfl rfl rfl rfl (Nat.le_of_ble_eq_true rfl) ?_
          refine g_iinc (ls' := [some _, some _, some _, _, some _, _, some _, _, some _, some _, some _, some _]) dX10_copy_193 rfl rfl ?_
          refine g_goto (tgt := 125) dX10_copy_196 rfl ?_
          first
            | (rw [show nmF a b c i = a by unfold nmF; rw [if_pos (by omega)]] at ih'; exact ih')
            | (rw [show nmF a b c i = b by unfold nmF; rw [if_neg (by omega), if_pos (by omega)]] at ih'; exact ih')
            | (rw [show nmF a b c i = c by unfold nmF; rw [if_neg (by omega), if_neg (by omega)]] at ih'; exact ih')
  refine g_iload_n dX10_copy_0 rfl rfl ?_
  refine g_if_lt (tgt := 21) dX10_copy_1 rfl (fun h1 => ?_) (fun h1 => ?_)
  · exfalso; omega
  · refine g_iload_n dX10_copy_4 rfl rfl ?_
    refine g_aload_n dX10_copy_5 rfl rfl ?_
    refine g_get dX10_copy_6 fX10_114 rfl rfl ?_
    refine g_icmp_ge (tgt := 21) dX10_copy_9 rfl (fun h9 => ?_) (fun h9 => ?_)
    · exfalso; omega
    · refine g_aload_n dX10_copy_12 rfl rfl ?_
      refine g_getr dX10_copy_13 fX10_16 rfl rfl ?_
      refine g_iload_n dX10_copy_16 rfl rfl ?_
      refine g_iald dX10_copy_17 rfl (by decide) ?_
      try simp only [Int.toNat_natCast]
      refine g_if_lt (tgt := 23) dX10_copy_18 rfl (fun h18 => ?_) (fun h18 => ?_)
      · refine g_aload_n dX10_copy_23 rfl rfl ?_
        refine g_getr dX10_copy_24 fX10_13 rfl rfl ?_
        refine g_iload_n dX10_copy_27 rfl rfl ?_
        refine g_iald dX10_copy_28 rfl (by decide) ?_
        try simp only [Int.toNat_natCast]
        rw [hf]
        refine g_istore (ls' := [some _, some _, some _, _, some _, _, some _, _, some _, _, _, _]) dX10_copy_29 (by decide) rfl ?_
        refine g_aload_n dX10_copy_31 rfl rfl ?_
        refine g_getr dX10_copy_32 fX10_13 rfl rfl ?_
        refine g_iload_n dX10_copy_35 rfl rfl ?_
        refine g_iconst dX10_copy_36 ?_
        refine g_iadd dX10_copy_37 ?_
        refine g_iald dX10_copy_38 rfl (by decide) ?_
        try simp only [Int.toNat_natCast]
        rw [er, hfn]
        refine g_iload dX10_copy_39 rfl ?_
        refine g_isub dX10_copy_41 ?_
        rw [show (f : Int) + (n : Int) - (f : Int) = (n : Int) by omega]
        refine g_istore (ls' := [some _, some _, some _, _, some _, _, some _, _, some _, some _, _, _]) dX10_copy_42 (by decide) rfl ?_
        refine g_aload_n dX10_copy_44 rfl rfl ?_
        refine g_aload_n dX10_copy_45 rfl rfl ?_
        refine g_getr dX10_copy_46 fX10_7 rfl rfl ?_
        refine g_iload_n dX10_copy_49 rfl rfl ?_
        refine g_iald dX10_copy_50 rfl (by decide) ?_
        try simp only [Int.toNat_natCast]
        refine g_iload dX10_copy_51 rfl ?_
        refine g_callVr dX10_copy_53 lX10_124 (w_X10_fits (by omega) (by omega) (by omega) (by omega) hR0 hR8 hN0 hN14) rfl rfl rfl rfl (Nat.le_of_ble_eq_true rfl) ?_
        refine g_if_eqB (tgt := 94) dX10_copy_56 rfl (fun h56 => ?_) (fun h56 => ?_)
        · refine g_iconst dX10_copy_94 ?_
          refine g_iret dX10_copy_95 rfl ?_
          refine leafN (fun z => ?_)
          obtain ⟨z1, z2, z3, z4, z5, z6⟩ := z
          first
          | exact absurd ⟨hy, z5, z6⟩ h56
          | exact h63 z2
          | exact h77 (z3 (by omega))
          | exact h91 (z4 (by omega))
        · refine g_lload_n dX10_copy_59 rfl rfl ?_
          refine g_callSr dX10_copy_60 lX10_106 (w_X10_isName) rfl rfl (Nat.le_of_ble_eq_true rfl) ?_
          refine g_if_eqB (tgt := 94) dX10_copy_63 rfl (fun h63 => ?_) (fun h63 => ?_)
          · refine g_iconst dX10_copy_94 ?_
            refine g_iret dX10_copy_95 rfl ?_
            refine leafN (fun z => ?_)
            obtain ⟨z1, z2, z3, z4, z5, z6⟩ := z
            first
            | exact absurd ⟨hy, z5, z6⟩ h56
            | exact h63 z2
            | exact h77 (z3 (by omega))
            | exact h91 (z4 (by omega))
          · refine g_iload dX10_copy_66 rfl ?_
            refine g_iconst dX10_copy_68 ?_
            refine g_icmp_le (tgt := 80) dX10_copy_69 rfl (fun h69 => ?_) (fun h69 => ?_)
            · refine g_iload dX10_copy_80 rfl ?_
              refine g_iconst dX10_copy_82 ?_
              refine g_icmp_le (tgt := 96) dX10_copy_83 rfl (fun h83 => ?_) (fun h83 => ?_)
              · refine g_aload_n dX10_copy_96 rfl rfl ?_
                refine g_aload_n dX10_copy_97 rfl rfl ?_
                refine g_getr dX10_copy_98 fX10_7 rfl rfl ?_
                refine g_iload_n dX10_copy_101 rfl rfl ?_
                refine g_iald dX10_copy_102 rfl (by decide) ?_
                try simp only [Int.toNat_natCast]
                refine g_aload_n dX10_copy_103 rfl rfl ?_
                refine g_getr dX10_copy_104 fX10_19 rfl rfl ?_
                refine g_iload_n dX10_copy_107 rfl rfl ?_
                refine g_iald dX10_copy_108 rfl (by decide) ?_
                try simp only [Int.toNat_natCast]
                refine g_callVr dX10_copy_109 lX10_132 (w_X10_open hR0 hR8 hN0 hN14 (by omega)) rfl rfl rfl rfl (Nat.le_of_ble_eq_true rfl) ?_
                refine g_istore (ls' := [some _, some _, some _, _, some _, _, some _, _, some _, some _, some _, _]) dX10_copy_112 (by decide) rfl ?_
                refine g_aload_n dX10_copy_114 rfl rfl ?_
                refine g_getr dX10_copy_115 fX10_16 rfl rfl ?_
                refine g_iload dX10_copy_118 rfl ?_
                refine g_iload_n dX10_copy_120 rfl rfl ?_
                refine g_iast dX10_copy_121 rfl (by decide) ?_
                try simp only [Int.toNat_natCast]
                refine g_iconst dX10_copy_122 ?_
                refine g_istore (ls' := [some _, some _, some _, _, some _, _, some _, _, some _, some _, some _, some _]) dX10_copy_123 (by decide) rfl ?_
                have hst : si (mopen M (M.1 1 r) (M.1 4 r)) 3 (M.1 0 12 + 1 - 1).toNat r = mcopyK (mcopyO M r) f (nmF a b c) 0 := by
                  unfold mcopyK mcopyO
                  rw [Int.add_sub_cancel]
                rw [hst]
                refine loop ⟨by omega, h63, fun z => ?_, fun z => ?_, h56.2⟩ n 0 (by omega)
                · first | exact h77 | (exfalso; omega)
                · first | exact h91 | (exfalso; omega)
              · refine g_lload dX10_copy_86 rfl ?_
                refine g_callSr dX10_copy_88 lX10_106 (w_X10_isName) rfl rfl (Nat.le_of_ble_eq_true rfl) ?_
                refine g_if_neB (tgt := 96) dX10_copy_91 rfl (fun h91 => ?_) (fun h91 => ?_)
                · refine g_aload_n dX10_copy_96 rfl rfl ?_
                  refine g_aload_n dX10_copy_97 rfl rfl ?_
                  refine g_getr dX10_copy_98 fX10_7 rfl rfl ?_
                  refine g_iload_n dX10_copy_101 rfl rfl ?_
                  refine g_iald dX10_copy_102 rfl (by decide) ?_
                  try simp only [Int.toNat_natCast]
                  refine g_aload_n dX10_copy_103 rfl rfl ?_
                  refine g_getr dX10_copy_104 fX10_19 rfl rfl ?_
                  refine g_iload_n dX10_copy_107 rfl rfl ?_
                  refine g_iald dX10_copy_108 rfl (by decide) ?_
                  try simp only [Int.toNat_natCast]
                  refine g_callVr dX10_copy_109 lX10_132 (w_X10_open hR0 hR8 hN0 hN14 (by omega)) rfl rfl rfl rfl (Nat.le_of_ble_eq_true rfl) ?_
                  refine g_istore (ls' := [some _, some _, some _, _, some _, _, some _, _, some _, some _, some _, _]) dX10_copy_112 (by decide) rfl ?_
                  refine g_aload_n dX10_copy_114 rfl rfl ?_
                  refine g_getr dX10_copy_115 fX10_16 rfl rfl ?_
                  refine g_iload dX10_copy_118 rfl ?_
                  refine g_iload_n dX10_copy_120 rfl rfl ?_
                  refine g_iast dX10_copy_121 rfl (by decide) ?_
                  try simp only [Int.toNat_natCast]
                  refine g_iconst dX10_copy_122 ?_
                  refine g_istore (ls' := [some _, some _, some _, _, some _, _, some _, _, some _, some _, some _, some _]) dX10_copy_123 (by decide) rfl ?_
                  have hst : si (mopen M (M.1 1 r) (M.1 4 r)) 3 (M.1 0 12 + 1 - 1).toNat r = mcopyK (mcopyO M r) f (nmF a b c) 0 := by
                    unfold mcopyK mcopyO
                    rw [Int.add_sub_cancel]
                  rw [hst]
                  refine loop ⟨by omega, h63, fun z => ?_, fun z => ?_, h56.2⟩ n 0 (by omega)
                  · first | exact h77 | (exfalso; omega)
                  · first | exact h91 | (exfalso; omega)
                · refine g_iconst dX10_copy_94 ?_
                  refine g_iret dX10_copy_95 rfl ?_
                  refine leafN (fun z => ?_)
                  obtain ⟨z1, z2, z3, z4, z5, z6⟩ := z
                  first
                  | exact absurd ⟨hy, z5, z6⟩ h56
                  | exact h63 z2
                  | exact h77 (z3 (by omega))
                  | exact h91 (z4 (by omega))
            · refine g_lload dX10_copy_72 rfl ?_
              refine g_callSr dX10_copy_74 lX10_106 (w_X10_isName) rfl rfl (Nat.le_of_ble_eq_true rfl) ?_
              refine g_if_eqB (tgt := 94) dX10_copy_77 rfl (fun h77 => ?_) (fun h77 => ?_)
              · refine g_iconst dX10_copy_94 ?_
                refine g_iret dX10_copy_95 rfl ?_
                refine leafN (fun z => ?_)
                obtain ⟨z1, z2, z3, z4, z5, z6⟩ := z
                first
                | exact absurd ⟨hy, z5, z6⟩ h56
                | exact h63 z2
                | exact h77 (z3 (by omega))
                | exact h91 (z4 (by omega))
              · refine g_iload dX10_copy_80 rfl ?_
                refine g_iconst dX10_copy_82 ?_
                refine g_icmp_le (tgt := 96) dX10_copy_83 rfl (fun h83 => ?_) (fun h83 => ?_)
                · refine g_aload_n dX10_copy_96 rfl rfl ?_
                  refine g_aload_n dX10_copy_97 rfl rfl ?_
                  refine g_getr dX10_copy_98 fX10_7 rfl rfl ?_
                  refine g_iload_n dX10_copy_101 rfl rfl ?_
                  refine g_iald dX10_copy_102 rfl (by decide) ?_
                  try simp only [Int.toNat_natCast]
                  refine g_aload_n dX10_copy_103 rfl rfl ?_
                  refine g_getr dX10_copy_104 fX10_19 rfl rfl ?_
                  refine g_iload_n dX10_copy_107 rfl rfl ?_
                  refine g_iald dX10_copy_108 rfl (by decide) ?_
                  try simp only [Int.toNat_natCast]
                  refine g_callVr dX10_copy_109 lX10_132 (w_X10_open hR0 hR8 hN0 hN14 (by omega)) rfl rfl rfl rfl (Nat.le_of_ble_eq_true rfl) ?_
                  refine g_istore (ls' := [some _, some _, some _, _, some _, _, some _, _, some _, some _, some _, _]) dX10_copy_112 (by decide) rfl ?_
                  refine g_aload_n dX10_copy_114 rfl rfl ?_
                  refine g_getr dX10_copy_115 fX10_16 rfl rfl ?_
                  refine g_iload dX10_copy_118 rfl ?_
                  refine g_iload_n dX10_copy_120 rfl rfl ?_
                  refine g_iast dX10_copy_121 rfl (by decide) ?_
                  try simp only [Int.toNat_natCast]
                  refine g_iconst dX10_copy_122 ?_
                  refine g_istore (ls' := [some _, some _, some _, _, some _, _, some _, _, some _, some _, some _, some _]) dX10_copy_123 (by decide) rfl ?_
                  have hst : si (mopen M (M.1 1 r) (M.1 4 r)) 3 (M.1 0 12 + 1 - 1).toNat r = mcopyK (mcopyO M r) f (nmF a b c) 0 := by
                    unfold mcopyK mcopyO
                    rw [Int.add_sub_cancel]
                  rw [hst]
                  refine loop ⟨by omega, h63, fun z => ?_, fun z => ?_, h56.2⟩ n 0 (by omega)
                  · first | exact h77 | (exfalso; omega)
                  · first | exact h91 | (exfalso; omega)
                · refine g_lload dX10_copy_86 rfl ?_
                  refine g_callSr dX10_copy_88 lX10_106 (w_X10_isName) rfl rfl (Nat.le_of_ble_eq_true rfl) ?_
                  refine g_if_neB (tgt := 96) dX10_copy_91 rfl (fun h91 => ?_) (fun h91 => ?_)
                  · refine g_aload_n dX10_copy_96 rfl rfl ?_
                    refine g_aload_n dX10_copy_97 rfl rfl ?_
                    refine g_getr dX10_copy_98 fX10_7 rfl rfl ?_
                    refine g_iload_n dX10_copy_101 rfl rfl ?_
                    refine g_iald dX10_copy_102 rfl (by decide) ?_
                    try simp only [Int.toNat_natCast]
                    refine g_aload_n dX10_copy_103 rfl rfl ?_
                    refine g_getr dX10_copy_104 fX10_19 rfl rfl ?_
                    refine g_iload_n dX10_copy_107 rfl rfl ?_
                    refine g_iald dX10_copy_108 rfl (by decide) ?_
                    try simp only [Int.toNat_natCast]
                    refine g_callVr dX10_copy_109 lX10_132 (w_X10_open hR0 hR8 hN0 hN14 (by omega)) rfl rfl rfl rfl (Nat.le_of_ble_eq_true rfl) ?_
                    refine g_istore (ls' := [some _, some _, some _, _, some _, _, some _, _, some _, some _, some _, _]) dX10_copy_112 (by decide) rfl ?_
                    refine g_aload_n dX10_copy_114 rfl rfl ?_
                    refine g_getr dX10_copy_115 fX10_16 rfl rfl ?_
                    refine g_iload dX10_copy_118 rfl ?_
                    refine g_iload_n dX10_copy_120 rfl rfl ?_
                    refine g_iast dX10_copy_121 rfl (by decide) ?_
                    try simp only [Int.toNat_natCast]
                    refine g_iconst dX10_copy_122 ?_
                    refine g_istore (ls' := [some _, some _, some _, _, some _, _, some _, _, some _, some _, some _, some _]) dX10_copy_123 (by decide) rfl ?_
                    have hst : si (mopen M (M.1 1 r) (M.1 4 r)) 3 (M.1 0 12 + 1 - 1).toNat r = mcopyK (mcopyO M r) f (nmF a b c) 0 := by
                      unfold mcopyK mcopyO
                      rw [Int.add_sub_cancel]
                    rw [hst]
                    refine loop ⟨by omega, h63, fun z => ?_, fun z => ?_, h56.2⟩ n 0 (by omega)
                    · first | exact h77 | (exfalso; omega)
                    · first | exact h91 | (exfalso; omega)
                  · refine g_iconst dX10_copy_94 ?_
                    refine g_iret dX10_copy_95 rfl ?_
                    refine leafN (fun z => ?_)
                    obtain ⟨z1, z2, z3, z4, z5, z6⟩ := z
                    first
                    | exact absurd ⟨hy, z5, z6⟩ h56
                    | exact h63 z2
                    | exact h77 (z3 (by omega))
                    | exact h91 (z4 (by omega))
      · refine g_iconst dX10_copy_21 ?_
        refine g_iret dX10_copy_22 rfl ?_
        exact leafN (fun z => by omega)

theorem w_X10_copyN {d : Nat} {M : Mem} {r : Int} {a b c : Int64} (r1 : -2147483648 ≤ r) (r2 : r < 2147483648) (hr : ¬ (0 ≤ r ∧ r < M.1 0 12)) (hO : ∀ j : Nat, (j : Int) < M.1 0 12 → -1 ≤ M.1 3 j ∧ M.1 3 j < 8) (hR0 : 0 ≤ M.1 0 12) (hR8 : M.1 0 12 ≤ 8) (hN0 : 0 ≤ M.1 0 13) (hN14 : M.1 0 13 ≤ 14) : WP wdM (d + 4) mX10_copy [vr 0, vi r, vl a, vl b, vl c] M (Ret (some (vi (-1))) M) := by
  refine wp_of (by decide +kernel) (Nat.le_of_ble_eq_true rfl) ?_
  refine g_iload_n dX10_copy_0 rfl rfl ?_
  refine g_if_lt (tgt := 21) dX10_copy_1 rfl (fun h1 => ?_) (fun h1 => ?_)
  · refine g_iconst dX10_copy_21 ?_
    refine g_iret dX10_copy_22 rfl ?_
    exact ⟨rfl, rfl⟩
  · refine g_iload_n dX10_copy_4 rfl rfl ?_
    refine g_aload_n dX10_copy_5 rfl rfl ?_
    refine g_get dX10_copy_6 fX10_114 rfl rfl ?_
    refine g_icmp_ge (tgt := 21) dX10_copy_9 rfl (fun h9 => ?_) (fun h9 => ?_)
    · refine g_iconst dX10_copy_21 ?_
      refine g_iret dX10_copy_22 rfl ?_
      exact ⟨rfl, rfl⟩
    · exfalso; omega

theorem w_X10_drop {d : Nat} {M : Mem} (hR0 : 0 ≤ M.1 0 12) (hR8 : M.1 0 12 ≤ 8) (hN0 : 0 ≤ M.1 0 13) (hN14 : M.1 0 13 ≤ 14) : WP wdM (d) mX10_drop [vr 0] M (Ret (some (vi (bi (M.1 0 12 ≠ 0)))) (if M.1 0 12 ≠ 0 then mdropM M else M)) := by
  refine wp_of (by decide +kernel) (Nat.le_of_ble_eq_true rfl) ?_
  refine g_aload_n dX10_drop_0 rfl rfl ?_
  refine g_get dX10_drop_1 fX10_114 rfl rfl ?_
  refine g_if_ne (tgt := 9) dX10_drop_4 rfl (fun h4 => ?_) (fun h4 => ?_)
  · refine g_aload_n dX10_drop_9 rfl rfl ?_
    refine g_dup dX10_drop_10 rfl ?_
    refine g_get dX10_drop_11 fX10_114 rfl rfl ?_
    refine g_iconst dX10_drop_14 ?_
    refine g_isub dX10_drop_15 ?_
    refine g_puti dX10_drop_16 fX10_114 rfl rfl rfl (tyX10_ok 12 (by decide)) ?_
    refine g_aload_n dX10_drop_19 rfl rfl ?_
    refine g_aload_n dX10_drop_20 rfl rfl ?_
    refine g_getr dX10_drop_21 fX10_13 rfl rfl ?_
    refine g_aload_n dX10_drop_24 rfl rfl ?_
    refine g_get dX10_drop_25 fX10_114 rfl rfl ?_
    try simp only [sil, sjl, Nat.reduceAdd, Nat.reduceEqDiff, eq_self, false_and, and_false, true_and, and_true, if_false, if_true, reduceIte]
    refine g_iald dX10_drop_28 rfl (by decide) ?_
    try simp only [sil, sjl, Nat.reduceAdd, Nat.reduceEqDiff, eq_self, false_and, and_false, true_and, and_true, if_false, if_true, reduceIte]
    refine g_puti dX10_drop_29 fX10_117 rfl rfl rfl (tyX10_ok 13 (by decide)) ?_
    refine g_aload_n dX10_drop_32 rfl rfl ?_
    refine g_iconst dX10_drop_33 ?_
    refine g_putz dX10_drop_34 fX10_120 rfl rfl rfl (tyX10_ok 21 (by decide)) ?_
    refine g_iconst dX10_drop_37 ?_
    refine g_zret dX10_drop_38 rfl ?_
    first | exact leafI h4 | exact leafJ (fun z => z h4)
  · refine g_iconst dX10_drop_7 ?_
    refine g_zret dX10_drop_8 rfl ?_
    first | exact leafI h4 | exact leafJ (fun z => z h4)

theorem w_X10_laws {d : Nat} {M : Mem} {g mo fa li ro : Int} (g1 : -2147483648 ≤ g) (g2 : g < 2147483648) (mo1 : -2147483648 ≤ mo) (mo2 : mo < 2147483648) (fa1 : -2147483648 ≤ fa) (fa2 : fa < 2147483648) (li1 : -2147483648 ≤ li) (li2 : li < 2147483648) (ro1 : -2147483648 ≤ ro) (ro2 : ro < 2147483648) : WP wdM (d) mX10_laws [vr 0, vi g, vi mo, vi fa, vi li, vi ro] M (Ret (some (vi (bi (lawsOK g mo fa li ro)))) (if lawsOK g mo fa li ro then mlawsM M g mo fa li ro else M)) := by
  refine wp_of (by decide +kernel) (Nat.le_of_ble_eq_true rfl) ?_
  refine g_iload_n dX10_laws_0 rfl rfl ?_
  refine g_if_lt (tgt := 58) dX10_laws_1 rfl (fun h1 => ?_) (fun h1 => ?_)
  · refine g_iconst dX10_laws_58 ?_
    refine g_zret dX10_laws_59 rfl ?_
    first | exact leafI (by omega) | exact leafJ (by omega)
  · refine g_iload_n dX10_laws_4 rfl rfl ?_
    refine g_bipush dX10_laws_5 rfl ?_
    refine g_icmp_gt (tgt := 58) dX10_laws_7 rfl (fun h7 => ?_) (fun h7 => ?_)
    · refine g_iconst dX10_laws_58 ?_
      refine g_zret dX10_laws_59 rfl ?_
      first | exact leafI (by omega) | exact leafJ (by omega)
    · refine g_iload_n dX10_laws_10 rfl rfl ?_
      refine g_iload_n dX10_laws_11 rfl rfl ?_
      refine g_icmp_lt (tgt := 58) dX10_laws_12 rfl (fun h12 => ?_) (fun h12 => ?_)
      · refine g_iconst dX10_laws_58 ?_
        refine g_zret dX10_laws_59 rfl ?_
        first | exact leafI (by omega) | exact leafJ (by omega)
      · refine g_iload_n dX10_laws_15 rfl rfl ?_
        refine g_bipush dX10_laws_16 rfl ?_
        refine g_icmp_gt (tgt := 58) dX10_laws_18 rfl (fun h18 => ?_) (fun h18 => ?_)
        · refine g_iconst dX10_laws_58 ?_
          refine g_zret dX10_laws_59 rfl ?_
          first | exact leafI (by omega) | exact leafJ (by omega)
        · refine g_iload_n dX10_laws_21 rfl rfl ?_
          refine g_iload_n dX10_laws_22 rfl rfl ?_
          refine g_icmp_lt (tgt := 58) dX10_laws_23 rfl (fun h23 => ?_) (fun h23 => ?_)
          · refine g_iconst dX10_laws_58 ?_
            refine g_zret dX10_laws_59 rfl ?_
            first | exact leafI (by omega) | exact leafJ (by omega)
          · refine g_iload_n dX10_laws_26 rfl rfl ?_
            refine g_bipush dX10_laws_27 rfl ?_
            refine g_icmp_gt (tgt := 58) dX10_laws_29 rfl (fun h29 => ?_) (fun h29 => ?_)
            · refine g_iconst dX10_laws_58 ?_
              refine g_zret dX10_laws_59 rfl ?_
              first | exact leafI (by omega) | exact leafJ (by omega)
            · refine g_iload dX10_laws_32 rfl ?_
              refine g_iconst dX10_laws_34 ?_
              refine g_icmp_lt (tgt := 58) dX10_laws_35 rfl (fun h35 => ?_) (fun h35 => ?_)
              · refine g_iconst dX10_laws_58 ?_
                refine g_zret dX10_laws_59 rfl ?_
                first | exact leafI (by omega) | exact leafJ (by omega)
              · refine g_iload dX10_laws_38 rfl ?_
                refine g_sipush dX10_laws_40 rfl ?_
                refine g_icmp_gt (tgt := 58) dX10_laws_43 rfl (fun h43 => ?_) (fun h43 => ?_)
                · refine g_iconst dX10_laws_58 ?_
                  refine g_zret dX10_laws_59 rfl ?_
                  first | exact leafI (by omega) | exact leafJ (by omega)
                · refine g_iload dX10_laws_46 rfl ?_
                  refine g_if_lt (tgt := 58) dX10_laws_48 rfl (fun h48 => ?_) (fun h48 => ?_)
                  · refine g_iconst dX10_laws_58 ?_
                    refine g_zret dX10_laws_59 rfl ?_
                    first | exact leafI (by omega) | exact leafJ (by omega)
                  · refine g_iload dX10_laws_51 rfl ?_
                    refine g_bipush dX10_laws_53 rfl ?_
                    refine g_icmp_le (tgt := 60) dX10_laws_55 rfl (fun h55 => ?_) (fun h55 => ?_)
                    · refine g_aload_n dX10_laws_60 rfl rfl ?_
                      refine g_iload_n dX10_laws_61 rfl rfl ?_
                      refine g_puti dX10_laws_62 fX10_48 rfl rfl rfl (tyX10_ok 16 (by decide)) ?_
                      refine g_aload_n dX10_laws_65 rfl rfl ?_
                      refine g_iload_n dX10_laws_66 rfl rfl ?_
                      refine g_puti dX10_laws_67 fX10_52 rfl rfl rfl (tyX10_ok 17 (by decide)) ?_
                      refine g_aload_n dX10_laws_70 rfl rfl ?_
                      refine g_iload_n dX10_laws_71 rfl rfl ?_
                      refine g_puti dX10_laws_72 fX10_55 rfl rfl rfl (tyX10_ok 18 (by decide)) ?_
                      refine g_aload_n dX10_laws_75 rfl rfl ?_
                      refine g_iload dX10_laws_76 rfl ?_
                      refine g_puti dX10_laws_78 fX10_58 rfl rfl rfl (tyX10_ok 19 (by decide)) ?_
                      refine g_aload_n dX10_laws_81 rfl rfl ?_
                      refine g_iload dX10_laws_82 rfl ?_
                      refine g_puti dX10_laws_84 fX10_61 rfl rfl rfl (tyX10_ok 20 (by decide)) ?_
                      refine g_aload_n dX10_laws_87 rfl rfl ?_
                      refine g_iconst dX10_laws_88 ?_
                      refine g_putz dX10_laws_89 fX10_120 rfl rfl rfl (tyX10_ok 21 (by decide)) ?_
                      refine g_iconst dX10_laws_92 ?_
                      refine g_zret dX10_laws_93 rfl ?_
                      first | exact leafI (by omega) | exact leafJ (by omega)
                    · refine g_iconst dX10_laws_58 ?_
                      refine g_zret dX10_laws_59 rfl ?_
                      first | exact leafI (by omega) | exact leafJ (by omega)

theorem w_X10_budget {d : Nat} {M : Mem} {c p : Int} (c1 : -2147483648 ≤ c) (c2 : c < 2147483648) (p1 : -2147483648 ≤ p) (p2 : p < 2147483648) : WP wdM (d) mX10_budget [vr 0, vi c, vi p] M (Ret (some (vi (bi (budgetOK c p)))) (if budgetOK c p then mbudgetM M c p else M)) := by
  refine wp_of (by decide +kernel) (Nat.le_of_ble_eq_true rfl) ?_
  refine g_iload_n dX10_budget_0 rfl rfl ?_
  refine g_if_lt (tgt := 21) dX10_budget_1 rfl (fun h1 => ?_) (fun h1 => ?_)
  · refine g_iconst dX10_budget_21 ?_
    refine g_zret dX10_budget_22 rfl ?_
    first | exact leafI (by omega) | exact leafJ (by omega)
  · refine g_iload_n dX10_budget_4 rfl rfl ?_
    refine g_sipush dX10_budget_5 rfl ?_
    refine g_icmp_gt (tgt := 21) dX10_budget_8 rfl (fun h8 => ?_) (fun h8 => ?_)
    · refine g_iconst dX10_budget_21 ?_
      refine g_zret dX10_budget_22 rfl ?_
      first | exact leafI (by omega) | exact leafJ (by omega)
    · refine g_iload_n dX10_budget_11 rfl rfl ?_
      refine g_if_lt (tgt := 21) dX10_budget_12 rfl (fun h12 => ?_) (fun h12 => ?_)
      · refine g_iconst dX10_budget_21 ?_
        refine g_zret dX10_budget_22 rfl ?_
        first | exact leafI (by omega) | exact leafJ (by omega)
      · refine g_iload_n dX10_budget_15 rfl rfl ?_
        refine g_bipush dX10_budget_16 rfl ?_
        refine g_icmp_le (tgt := 23) dX10_budget_18 rfl (fun h18 => ?_) (fun h18 => ?_)
        · refine g_aload_n dX10_budget_23 rfl rfl ?_
          refine g_iload_n dX10_budget_24 rfl rfl ?_
          refine g_puti dX10_budget_25 fX10_147 rfl rfl rfl (tyX10_ok 14 (by decide)) ?_
          refine g_aload_n dX10_budget_28 rfl rfl ?_
          refine g_iload_n dX10_budget_29 rfl rfl ?_
          refine g_puti dX10_budget_30 fX10_150 rfl rfl rfl (tyX10_ok 15 (by decide)) ?_
          refine g_aload_n dX10_budget_33 rfl rfl ?_
          refine g_iconst dX10_budget_34 ?_
          refine g_putz dX10_budget_35 fX10_120 rfl rfl rfl (tyX10_ok 21 (by decide)) ?_
          refine g_iconst dX10_budget_38 ?_
          refine g_zret dX10_budget_39 rfl ?_
          first | exact leafI (by omega) | exact leafJ (by omega)
        · refine g_iconst dX10_budget_21 ?_
          refine g_zret dX10_budget_22 rfl ?_
          first | exact leafI (by omega) | exact leafJ (by omega)

theorem w_X10_sound {d : Nat} {M : Mem} {a b z : Int} (hz : z = 0 ∨ z = 1) (a1 : -2147483648 ≤ a) (a2 : a < 2147483648) (b1 : -2147483648 ≤ b) (b2 : b < 2147483648) : WP wdM (d) mX10_sound [vr 0, vi a, vi b, vi z] M (Ret (some (vi (bi (soundOK a b z)))) (if soundOK a b z then msoundM M a b z else M)) := by
  refine wp_of (by decide +kernel) (Nat.le_of_ble_eq_true rfl) ?_
  refine g_iload_n dX10_sound_0 rfl rfl ?_
  refine g_if_lt (tgt := 29) dX10_sound_1 rfl (fun h1 => ?_) (fun h1 => ?_)
  · refine g_iconst dX10_sound_29 ?_
    refine g_zret dX10_sound_30 rfl ?_
    first | exact leafI (by omega) | exact leafJ (by omega)
  · refine g_iload_n dX10_sound_4 rfl rfl ?_
    refine g_bipush dX10_sound_5 rfl ?_
    refine g_icmp_gt (tgt := 29) dX10_sound_7 rfl (fun h7 => ?_) (fun h7 => ?_)
    · refine g_iconst dX10_sound_29 ?_
      refine g_zret dX10_sound_30 rfl ?_
      first | exact leafI (by omega) | exact leafJ (by omega)
    · refine g_iload_n dX10_sound_10 rfl rfl ?_
      refine g_if_lt (tgt := 29) dX10_sound_11 rfl (fun h11 => ?_) (fun h11 => ?_)
      · refine g_iconst dX10_sound_29 ?_
        refine g_zret dX10_sound_30 rfl ?_
        first | exact leafI (by omega) | exact leafJ (by omega)
      · refine g_iload_n dX10_sound_14 rfl rfl ?_
        refine g_bipush dX10_sound_15 rfl ?_
        refine g_icmp_gt (tgt := 29) dX10_sound_17 rfl (fun h17 => ?_) (fun h17 => ?_)
        · refine g_iconst dX10_sound_29 ?_
          refine g_zret dX10_sound_30 rfl ?_
          first | exact leafI (by omega) | exact leafJ (by omega)
        · refine g_iload_n dX10_sound_20 rfl rfl ?_
          refine g_iload_n dX10_sound_21 rfl rfl ?_
          refine g_icmp_ne (tgt := 31) dX10_sound_22 rfl (fun h22 => ?_) (fun h22 => ?_)
          · refine g_aload_n dX10_sound_31 rfl rfl ?_
            refine g_getr dX10_sound_32 fX10_44 rfl rfl ?_
            refine g_bipush dX10_sound_35 rfl ?_
            refine g_iload_n dX10_sound_37 rfl rfl ?_
            refine g_imul dX10_sound_38 ?_
            refine g_iload_n dX10_sound_39 rfl rfl ?_
            refine g_iadd dX10_sound_40 ?_
            refine g_iload_n dX10_sound_41 rfl rfl ?_
            refine g_bast dX10_sound_42 rfl (by decide) ?_
            refine g_aload_n dX10_sound_43 rfl rfl ?_
            refine g_getr dX10_sound_44 fX10_44 rfl rfl ?_
            refine g_bipush dX10_sound_47 rfl ?_
            refine g_iload_n dX10_sound_49 rfl rfl ?_
            refine g_imul dX10_sound_50 ?_
            refine g_iload_n dX10_sound_51 rfl rfl ?_
            refine g_iadd dX10_sound_52 ?_
            refine g_iload_n dX10_sound_53 rfl rfl ?_
            refine g_bast dX10_sound_54 rfl (by decide) ?_
            refine g_aload_n dX10_sound_55 rfl rfl ?_
            refine g_iconst dX10_sound_56 ?_
            refine g_putz dX10_sound_57 fX10_120 rfl rfl rfl (tyX10_ok 21 (by decide)) ?_
            refine g_iconst dX10_sound_60 ?_
            refine g_zret dX10_sound_61 rfl ?_
            first | exact leafI (by omega) | exact leafJ (by omega)
          · refine g_iload_n dX10_sound_25 rfl rfl ?_
            refine g_if_ne (tgt := 31) dX10_sound_26 rfl (fun h26 => ?_) (fun h26 => ?_)
            · refine g_aload_n dX10_sound_31 rfl rfl ?_
              refine g_getr dX10_sound_32 fX10_44 rfl rfl ?_
              refine g_bipush dX10_sound_35 rfl ?_
              refine g_iload_n dX10_sound_37 rfl rfl ?_
              refine g_imul dX10_sound_38 ?_
              refine g_iload_n dX10_sound_39 rfl rfl ?_
              refine g_iadd dX10_sound_40 ?_
              refine g_iload_n dX10_sound_41 rfl rfl ?_
              refine g_bast dX10_sound_42 rfl (by decide) ?_
              refine g_aload_n dX10_sound_43 rfl rfl ?_
              refine g_getr dX10_sound_44 fX10_44 rfl rfl ?_
              refine g_bipush dX10_sound_47 rfl ?_
              refine g_iload_n dX10_sound_49 rfl rfl ?_
              refine g_imul dX10_sound_50 ?_
              refine g_iload_n dX10_sound_51 rfl rfl ?_
              refine g_iadd dX10_sound_52 ?_
              refine g_iload_n dX10_sound_53 rfl rfl ?_
              refine g_bast dX10_sound_54 rfl (by decide) ?_
              refine g_aload_n dX10_sound_55 rfl rfl ?_
              refine g_iconst dX10_sound_56 ?_
              refine g_putz dX10_sound_57 fX10_120 rfl rfl rfl (tyX10_ok 21 (by decide)) ?_
              refine g_iconst dX10_sound_60 ?_
              refine g_zret dX10_sound_61 rfl ?_
              first | exact leafI (by omega) | exact leafJ (by omega)
            · refine g_iconst dX10_sound_29 ?_
              refine g_zret dX10_sound_30 rfl ?_
              first | exact leafI (by omega) | exact leafJ (by omega)

theorem w_X10_role {d : Nat} {M : Mem} {r : Nat} {w : Int} (hr : (r : Int) < M.1 0 13) (ho : 0 ≤ M.1 5 r ∧ M.1 5 r < 8) (w1 : -2147483648 ≤ w) (w2 : w < 2147483648) (hR0 : 0 ≤ M.1 0 12) (hR8 : M.1 0 12 ≤ 8) (hN0 : 0 ≤ M.1 0 13) (hN14 : M.1 0 13 ≤ 14) : WP wdM (d + 3) mX10_role [vr 0, vi r, vi w] M (Ret (some (vi (mroleS M r w))) M) := by
  refine wp_of (by decide +kernel) (Nat.le_of_ble_eq_true rfl) ?_
  refine g_aload_n dX10_role_0 rfl rfl ?_
  refine g_iload_n dX10_role_1 rfl rfl ?_
  refine g_callVr dX10_role_2 lX10_153 (w_X10_isRole (by omega) (by omega) hR0 hR8 hN0 hN14) rfl rfl rfl rfl (Nat.le_of_ble_eq_true rfl) ?_
  refine g_if_neB (tgt := 10) dX10_role_5 rfl (fun h5 => ?_) (fun h5 => ?_)
  · refine g_iload_n dX10_role_10 rfl rfl ?_
    by_cases hw : 0 ≤ w ∧ w ≤ 5
    · have hw6 : w = 0 ∨ w = 1 ∨ w = 2 ∨ w = 3 ∨ w = 4 ∨ w = 5 := by omega
      rcases hw6 with rfl | rfl | rfl | rfl | rfl | rfl
      · refine g_tsw (tgt := 48) dX10_role_11 rfl rfl ?_
        refine g_aload_n dX10_role_48 rfl rfl ?_
        refine g_getr dX10_role_49 fX10_22 rfl rfl ?_
        refine g_iload_n dX10_role_52 rfl rfl ?_
        refine g_iald dX10_role_53 rfl (by decide) ?_
        try simp only [Int.toNat_natCast]
        refine g_iret dX10_role_54 rfl ?_
        exact ⟨rfl, rfl⟩
      · refine g_tsw (tgt := 55) dX10_role_11 rfl rfl ?_
        refine g_aload_n dX10_role_55 rfl rfl ?_
        refine g_getr dX10_role_56 fX10_7 rfl rfl ?_
        refine g_aload_n dX10_role_59 rfl rfl ?_
        refine g_getr dX10_role_60 fX10_22 rfl rfl ?_
        refine g_iload_n dX10_role_63 rfl rfl ?_
        refine g_iald dX10_role_64 rfl (by decide) ?_
        try simp only [Int.toNat_natCast]
        refine g_iald dX10_role_65 rfl (by decide) ?_
        try simp only [Int.toNat_natCast]
        refine g_iret dX10_role_66 rfl ?_
        exact ⟨rfl, rfl⟩
      · refine g_tsw (tgt := 67) dX10_role_11 rfl rfl ?_
        refine g_aload_n dX10_role_67 rfl rfl ?_
        refine g_getr dX10_role_68 fX10_25 rfl rfl ?_
        refine g_iload_n dX10_role_71 rfl rfl ?_
        refine g_iald dX10_role_72 rfl (by decide) ?_
        try simp only [Int.toNat_natCast]
        refine g_iret dX10_role_73 rfl ?_
        exact ⟨rfl, rfl⟩
      · refine g_tsw (tgt := 74) dX10_role_11 rfl rfl ?_
        refine g_aload_n dX10_role_74 rfl rfl ?_
        refine g_getr dX10_role_75 fX10_28 rfl rfl ?_
        refine g_iload_n dX10_role_78 rfl rfl ?_
        refine g_iald dX10_role_79 rfl (by decide) ?_
        try simp only [Int.toNat_natCast]
        refine g_iret dX10_role_80 rfl ?_
        exact ⟨rfl, rfl⟩
      · refine g_tsw (tgt := 81) dX10_role_11 rfl rfl ?_
        refine g_aload_n dX10_role_81 rfl rfl ?_
        refine g_getr dX10_role_82 fX10_31 rfl rfl ?_
        refine g_iload_n dX10_role_85 rfl rfl ?_
        refine g_iald dX10_role_86 rfl (by decide) ?_
        try simp only [Int.toNat_natCast]
        refine g_iret dX10_role_87 rfl ?_
        exact ⟨rfl, rfl⟩
      · refine g_tsw (tgt := 88) dX10_role_11 rfl rfl ?_
        refine g_aload_n dX10_role_88 rfl rfl ?_
        refine g_getr dX10_role_89 fX10_34 rfl rfl ?_
        refine g_iload_n dX10_role_92 rfl rfl ?_
        refine g_iald dX10_role_93 rfl (by decide) ?_
        try simp only [Int.toNat_natCast]
        refine g_iret dX10_role_94 rfl ?_
        exact ⟨rfl, rfl⟩
    · refine g_tswO (tgt := 95) dX10_role_11 rfl ?_
      refine g_iconst dX10_role_95 ?_
      refine g_iret dX10_role_96 rfl ?_
      exact ⟨by unfold mroleS; rw [if_neg (by omega), if_neg (by omega), if_neg (by omega), if_neg (by omega), if_neg (by omega), if_neg (by omega)], rfl⟩
  · exact absurd ⟨by omega, hr⟩ h5
theorem w_X10_roleN {d : Nat} {M : Mem} {r w : Int} (hr : ¬ (0 ≤ r ∧ r < M.1 0 13)) (r1 : -2147483648 ≤ r) (r2 : r < 2147483648) (hR0 : 0 ≤ M.1 0 12) (hR8 : M.1 0 12 ≤ 8) (hN0 : 0 ≤ M.1 0 13) (hN14 : M.1 0 13 ≤ 14) : WP wdM (d + 3) mX10_role [vr 0, vi r, vi w] M (Ret (some (vi (-1))) M) := by
  refine wp_of (by decide +kernel) (Nat.le_of_ble_eq_true rfl) ?_
  refine g_aload_n dX10_role_0 rfl rfl ?_
  refine g_iload_n dX10_role_1 rfl rfl ?_
  refine g_callVr dX10_role_2 lX10_153 (w_X10_isRole (by omega) (by omega) hR0 hR8 hN0 hN14) rfl rfl rfl rfl (Nat.le_of_ble_eq_true rfl) ?_
  refine g_if_neB (tgt := 10) dX10_role_5 rfl (fun h5 => ?_) (fun h5 => ?_)
  · exact absurd h5 hr
  · refine g_iconst dX10_role_8 ?_
    refine g_iret dX10_role_9 rfl ?_
    exact ⟨rfl, rfl⟩

