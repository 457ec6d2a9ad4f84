/-! MODULE 9: how far two names are: the class's way. -/
def Fr (lo hi : Nat) (M M' : Mem) : Prop := ∀ p, (p < lo ∨ hi ≤ p) → M'.1 p = M.1 p ∧ M'.2 p = M.2 p
theorem Fr.rf {lo hi : Nat} {M : Mem} : Fr lo hi M M := fun _ _ => ⟨rfl, rfl⟩
theorem Fr.tr {lo hi : Nat} {M M1 M2 : Mem} (h : Fr lo hi M M1) (h2 : Fr lo hi M1 M2) : Fr lo hi M M2 := fun p hp => ⟨(h2 p hp).1.trans (h p hp).1, (h2 p hp).2.trans (h p hp).2⟩
theorem Fr.mono {lo hi lo' hi' : Nat} {M M1 : Mem} (h : Fr lo hi M M1) (h1 : lo' ≤ lo) (h2 : hi ≤ hi') : Fr lo' hi' M M1 := fun p hp => h p (by omega)
theorem Fr.si {lo hi : Nat} {M M1 : Mem} (h : Fr lo hi M M1) (p k : Nat) (z : Int) (h1 : lo ≤ p := by omega) (h2 : p < hi := by omega) : Fr lo hi M (si M1 p k z) := fun p' hp => by
  refine ⟨?_, (h p' hp).2⟩
  rw [si_1 M1 p k z p' (by omega)]
  exact (h p' hp).1
theorem Fr.sj {lo hi : Nat} {M M1 : Mem} (h : Fr lo hi M M1) (p k : Nat) (z : Int64) (h1 : lo ≤ p := by omega) (h2 : p < hi := by omega) : Fr lo hi M (sj M1 p k z) := fun p' hp => by
  refine ⟨(h p' hp).1, ?_⟩
  rw [sj_2 M1 p k z p' (by omega)]
  exact (h p' hp).2
def nxt (s : Nat → Int) (i : Nat) (f : Nat → Int) : Nat → Int
  | 0 => i + 1
  | j + 1 => min (f j + s j) (min (f (j + 1)) (nxt s i f j) + 1)
def lev (s : Nat → Nat → Int) : Nat → Nat → Int
  | 0 => fun j => j
  | i + 1 => nxt (s i) i (lev s i)
theorem lev_0 (s : Nat → Nat → Int) (j : Nat) : lev s 0 j = j := rfl
theorem lev_i0 (s : Nat → Nat → Int) : ∀ i : Nat, lev s i 0 = i
  | 0 => rfl
  | i + 1 => by show ((i : Int) + 1) = ((i + 1 : Nat) : Int); omega
theorem lev_s (s : Nat → Nat → Int) (i j : Nat) : lev s (i + 1) (j + 1) = min (lev s i j + s i j) (min (lev s i (j + 1)) (lev s (i + 1) j) + 1) := rfl
theorem lev_dn (s : Nat → Nat → Int) (i : Nat) : ∀ j : Nat, lev s (i + 1) j ≤ lev s i j + 1
  | 0 => by rw [lev_i0, lev_i0]; omega
  | j + 1 => by rw [lev_s]; omega
theorem lev_rt (s : Nat → Nat → Int) : ∀ i j : Nat, lev s i (j + 1) ≤ lev s i j + 1
  | 0, j => by rw [lev_0, lev_0]; omega
  | i + 1, j => by rw [lev_s]; omega
theorem lev_dg (s : Nat → Nat → Int) (i j : Nat) : lev s (i + 1) (j + 1) ≤ lev s i j + s i j := by rw [lev_s]; omega
theorem lev_ge (s : Nat → Nat → Int) (hs : ∀ i j, 0 ≤ s i j) : ∀ i j : Nat, 0 ≤ lev s i j ∧ lev s i j ≤ i + j
  | 0, j => by rw [lev_0]; omega
  | i + 1, 0 => by rw [lev_i0]; omega
  | i + 1, j + 1 => by
    have h1 := lev_ge s hs i j
    have h2 := lev_ge s hs i (j + 1)
    have h3 := lev_ge s hs (i + 1) j
    have h4 := hs i j
    rw [lev_s]
    omega
theorem lev_congr (s t : Nat → Nat → Int) : ∀ i j : Nat, (∀ x y, x < i → y < j → s x y = t x y) → lev s i j = lev t i j
  | 0, j, _ => rfl
  | i + 1, 0, _ => by rw [lev_i0, lev_i0]
  | i + 1, j + 1, h => by
    rw [lev_s, lev_s, lev_congr s t i j (fun x y hx hy => h x y (by omega) (by omega)), lev_congr s t i (j + 1) (fun x y hx hy => h x y (by omega) (by omega)), lev_congr s t (i + 1) j (fun x y hx hy => h x y (by omega) (by omega)), h i j (by omega) (by omega)]
theorem lev_tri (s : Nat → Nat → Int) (m n : Nat) : ∀ (a b i j : Nat), i + a = m → j + b = n → lev s m n ≤ lev s i j + lev (fun x y => s (m - 1 - x) (n - 1 - y)) a b
  | 0, 0, i, j, h1, h2 => by
    have h1 : i = m := by omega
    have h2 : j = n := by omega
    subst h1; subst h2
    rw [lev_0]; omega
  | 0, b + 1, i, j, h1, h2 => by
    have h3 := lev_tri s m n 0 b i (j + 1) h1 (by omega)
    have h4 := lev_rt s i j
    rw [lev_0] at h3 ⊢
    omega
  | a + 1, 0, i, j, h1, h2 => by
    have h3 := lev_tri s m n a 0 (i + 1) j (by omega) h2
    have h4 := lev_dn s i j
    rw [lev_i0] at h3 ⊢
    omega
  | a + 1, b + 1, i, j, h1, h2 => by
    have h3 := lev_tri s m n a (b + 1) (i + 1) j (by omega) h2
    have h4 := lev_tri s m n (a + 1) b i (j + 1) h1 (by omega)
    have h5 := lev_tri s m n a b (i + 1) (j + 1) (by omega) (by omega)
    have h6 := lev_dn s i j
    have h7 := lev_rt s i j
    have h8 := lev_dg s i j
    rw [lev_s]
    have e1 : m - 1 - a = i := by omega
    have e2 : n - 1 - b = j := by omega
    rw [e1, e2]
    omega
/-- read from the last letter on, or from the first: it's the same -/
theorem lev_rev (s : Nat → Nat → Int) (m n : Nat) : lev s m n = lev (fun x y => s (m - 1 - x) (n - 1 - y)) m n := by
  have h1 := lev_tri s m n m n 0 0 (by omega) (by omega)
  have h2 := lev_tri (fun x y => s (m - 1 - x) (n - 1 - y)) m n m n 0 0 (by omega) (by omega)
  rw [lev_0] at h1 h2
  have h3 : lev (fun x y => s (m - 1 - (m - 1 - x)) (n - 1 - (n - 1 - y))) m n = lev s m n := lev_congr _ _ m n (fun x y hx hy => by
    have e1 : m - 1 - (m - 1 - x) = x := by omega
    have e2 : n - 1 - (n - 1 - y) = y := by omega
    rw [e1, e2])
  rw [h3] at h2
  have h4 : ((0 : Nat) : Int) = 0 := rfl
  omega
def subC (A : Nat → Int) (a b : Int64) (i j : Nat) : Int := if ((byt a i : Int) - 97 = (byt b j : Int) - 97 ∨ A (((byt a i : Int) - 97) * 32 + ((byt b j : Int) - 97)).toNat = 1) then 0 else 1
theorem subC_ge (A : Nat → Int) (a b : Int64) (i j : Nat) : 0 ≤ subC A a b i j := by unfold subC; split <;> omega
def distC (A : Nat → Int) (a b : Int64) : Int := if nlen a = 0 ∨ nlen b = 0 then 0 else lev (subC A a b) (nlen a) (nlen b)
theorem distC_r (A : Nat → Int) (a b : Int64) : 0 ≤ distC A a b ∧ distC A a b ≤ 16 := by
  have h1 := nlen_le a
  have h2 := nlen_le b
  have h3 := lev_ge (subC A a b) (subC_ge A a b) (nlen a) (nlen b)
  unfold distC
  split <;> omega

theorem w_X1_distance {d : Nat} {M : Mem} {a b : Int64} (ha : NameOK a) (hb : NameOK b) (hal : ∀ j : Nat, M.1 14 j = 0 ∨ M.1 14 j = 1) : WP wdC (d + 1) mX1_distance [vr 13, vl a, vl b] M (fun v M' => v = some (vi (distC (M.1 14) a b)) ∧ Fr 15 (1 + 15) M M') := by
  refine wp_of (by decide +kernel) (Nat.le_of_ble_eq_true rfl) ?_
  have hna := nlen_le a
  have hnb := nlen_le b
  have hlv := lev_ge (subC (M.1 14) a b) (subC_ge (M.1 14) a b)
  have outer : nlen a ≠ 0 → nlen b ≠ 0 → ∀ n' i : Nat, i + n' = nlen a → ∀ (M1 : Mem) (x8 x9 x10 x11 : Option AV), Fr 15 (1 + 15) M M1 → (∀ j, j ≤ nlen b → M1.1 15 j = lev (subC (M.1 14) a b) i j) → G wdC mX1_distance (d + 1) (fun v M' => v = some (vi (distC (M.1 14) a b)) ∧ Fr 15 (1 + 15) M M') 57 ([some (vr 13), some (vl a), none, some (vl b), none, some (vi (nlen a)), some (vi (nlen b)), some (vi i), x8, x9, x10, x11]) [] M1 := by
    intro hza hzb n'
    induction n' with
    | zero =>
      intro i hi M1 x8 x9 x10 x11 hF hrow
      have hi : i = nlen a := by omega
      subst hi
      refine g_iload dX1_distance_57 rfl ?_
      refine g_iload dX1_distance_59 rfl ?_
      refine g_icmp_ge (tgt := 177) dX1_distance_61 rfl (fun h61 => ?_) (fun h61 => ?_)
      · refine g_aload_n dX1_distance_177 rfl rfl ?_
        refine g_getr dX1_distance_178 fX1_15 rfl rfl ?_
        refine g_iload dX1_distance_181 rfl ?_
        refine g_iald dX1_distance_183 rfl (by decide) ?_
        refine g_iret dX1_distance_184 rfl ?_
        refine ⟨?_, hF⟩
        rw [Int.toNat_natCast, hrow _ (Nat.le_refl _)]
        unfold distC
        rw [if_neg (by omega)]
      · exfalso; omega
    | succ n' ih =>
      intro i hi M1 x8 x9 x10 x11 hF hrow
      have hai := ha i (by omega)
      have inner : ∀ n'' j : Nat, j + n'' = nlen b → ∀ (M2 : Mem) (x10 x11 : Option AV), Fr 15 (1 + 15) M M2 → (∀ t, t ≤ j → M2.1 15 t = lev (subC (M.1 14) a b) (i + 1) t) → (∀ t, j < t → t ≤ nlen b → M2.1 15 t = lev (subC (M.1 14) a b) i t) → G wdC mX1_distance (d + 1) (fun v M' => v = some (vi (distC (M.1 14) a b)) ∧ Fr 15 (1 + 15) M M') 85 ([some (vr 13), some (vl a), none, some (vl b), none, some (vi (nlen a)), some (vi (nlen b)), some (vi i), some (vi (lev (subC (M.1 14) a b) i j)), some (vi j), x10, x11]) [] M2 := by
        intro n''
        induction n'' with
        | zero =>
          intro j hj M2 x10 x11 hF2 h1 h2
          have hj : j = nlen b := by omega
          subst hj
          refine g_iload dX1_distance_85 rfl ?_
          refine g_iload dX1_distance_87 rfl ?_
          refine g_icmp_ge (tgt := 171) dX1_distance_89 rfl (fun h89 => ?_) (fun h89 => ?_)
          · refine g_iinc (ls' := [_, _, _, _, _, _, _, _, _, _, _, _]) dX1_distance_171 rfl rfl ?_
            refine g_goto (tgt := 57) dX1_distance_174 rfl ?_
            exact ih (i + 1) (by omega) M2 _ _ _ _ hF2 h1
          · exfalso; omega
        | succ n'' ih2 =>
          intro j hj M2 x10 x11 hF2 h1 h2
          have hbj := hb j (by omega)
          have e1 : ((j : Int) + 1).toNat = j + 1 := by omega
          have l1 := hlv i j
          have l2 := hlv i (j + 1)
          have l3 := hlv (i + 1) j
          have hA : M2.1 14 = M.1 14 := (hF2 14 (Or.inl (by decide))).1
          have hal2 : ∀ j : Nat, M2.1 14 j = 0 ∨ M2.1 14 j = 1 := by rw [hA]; exact hal
          refine g_iload dX1_distance_85 rfl ?_
          refine g_iload dX1_distance_87 rfl ?_
          refine g_icmp_ge (tgt := 171) dX1_distance_89 rfl (fun h89 => ?_) (fun h89 => ?_)
          · exfalso; omega
          · refine g_aload_n dX1_distance_92 rfl rfl ?_
            refine g_lload_n dX1_distance_93 rfl rfl ?_
            refine g_iload dX1_distance_94 rfl ?_
            refine g_callSr dX1_distance_96 lX1_31 (w_X3_letterOf (by omega)) rfl rfl (Nat.le_of_ble_eq_true rfl) ?_
            refine g_lload_n dX1_distance_99 rfl rfl ?_
            refine g_iload dX1_distance_100 rfl ?_
            refine g_callSr dX1_distance_102 lX1_31 (w_X3_letterOf (by omega)) rfl rfl (Nat.le_of_ble_eq_true rfl) ?_
            refine g_callVr dX1_distance_105 lX1_35 (w_X1_soundAlike (by omega) (by omega) (by omega) (by omega) hal2) rfl rfl rfl rfl (Nat.le_of_ble_eq_true rfl) ?_
            refine g_istore (ls' := [_, _, _, _, _, _, _, _, _, _, _, _]) dX1_distance_108 (by decide) rfl ?_
            refine g_iload dX1_distance_110 rfl ?_
            refine g_if_eqB (tgt := 120) dX1_distance_112 rfl (fun h112 => ?_) (fun h112 => ?_)
            · refine g_iload dX1_distance_120 rfl ?_
              refine g_iconst dX1_distance_122 ?_
              refine g_iadd dX1_distance_123 ?_
              refine g_istore (ls' := [_, _, _, _, _, _, _, _, _, _, _, _]) dX1_distance_124 (by decide) rfl ?_
              refine g_aload_n dX1_distance_126 rfl rfl ?_
              refine g_getr dX1_distance_127 fX1_15 rfl rfl ?_
              refine g_iload dX1_distance_130 rfl ?_
              refine g_iconst dX1_distance_132 ?_
              refine g_iadd dX1_distance_133 ?_
              refine g_iald dX1_distance_134 rfl (by decide) ?_
              rw [e1, h2 (j + 1) (by omega) (by omega)]
              refine g_istore (ls' := [_, _, _, _, _, _, _, _, _, _, _, _]) dX1_distance_135 (by decide) rfl ?_
              refine g_aload_n dX1_distance_137 rfl rfl ?_
              refine g_getr dX1_distance_138 fX1_15 rfl rfl ?_
              refine g_iload dX1_distance_141 rfl ?_
              refine g_iconst dX1_distance_143 ?_
              refine g_iadd dX1_distance_144 ?_
              refine g_iload dX1_distance_145 rfl ?_
              refine g_iload dX1_distance_147 rfl ?_
              refine g_aload_n dX1_distance_149 rfl rfl ?_
              refine g_getr dX1_distance_150 fX1_15 rfl rfl ?_
              refine g_iload dX1_distance_153 rfl ?_
              refine g_iald dX1_distance_155 rfl (by decide) ?_
              rw [Int.toNat_natCast, h1 j (Nat.le_refl _)]
              refine g_min dX1_distance_156 lX1_25 (Nat.le_of_ble_eq_true rfl) ?_
              refine g_iconst dX1_distance_159 ?_
              refine g_iadd dX1_distance_160 ?_
              refine g_min dX1_distance_161 lX1_25 (Nat.le_of_ble_eq_true rfl) ?_
              refine g_iast dX1_distance_164 rfl (by decide) ?_
              refine g_iinc (ls' := [_, _, _, _, _, _, _, _, _, _, _, _]) dX1_distance_165 rfl rfl ?_
              refine g_goto (tgt := 85) dX1_distance_168 rfl ?_
              have hs : subC (M.1 14) a b i j = if ((byt a i : Int) - 97 = (byt b j : Int) - 97 ∨ M2.1 14 (((byt a i : Int) - 97) * 32 + ((byt b j : Int) - 97)).toNat = 1) then 0 else 1 := by rw [hA]; rfl
              first | rw [if_pos h112] at hs | rw [if_neg h112] at hs
              refine ih2 (j + 1) (by omega) _ _ _ (hF2.si _ _ _) (fun t ht => ?_) (fun t ht ht2 => ?_)
              · rw [sil]
                by_cases htj : t = j + 1
                · subst htj
                  rw [if_pos ⟨rfl, e1.symm⟩, lev_s, hs]
                  try rw [Int.add_zero]
                · rw [if_neg (by omega)]
                  exact h1 t (by omega)
              · rw [sil, if_neg (by omega)]
                exact h2 t (by omega) ht2
            · refine g_iload dX1_distance_115 rfl ?_
              refine g_goto (tgt := 124) dX1_distance_117 rfl ?_
              refine g_istore (ls' := [_, _, _, _, _, _, _, _, _, _, _, _]) dX1_distance_124 (by decide) rfl ?_
              refine g_aload_n dX1_distance_126 rfl rfl ?_
              refine g_getr dX1_distance_127 fX1_15 rfl rfl ?_
              refine g_iload dX1_distance_130 rfl ?_
              refine g_iconst dX1_distance_132 ?_
              refine g_iadd dX1_distance_133 ?_
              refine g_iald dX1_distance_134 rfl (by decide) ?_
              rw [e1, h2 (j + 1) (by omega) (by omega)]
              refine g_istore (ls' := [_, _, _, _, _, _, _, _, _, _, _, _]) dX1_distance_135 (by decide) rfl ?_
              refine g_aload_n dX1_distance_137 rfl rfl ?_
              refine g_getr dX1_distance_138 fX1_15 rfl rfl ?_
              refine g_iload dX1_distance_141 rfl ?_
              refine g_iconst dX1_distance_143 ?_
              refine g_iadd dX1_distance_144 ?_
              refine g_iload dX1_distance_145 rfl ?_
              refine g_iload dX1_distance_147 rfl ?_
              refine g_aload_n dX1_distance_149 rfl rfl ?_
              refine g_getr dX1_distance_150 fX1_15 rfl rfl ?_
              refine g_iload dX1_distance_153 rfl ?_
              refine g_iald dX1_distance_155 rfl (by decide) ?_
              rw [Int.toNat_natCast, h1 j (Nat.le_refl _)]
              refine g_min dX1_distance_156 lX1_25 (Nat.le_of_ble_eq_true rfl) ?_
              refine g_iconst dX1_distance_159 ?_
              refine g_iadd dX1_distance_160 ?_
              refine g_min dX1_distance_161 lX1_25 (Nat.le_of_ble_eq_true rfl) ?_
              refine g_iast dX1_distance_164 rfl (by decide) ?_
              refine g_iinc (ls' := [_, _, _, _, _, _, _, _, _, _, _, _]) dX1_distance_165 rfl rfl ?_
              refine g_goto (tgt := 85) dX1_distance_168 rfl ?_
              have hs : subC (M.1 14) a b i j = if ((byt a i : Int) - 97 = (byt b j : Int) - 97 ∨ M2.1 14 (((byt a i : Int) - 97) * 32 + ((byt b j : Int) - 97)).toNat = 1) then 0 else 1 := by rw [hA]; rfl
              first | rw [if_pos h112] at hs | rw [if_neg h112] at hs
              refine ih2 (j + 1) (by omega) _ _ _ (hF2.si _ _ _) (fun t ht => ?_) (fun t ht ht2 => ?_)
              · rw [sil]
                by_cases htj : t = j + 1
                · subst htj
                  rw [if_pos ⟨rfl, e1.symm⟩, lev_s, hs]
                  try rw [Int.add_zero]
                · rw [if_neg (by omega)]
                  exact h1 t (by omega)
              · rw [sil, if_neg (by omega)]
                exact h2 t (by omega) ht2
      have l1 := hlv i 0
      refine g_iload dX1_distance_57 rfl ?_
      refine g_iload dX1_distance_59 rfl ?_
      refine g_icmp_ge (tgt := 177) dX1_distance_61 rfl (fun h61 => ?_) (fun h61 => ?_)
      · exfalso; omega
      · refine g_aload_n dX1_distance_64 rfl rfl ?_
        refine g_getr dX1_distance_65 fX1_15 rfl rfl ?_
        refine g_iconst dX1_distance_68 ?_
        refine g_iald dX1_distance_69 rfl (by decide) ?_
        have e0 : (0 : Int).toNat = 0 := rfl
        rw [e0, hrow 0 (Nat.zero_le _)]
        refine g_istore (ls' := [_, _, _, _, _, _, _, _, _, _, _, _]) dX1_distance_70 (by decide) rfl ?_
        refine g_aload_n dX1_distance_72 rfl rfl ?_
        refine g_getr dX1_distance_73 fX1_15 rfl rfl ?_
        refine g_iconst dX1_distance_76 ?_
        refine g_iload dX1_distance_77 rfl ?_
        refine g_iconst dX1_distance_79 ?_
        refine g_iadd dX1_distance_80 ?_
        refine g_iast dX1_distance_81 rfl (by decide) ?_
        refine g_iconst dX1_distance_82 ?_
        refine g_istore (ls' := [_, _, _, _, _, _, _, _, _, _, _, _]) dX1_distance_83 (by decide) rfl ?_
        refine inner (nlen b) 0 (by omega) _ _ _ (hF.si _ _ _) (fun t ht => ?_) (fun t ht ht2 => ?_)
        · have ht : t = 0 := by omega
          subst ht
          rw [sil, if_pos ⟨rfl, rfl⟩, lev_i0]
          rfl
        · rw [sil, if_neg (fun z => absurd z.2 (by show ¬ t = 0; omega))]
          exact hrow t ht2
  have init : ∀ n' j : Nat, j + n' = nlen b + 1 → nlen a ≠ 0 → nlen b ≠ 0 → ∀ (M1 : Mem) (x8 x9 x10 x11 : Option AV), Fr 15 (1 + 15) M M1 → (∀ t, t < j → M1.1 15 t = t) → G wdC mX1_distance (d + 1) (fun v M' => v = some (vi (distC (M.1 14) a b)) ∧ Fr 15 (1 + 15) M M') 32 ([some (vr 13), some (vl a), none, some (vl b), none, some (vi (nlen a)), some (vi (nlen b)), some (vi j), x8, x9, x10, x11]) [] M1 := by
    intro n'
    induction n' with
    | zero =>
      intro j hj hza hzb M1 x8 x9 x10 x11 hF hrow
      refine g_iload dX1_distance_32 rfl ?_
      refine g_iload dX1_distance_34 rfl ?_
      refine g_icmp_gt (tgt := 54) dX1_distance_36 rfl (fun h36 => ?_) (fun h36 => ?_)
      · refine g_iconst dX1_distance_54 ?_
        refine g_istore (ls' := [_, _, _, _, _, _, _, _, _, _, _, _]) dX1_distance_55 (by decide) rfl ?_
        exact outer hza hzb (nlen a) 0 (by omega) M1 _ _ _ _ hF (fun t ht => hrow t (by omega))
      · exfalso; omega
    | succ n' ih =>
      intro j hj hza hzb M1 x8 x9 x10 x11 hF hrow
      refine g_iload dX1_distance_32 rfl ?_
      refine g_iload dX1_distance_34 rfl ?_
      refine g_icmp_gt (tgt := 54) dX1_distance_36 rfl (fun h36 => ?_) (fun h36 => ?_)
      · exfalso; omega
      · refine g_aload_n dX1_distance_39 rfl rfl ?_
        refine g_getr dX1_distance_40 fX1_15 rfl rfl ?_
        refine g_iload dX1_distance_43 rfl ?_
        refine g_iload dX1_distance_45 rfl ?_
        refine g_iast dX1_distance_47 rfl (by decide) ?_
        refine g_iinc (ls' := [_, _, _, _, _, _, _, _, _, _, _, _]) dX1_distance_48 rfl rfl ?_
        refine g_goto (tgt := 32) dX1_distance_51 rfl ?_
        refine ih (j + 1) (by omega) hza hzb _ _ _ _ _ (hF.si _ _ _) (fun t ht => ?_)
        rw [sil]
        by_cases htj : t = j
        · subst htj; rw [if_pos ⟨rfl, by omega⟩]
        · rw [if_neg (by omega)]; exact hrow t (by omega)
  refine g_lload_n dX1_distance_0 rfl rfl ?_
  refine g_callSr dX1_distance_1 lX1_19 (w_X3_lengthOf) rfl rfl (Nat.le_of_ble_eq_true rfl) ?_
  refine g_istore (ls' := [_, _, _, _, _, _, _, _, _, _, _, _]) dX1_distance_4 (by decide) rfl ?_
  refine g_lload_n dX1_distance_6 rfl rfl ?_
  refine g_callSr dX1_distance_7 lX1_19 (w_X3_lengthOf) rfl rfl (Nat.le_of_ble_eq_true rfl) ?_
  refine g_bipush dX1_distance_10 rfl ?_
  refine g_min dX1_distance_12 lX1_25 (Nat.le_of_ble_eq_true rfl) ?_
  rw [show min ((nlen b : Nat) : Int) 8 = ((nlen b : Nat) : Int) by omega]
  refine g_istore (ls' := [_, _, _, _, _, _, _, _, _, _, _, _]) dX1_distance_15 (by decide) rfl ?_
  refine g_iload dX1_distance_17 rfl ?_
  refine g_if_eq (tgt := 27) dX1_distance_19 rfl (fun h19 => ?_) (fun h19 => ?_)
  · refine g_iconst dX1_distance_27 ?_
    refine g_iret dX1_distance_28 rfl ?_
    exact ⟨by unfold distC; rw [if_pos (by omega)], Fr.rf⟩
  · refine g_iload dX1_distance_22 rfl ?_
    refine g_if_ne (tgt := 29) dX1_distance_24 rfl (fun h24 => ?_) (fun h24 => ?_)
    · refine g_iconst dX1_distance_29 ?_
      refine g_istore (ls' := [_, _, _, _, _, _, _, _, _, _, _, _]) dX1_distance_30 (by decide) rfl ?_
      exact init (nlen b + 1) 0 (by omega) (by omega) (by omega) M _ _ _ _ Fr.rf (fun t ht => absurd ht (by omega))
    · refine g_iconst dX1_distance_27 ?_
      refine g_iret dX1_distance_28 rfl ?_
      exact ⟨by unfold distC; rw [if_pos (by omega)], Fr.rf⟩

