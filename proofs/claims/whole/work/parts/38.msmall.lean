/-! MODULE 34: hasMore, personOf, comes, the table of distances (reference). -/
theorem w_X10_hasMore {d : Nat} {M : Mem} {k o : Nat} {ch ppl cp : Int} (hk : k < 14) (ho : o < 14) (h1 : M.1 15 k = o) (h2 : M.1 16 k = ch) (h3 : M.1 18 k = ppl) (h4 : M.1 9 o = cp) (r1 : -100 ≤ ch ∧ ch ≤ 100) (r2 : -100 ≤ ppl ∧ ppl ≤ 100) (r3 : -100 ≤ cp ∧ cp ≤ 100) : WP wdM d mX10_hasMore [vr 0, vi k] M (Ret (some (vi (bi ((cp < 0 ∧ ch < ppl) ∨ (0 ≤ cp ∧ ch < 0))))) M) := by
  refine wp_of (by decide +kernel) (Nat.le_of_ble_eq_true rfl) ?_
  refine g_aload_n dX10_hasMore_0 rfl rfl ?_
  refine g_getr dX10_hasMore_1 fX10_34 rfl rfl ?_
  refine g_aload_n dX10_hasMore_4 rfl rfl ?_
  refine g_getr dX10_hasMore_5 fX10_70 rfl rfl ?_
  refine g_iload_n dX10_hasMore_8 rfl rfl ?_
  refine g_iald dX10_hasMore_9 rfl (by decide) ?_
  try simp only [Int.toNat_natCast]
  rw [h1]
  refine g_iald dX10_hasMore_10 rfl (by decide) ?_
  try simp only [Int.toNat_natCast]
  rw [h4]
  refine g_if_ge (tgt := 37) dX10_hasMore_11 rfl (fun h11 => ?_) (fun h11 => ?_)
  · refine g_aload_n dX10_hasMore_37 rfl rfl ?_
    refine g_getr dX10_hasMore_38 fX10_73 rfl rfl ?_
    refine g_iload_n dX10_hasMore_41 rfl rfl ?_
    refine g_iald dX10_hasMore_42 rfl (by decide) ?_
    try simp only [Int.toNat_natCast]
    rw [h2]
    refine g_if_ge (tgt := 50) dX10_hasMore_43 rfl (fun h43 => ?_) (fun h43 => ?_)
    · refine g_iconst dX10_hasMore_50 ?_
      refine g_zret dX10_hasMore_51 rfl ?_
      first | exact leafT (by omega) | exact leafF (by omega)
    · refine g_iconst dX10_hasMore_46 ?_
      refine g_goto (tgt := 51) dX10_hasMore_47 rfl ?_
      refine g_zret dX10_hasMore_51 rfl ?_
      first | exact leafT (by omega) | exact leafF (by omega)
  · refine g_aload_n dX10_hasMore_14 rfl rfl ?_
    refine g_getr dX10_hasMore_15 fX10_73 rfl rfl ?_
    refine g_iload_n dX10_hasMore_18 rfl rfl ?_
    refine g_iald dX10_hasMore_19 rfl (by decide) ?_
    try simp only [Int.toNat_natCast]
    rw [h2]
    refine g_aload_n dX10_hasMore_20 rfl rfl ?_
    refine g_getr dX10_hasMore_21 fX10_79 rfl rfl ?_
    refine g_iload_n dX10_hasMore_24 rfl rfl ?_
    refine g_iald dX10_hasMore_25 rfl (by decide) ?_
    try simp only [Int.toNat_natCast]
    rw [h3]
    refine g_icmp_ge (tgt := 33) dX10_hasMore_26 rfl (fun h26 => ?_) (fun h26 => ?_)
    · refine g_iconst dX10_hasMore_33 ?_
      refine g_goto (tgt := 51) dX10_hasMore_34 rfl ?_
      refine g_zret dX10_hasMore_51 rfl ?_
      first | exact leafT (by omega) | exact leafF (by omega)
    · refine g_iconst dX10_hasMore_29 ?_
      refine g_goto (tgt := 51) dX10_hasMore_30 rfl ?_
      refine g_zret dX10_hasMore_51 rfl ?_
      first | exact leafT (by omega) | exact leafF (by omega)

theorem w_X10_personOf {d : Nat} {M : Mem} {a : Asg} {o : Nat} (ha : ∀ x ∈ a, x.1 < 14 ∧ x.2 < 15) (hl : a.length ≤ 14) (ho : o < 14) (hrow : RowI M 0 a) : WP wdM d mX10_personOf [vr 0, vi o, vi a.length] M (Ret (some (vi (per a o))) M) := by
  refine wp_of (by decide +kernel) (Nat.le_of_ble_eq_true rfl) ?_
  have loop : ∀ (suf : Asg) (i : Nat), i + suf.length = a.length → (∀ x ∈ suf, x.1 < 14 ∧ x.2 < 15) → RowI M i suf → per suf o = per a o → G wdM mX10_personOf d (Ret (some (vi (per a o))) M) 2 [some (vr 0), some (vi o), some (vi a.length), some (vi i)] [] M := by
    intro suf
    induction suf with
    | nil =>
      intro i hi hx hrw hp
      have hi : i = a.length := hi
      subst hi
      refine g_iload_n dX10_personOf_2 rfl rfl ?_
      refine g_iload_n dX10_personOf_3 rfl rfl ?_
      refine g_icmp_ge (tgt := 30) dX10_personOf_4 rfl (fun h4 => ?_) (fun h4 => ?_)
      · refine g_iconst dX10_personOf_30 ?_
        refine g_iret dX10_personOf_31 rfl ?_
        exact ⟨by rw [← hp]; rfl, rfl⟩
      · exfalso; omega
    | cons x suf ih =>
      intro i hi hx hrw hp
      obtain ⟨p, qq⟩ := x
      obtain ⟨hp1, hqq⟩ := hx _ List.mem_cons_self
      have hx' := fun y hy => hx y (List.mem_cons_of_mem _ hy)
      obtain ⟨r1, r2, r3⟩ := hrw
      have hp1 : p < 14 := hp1
      have hqq : qq < 15 := hqq
      have r1 : M.1 15 i = p := r1
      have r2 : M.1 16 i = qq := r2
      have hil : i + (suf.length + 1) = a.length := hi
      have hp : (if p = o then qq else per suf o) = per a o := hp
      refine g_iload_n dX10_personOf_2 rfl rfl ?_
      refine g_iload_n dX10_personOf_3 rfl rfl ?_
      refine g_icmp_ge (tgt := 30) dX10_personOf_4 rfl (fun h4 => ?_) (fun h4 => ?_)
      · exfalso; omega
      · refine g_aload_n dX10_personOf_7 rfl rfl ?_
        refine g_getr dX10_personOf_8 fX10_70 rfl rfl ?_
        refine g_iload_n dX10_personOf_11 rfl rfl ?_
        refine g_iald dX10_personOf_12 rfl (by decide) ?_
        try simp only [Int.toNat_natCast]
        rw [r1]
        refine g_iload_n dX10_personOf_13 rfl rfl ?_
        refine g_icmp_ne (tgt := 24) dX10_personOf_14 rfl (fun h14 => ?_) (fun h14 => ?_)
        · refine g_iinc (ls' := [some _, some _, some _, some _]) dX10_personOf_24 rfl rfl ?_
          refine g_goto (tgt := 2) dX10_personOf_27 rfl ?_
          rw [if_neg (by omega)] at hp
          exact ih (i + 1) (by omega) hx' r3 hp
        · refine g_aload_n dX10_personOf_17 rfl rfl ?_
          refine g_getr dX10_personOf_18 fX10_73 rfl rfl ?_
          refine g_iload_n dX10_personOf_21 rfl rfl ?_
          refine g_iald dX10_personOf_22 rfl (by decide) ?_
          try simp only [Int.toNat_natCast]
          rw [r2]
          refine g_iret dX10_personOf_23 rfl ?_
          rw [if_pos (by omega)] at hp
          exact ⟨by rw [← hp], rfl⟩
  refine g_iconst dX10_personOf_0 ?_
  refine g_istore_n (ls' := [some _, some _, some _, some _]) dX10_personOf_1 rfl (by decide) rfl ?_
  exact loop a 0 (by omega) ha hrow rfl

/-- a way is kept -/
def KeptM (M M1 : Mem) (f n : Nat) : Prop := (∀ p, p ≠ 19 → M1.1 p = M.1 p) ∧ M1.2 = M.2 ∧ (∀ j, j < n → M1.1 19 (14 * f + j) = M.1 16 j) ∧ ∀ j, j < 14 * f → M1.1 19 j = M.1 19 j
theorem KeptM.st {M M1 : Mem} {f n : Nat} (h : KeptM M M1 f n) : KeptM M (si M1 19 (14 * f + n) (M.1 16 n)) f (n + 1) := by
  obtain ⟨h1, h2, h3, h4⟩ := h
  refine ⟨fun p hp => by rw [si_1 _ _ _ _ _ hp]; exact h1 p hp, h2, fun j hj => ?_, fun j hj => ?_⟩
  · rw [sil]
    by_cases hjn : j = n
    · subst hjn; rw [if_pos ⟨rfl, rfl⟩]
    · rw [if_neg (by omega)]; exact h3 j (by omega)
  · rw [sil, if_neg (by omega)]; exact h4 j hj
theorem w_X10_comes0 {d : Nat} {M : Mem} {f n : Nat} (hf : M.1 0 30 = f) (hf3 : f < 3000) (hn : M.1 0 28 = n) (hn14 : n ≤ 14) (hch : ∀ j, j < n → 0 ≤ M.1 16 j ∧ M.1 16 j < 100) (hc : -2147483648 ≤ M.1 17 n ∧ M.1 17 n < 2147483648) : WP wdM d mX10_comes [vr 0, vi 0] M (fun v M' => v = none ∧ ∃ M1, KeptM M M1 f n ∧ M' = si (si M1 20 f (M.1 17 n)) 0 30 (f + 1)) := by
  refine wp_of (by decide +kernel) (Nat.le_of_ble_eq_true rfl) ?_
  have loop : ∀ k i : Nat, i + k = n → ∀ M1 : Mem, KeptM M M1 f i → G wdM mX10_comes d (fun v M' => v = none ∧ ∃ M1, KeptM M M1 f n ∧ M' = si (si M1 20 f (M.1 17 n)) 0 30 (f + 1)) 101 [some (vr 0), some (vi 0), some (vi i), none, none] [] M1 := by
    intro k
    induction k with
    | zero =>
      intro i hi M1 hK
      obtain rfl : i = n := by omega
      have e1 : M1.1 0 = M.1 0 := hK.1 0 (by decide)
      have e2 : M1.1 17 = M.1 17 := hK.1 _ (by decide)
      have hf1 : M1.1 0 30 = f := by rw [e1]; exact hf
      have hn1 : M1.1 0 28 = i := by rw [e1]; exact hn
      refine g_iload_n dX10_comes_101 rfl rfl ?_
      refine g_aload_n dX10_comes_102 rfl rfl ?_
      refine g_get dX10_comes_103 fX10_173 rfl rfl ?_
      rw [hn1]
      refine g_icmp_ge (tgt := 136) dX10_comes_106 rfl (fun h106 => ?_) (fun h106 => ?_)
      · refine g_aload_n dX10_comes_136 rfl rfl ?_
        refine g_getr dX10_comes_137 fX10_87 rfl rfl ?_
        refine g_aload_n dX10_comes_140 rfl rfl ?_
        refine g_get dX10_comes_141 fX10_185 rfl rfl ?_
        rw [hf1]
        refine g_aload_n dX10_comes_144 rfl rfl ?_
        refine g_getr dX10_comes_145 fX10_76 rfl rfl ?_
        refine g_aload_n dX10_comes_148 rfl rfl ?_
        refine g_get dX10_comes_149 fX10_173 rfl rfl ?_
        rw [hn1]
        refine g_iald dX10_comes_152 rfl (by decide) ?_
        try simp only [Int.toNat_natCast]
        rw [e2]
        refine g_iast dX10_comes_153 rfl (by decide) ?_
        try simp only [Int.toNat_natCast]
        refine g_aload_n dX10_comes_154 rfl rfl ?_
        refine g_dup dX10_comes_155 rfl ?_
        refine g_get dX10_comes_156 fX10_185 rfl rfl ?_
        try simp only [sil, sjl, Nat.reduceAdd, Nat.reduceEqDiff, eq_self, false_and, and_false, true_and, and_true, if_false, if_true, reduceIte]
        have e3 : ∀ x : Int, (si M1 20 f x).1 0 30 = f := fun x => by rw [si_1 _ _ _ _ _ (by decide)]; exact hf1
        try rw [e3]
        try rw [hf1]
        refine g_iconst dX10_comes_159 ?_
        refine g_iadd dX10_comes_160 ?_
        refine g_puti dX10_comes_161 fX10_185 rfl rfl rfl (tyX10_ok 30 (by decide)) ?_
        refine g_vret dX10_comes_164 rfl ?_
        exact ⟨rfl, M1, hK, rfl⟩
      · exfalso; omega
    | succ k ih =>
      intro i hi M1 hK
      have e1 : M1.1 0 = M.1 0 := hK.1 0 (by decide)
      have e2 : M1.1 16 = M.1 16 := hK.1 _ (by decide)
      have hf1 : M1.1 0 30 = f := by rw [e1]; exact hf
      have hn1 : M1.1 0 28 = n := by rw [e1]; exact hn
      have hci := hch i (by omega)
      have ew : (14 * (f : Int) + (i : Int)).toNat = 14 * f + i := by omega
      refine g_iload_n dX10_comes_101 rfl rfl ?_
      refine g_aload_n dX10_comes_102 rfl rfl ?_
      refine g_get dX10_comes_103 fX10_173 rfl rfl ?_
      rw [hn1]
      refine g_icmp_ge (tgt := 136) dX10_comes_106 rfl (fun h106 => ?_) (fun h106 => ?_)
      · exfalso; omega
      · refine g_aload_n dX10_comes_109 rfl rfl ?_
        refine g_getr dX10_comes_110 fX10_83 rfl rfl ?_
        refine g_bipush dX10_comes_113 rfl ?_
        refine g_aload_n dX10_comes_115 rfl rfl ?_
        refine g_get dX10_comes_116 fX10_185 rfl rfl ?_
        rw [hf1]
        refine g_imul dX10_comes_119 ?_
        refine g_iload_n dX10_comes_120 rfl rfl ?_
        refine g_iadd dX10_comes_121 ?_
        refine g_aload_n dX10_comes_122 rfl rfl ?_
        refine g_getr dX10_comes_123 fX10_73 rfl rfl ?_
        refine g_iload_n dX10_comes_126 rfl rfl ?_
        refine g_iald dX10_comes_127 rfl (by decide) ?_
        try simp only [Int.toNat_natCast]
        rw [e2]
        refine g_i2b (by omega) (by omega) dX10_comes_128 ?_
        refine g_bast dX10_comes_129 rfl (by decide) ?_
        try simp only [Int.toNat_natCast]
        refine g_iinc (ls' := [some _, some _, some _, _, _]) dX10_comes_130 rfl rfl ?_
        refine g_goto (tgt := 101) dX10_comes_133 rfl ?_
        first | rw [ew] | skip
        exact ih (i + 1) (by omega) _ hK.st
  refine g_iload_n dX10_comes_0 rfl rfl ?_
  refine g_iconst dX10_comes_1 ?_
  refine g_icmp_ne (tgt := 99) dX10_comes_2 rfl (fun _ => ?_) (fun h2 => absurd h2 (by decide))
  refine g_iconst dX10_comes_99 ?_
  refine g_istore_n (ls' := [some _, some _, some _, _, _]) dX10_comes_100 rfl (by decide) rfl ?_
  exact loop n 0 (by omega) M ⟨fun _ _ => rfl, rfl, fun j hj => absurd hj (by omega), fun _ _ => rfl⟩

