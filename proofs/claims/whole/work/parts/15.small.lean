/-! MODULE 11: small methods: places, persons of a way, fill, bits of sets, births. -/
theorem w_X9_isPlace {d : Nat} {M : Mem} {k : Int} (k1 : -2147483648 ≤ k) (k2 : k < 2147483648) : WP wdC (d) mX9_isPlace [vi k] M (Ret (some (vi (bi (0 ≤ k ∧ k < 14)))) M) := by
  refine wp_of (by decide +kernel) (Nat.le_of_ble_eq_true rfl) ?_
  refine g_iload_n dX9_isPlace_0 rfl rfl ?_
  refine g_if_lt (tgt := 14) dX9_isPlace_1 rfl (fun h1 => ?_) (fun h1 => ?_)
  · refine g_iconst dX9_isPlace_14 ?_
    refine g_zret dX9_isPlace_15 rfl ?_
    first | exact leafT (by omega) | exact leafF (by omega)
  · refine g_iload_n dX9_isPlace_4 rfl rfl ?_
    refine g_bipush dX9_isPlace_5 rfl ?_
    refine g_icmp_ge (tgt := 14) dX9_isPlace_7 rfl (fun h7 => ?_) (fun h7 => ?_)
    · refine g_iconst dX9_isPlace_14 ?_
      refine g_zret dX9_isPlace_15 rfl ?_
      first | exact leafT (by omega) | exact leafF (by omega)
    · refine g_iconst dX9_isPlace_10 ?_
      refine g_goto (tgt := 15) dX9_isPlace_11 rfl ?_
      refine g_zret dX9_isPlace_15 rfl ?_
      first | exact leafT (by omega) | exact leafF (by omega)

theorem w_X9_isYear {d : Nat} {M : Mem} {k : Int} (k1 : -2147483648 ≤ k) (k2 : k < 2147483648) : WP wdC (d) mX9_isYear [vi k] M (Ret (some (vi (bi (0 ≤ k ∧ k ≤ 3000)))) M) := by
  refine wp_of (by decide +kernel) (Nat.le_of_ble_eq_true rfl) ?_
  refine g_iload_n dX9_isYear_0 rfl rfl ?_
  refine g_if_lt (tgt := 15) dX9_isYear_1 rfl (fun h1 => ?_) (fun h1 => ?_)
  · refine g_iconst dX9_isYear_15 ?_
    refine g_zret dX9_isYear_16 rfl ?_
    first | exact leafT (by omega) | exact leafF (by omega)
  · refine g_iload_n dX9_isYear_4 rfl rfl ?_
    refine g_sipush dX9_isYear_5 rfl ?_
    refine g_icmp_gt (tgt := 15) dX9_isYear_8 rfl (fun h8 => ?_) (fun h8 => ?_)
    · refine g_iconst dX9_isYear_15 ?_
      refine g_zret dX9_isYear_16 rfl ?_
      first | exact leafT (by omega) | exact leafF (by omega)
    · refine g_iconst dX9_isYear_11 ?_
      refine g_goto (tgt := 16) dX9_isYear_12 rfl ?_
      refine g_zret dX9_isYear_16 rfl ?_
      first | exact leafT (by omega) | exact leafF (by omega)

theorem w_X9_isSex {d : Nat} {M : Mem} {k : Int} (k1 : -2147483648 ≤ k) (k2 : k < 2147483648) : WP wdC (d) mX9_isSex [vi k] M (Ret (some (vi (bi (0 ≤ k ∧ k ≤ 2)))) M) := by
  refine wp_of (by decide +kernel) (Nat.le_of_ble_eq_true rfl) ?_
  refine g_iload_n dX9_isSex_0 rfl rfl ?_
  refine g_if_lt (tgt := 13) dX9_isSex_1 rfl (fun h1 => ?_) (fun h1 => ?_)
  · refine g_iconst dX9_isSex_13 ?_
    refine g_zret dX9_isSex_14 rfl ?_
    first | exact leafT (by omega) | exact leafF (by omega)
  · refine g_iload_n dX9_isSex_4 rfl rfl ?_
    refine g_iconst dX9_isSex_5 ?_
    refine g_icmp_gt (tgt := 13) dX9_isSex_6 rfl (fun h6 => ?_) (fun h6 => ?_)
    · refine g_iconst dX9_isSex_13 ?_
      refine g_zret dX9_isSex_14 rfl ?_
      first | exact leafT (by omega) | exact leafF (by omega)
    · refine g_iconst dX9_isSex_9 ?_
      refine g_goto (tgt := 14) dX9_isSex_10 rfl ?_
      refine g_zret dX9_isSex_14 rfl ?_
      first | exact leafT (by omega) | exact leafF (by omega)

theorem w_X9_isAge {d : Nat} {M : Mem} {k : Int} (k1 : -2147483648 ≤ k) (k2 : k < 2147483648) : WP wdC (d) mX9_isAge [vi k] M (Ret (some (vi (bi (0 ≤ k ∧ k ≤ 120)))) M) := by
  refine wp_of (by decide +kernel) (Nat.le_of_ble_eq_true rfl) ?_
  refine g_iload_n dX9_isAge_0 rfl rfl ?_
  refine g_if_lt (tgt := 14) dX9_isAge_1 rfl (fun h1 => ?_) (fun h1 => ?_)
  · refine g_iconst dX9_isAge_14 ?_
    refine g_zret dX9_isAge_15 rfl ?_
    first | exact leafT (by omega) | exact leafF (by omega)
  · refine g_iload_n dX9_isAge_4 rfl rfl ?_
    refine g_bipush dX9_isAge_5 rfl ?_
    refine g_icmp_gt (tgt := 14) dX9_isAge_7 rfl (fun h7 => ?_) (fun h7 => ?_)
    · refine g_iconst dX9_isAge_14 ?_
      refine g_zret dX9_isAge_15 rfl ?_
      first | exact leafT (by omega) | exact leafF (by omega)
    · refine g_iconst dX9_isAge_10 ?_
      refine g_goto (tgt := 15) dX9_isAge_11 rfl ?_
      refine g_zret dX9_isAge_15 rfl ?_
      first | exact leafT (by omega) | exact leafF (by omega)

theorem w_X9_personIn {d : Nat} {M : Mem} {x : Int64} {r : Nat} (hr : r < 16) : WP wdC (d) mX9_personIn [vl x, vi r] M (Ret (some (vi (dig x r))) M) := by
  refine wp_of (by decide +kernel) (Nat.le_of_ble_eq_true rfl) ?_
  refine g_lload_n dX9_personIn_0 rfl rfl ?_
  refine g_iconst dX9_personIn_1 ?_
  refine g_iload_n dX9_personIn_2 rfl rfl ?_
  refine g_imul dX9_personIn_3 ?_
  refine g_lushr dX9_personIn_4 ?_
  refine g_l2i dX9_personIn_5 ?_
  refine g_bipush dX9_personIn_6 rfl ?_
  refine g_iand dX9_personIn_8 ?_
  refine g_iret dX9_personIn_9 rfl ?_
  refine ⟨?_, rfl⟩
  have e : (4 : Int) * (r : Int) = ((4 * r : Nat) : Int) := by push_cast; rfl
  rw [e, dig_i hr]

theorem w_fill {wd : List Sh} {d : Nat} {M : Mem} {p n : Nat} {z : Int} (hp : wd[p]? = some (.inl (0, n))) (hn : n < 100000) : WP wd d mJ7_fill_53178 [vr p, vi z] M (fun v M' => v = none ∧ M'.2 = M.2 ∧ (∀ p', p' ≠ p → M'.1 p' = M.1 p') ∧ ∀ j, j < n → M'.1 p j = z) := by
  refine wp_of (by decide +kernel) (Nat.le_of_ble_eq_true rfl) ?_
  have loop : ∀ n' i : Nat, i + n' = n → ∀ M1 : Mem, M1.2 = M.2 → (∀ p', p' ≠ p → M1.1 p' = M.1 p') → (∀ j, j < i → M1.1 p j = z) → G wd mJ7_fill_53178 d (fun v M' => v = none ∧ M'.2 = M.2 ∧ (∀ p', p' ≠ p → M'.1 p' = M.1 p') ∧ ∀ j, j < n → M'.1 p j = z) 5 [some (vr p), some (vi z), some (vi i), some (vi n)] [] M1 := by
    intro n'
    induction n' with
    | zero =>
      intro i hi M1 h1 h2 h3
      refine g_iload_n dJ7_fill_53178_5 rfl rfl ?_
      refine g_iload_n dJ7_fill_53178_6 rfl rfl ?_
      refine g_icmp_ge (tgt := 20) dJ7_fill_53178_7 rfl (fun h7 => ?_) (fun h7 => ?_)
      · refine g_vret dJ7_fill_53178_20 rfl ?_
        exact ⟨rfl, h1, h2, fun j hj => h3 j (by omega)⟩
      · exfalso; omega
    | succ n' ih =>
      intro i hi M1 h1 h2 h3
      refine g_iload_n dJ7_fill_53178_5 rfl rfl ?_
      refine g_iload_n dJ7_fill_53178_6 rfl rfl ?_
      refine g_icmp_ge (tgt := 20) dJ7_fill_53178_7 rfl (fun h7 => ?_) (fun h7 => ?_)
      · exfalso; omega
      · refine g_aload_n dJ7_fill_53178_10 rfl rfl ?_
        refine g_iload_n dJ7_fill_53178_11 rfl rfl ?_
        refine g_iload_n dJ7_fill_53178_12 rfl rfl ?_
        refine g_iast dJ7_fill_53178_13 hp (by omega) ?_
        refine g_iinc (ls' := [_, _, _, _]) dJ7_fill_53178_14 rfl rfl ?_
        refine g_goto (tgt := 5) dJ7_fill_53178_17 rfl ?_
        simp only [Int.toNat_natCast]
        refine ih (i + 1) (by omega) _ h1 (fun p' hp' => ?_) (fun j hj => ?_)
        · rw [si_1 _ _ _ _ _ hp']; exact h2 p' hp'
        · rw [sil]
          by_cases hji : j = i
          · subst hji; rw [if_pos ⟨rfl, rfl⟩]
          · rw [if_neg (by omega)]; exact h3 j (by omega)
  refine g_iconst dJ7_fill_53178_0 ?_
  refine g_istore_n (ls' := [_, _, _, _]) dJ7_fill_53178_1 rfl (by decide) rfl ?_
  refine g_aload_n dJ7_fill_53178_2 rfl rfl ?_
  refine g_alen dJ7_fill_53178_3 hp (Or.inl rfl) ?_
  refine g_istore_n (ls' := [_, _, _, _]) dJ7_fill_53178_4 rfl (by decide) rfl ?_
  exact loop n 0 (by omega) M rfl (fun _ _ => rfl) (fun j hj => absurd hj (by omega))

def pop8 (s : Nat) : Nat := (List.range 8).foldl (fun a k => a + (if s.testBit k then 1 else 0)) 0

theorem bitc_ok : ∀ s : Fin 256, (let a0 : Int := ((s.val : Nat) : Int); let a1 := a0 - band (ushr a0 1) 1431655765; let a2 := band a1 858993459 + band (ushr a1 2) 858993459; let a3 := band (a2 + ushr a2 4) 252645135; let a4 := a3 + ushr a3 8; let a5 := a4 + ushr a4 16; band a5 63) = ((pop8 s.val : Nat) : Int) := by decide +kernel
theorem w_J6_bitCount {wd : List Sh} {d : Nat} {M : Mem} {s : Nat} (hs : s < 256) : WP wd d mJ6_bitCount_0f7a4 [vi s] M (Ret (some (vi (pop8 s))) M) := by
  refine wp_of (by decide +kernel) (Nat.le_of_ble_eq_true rfl) ?_
  refine g_iload_n dJ6_bitCount_0f7a4_0 rfl rfl ?_
  refine g_iload_n dJ6_bitCount_0f7a4_1 rfl rfl ?_
  refine g_iconst dJ6_bitCount_0f7a4_2 ?_
  refine g_iushr dJ6_bitCount_0f7a4_3 ?_
  refine g_ldcw (z := 1431655765) dJ6_bitCount_0f7a4_4 kJ6_265 rfl ?_
  refine g_iand dJ6_bitCount_0f7a4_7 ?_
  refine g_isub dJ6_bitCount_0f7a4_8 ?_
  refine g_istore_n (ls' := [_]) dJ6_bitCount_0f7a4_9 rfl (by decide) rfl ?_
  refine g_iload_n dJ6_bitCount_0f7a4_10 rfl rfl ?_
  refine g_ldcw (z := 858993459) dJ6_bitCount_0f7a4_11 kJ6_266 rfl ?_
  refine g_iand dJ6_bitCount_0f7a4_14 ?_
  refine g_iload_n dJ6_bitCount_0f7a4_15 rfl rfl ?_
  refine g_iconst dJ6_bitCount_0f7a4_16 ?_
  refine g_iushr dJ6_bitCount_0f7a4_17 ?_
  refine g_ldcw (z := 858993459) dJ6_bitCount_0f7a4_18 kJ6_266 rfl ?_
  refine g_iand dJ6_bitCount_0f7a4_21 ?_
  refine g_iadd dJ6_bitCount_0f7a4_22 ?_
  refine g_istore_n (ls' := [_]) dJ6_bitCount_0f7a4_23 rfl (by decide) rfl ?_
  refine g_iload_n dJ6_bitCount_0f7a4_24 rfl rfl ?_
  refine g_iload_n dJ6_bitCount_0f7a4_25 rfl rfl ?_
  refine g_iconst dJ6_bitCount_0f7a4_26 ?_
  refine g_iushr dJ6_bitCount_0f7a4_27 ?_
  refine g_iadd dJ6_bitCount_0f7a4_28 ?_
  refine g_ldcw (z := 252645135) dJ6_bitCount_0f7a4_29 kJ6_267 rfl ?_
  refine g_iand dJ6_bitCount_0f7a4_32 ?_
  refine g_istore_n (ls' := [_]) dJ6_bitCount_0f7a4_33 rfl (by decide) rfl ?_
  refine g_iload_n dJ6_bitCount_0f7a4_34 rfl rfl ?_
  refine g_iload_n dJ6_bitCount_0f7a4_35 rfl rfl ?_
  refine g_bipush dJ6_bitCount_0f7a4_36 rfl ?_
  refine g_iushr dJ6_bitCount_0f7a4_38 ?_
  refine g_iadd dJ6_bitCount_0f7a4_39 ?_
  refine g_istore_n (ls' := [_]) dJ6_bitCount_0f7a4_40 rfl (by decide) rfl ?_
  refine g_iload_n dJ6_bitCount_0f7a4_41 rfl rfl ?_
  refine g_iload_n dJ6_bitCount_0f7a4_42 rfl rfl ?_
  refine g_bipush dJ6_bitCount_0f7a4_43 rfl ?_
  refine g_iushr dJ6_bitCount_0f7a4_45 ?_
  refine g_iadd dJ6_bitCount_0f7a4_46 ?_
  refine g_istore_n (ls' := [_]) dJ6_bitCount_0f7a4_47 rfl (by decide) rfl ?_
  refine g_iload_n dJ6_bitCount_0f7a4_48 rfl rfl ?_
  refine g_bipush dJ6_bitCount_0f7a4_49 rfl ?_
  refine g_iand dJ6_bitCount_0f7a4_51 ?_
  refine g_iret dJ6_bitCount_0f7a4_52 rfl ?_
  exact ⟨congrArg (fun z => some (vi z)) (bitc_ok ⟨s, hs⟩), rfl⟩

/-- with each copy what it is of -/
abbrev Closed (M : Mem) (s : Nat) : Prop := ∀ i, i < (M.1 1 10).toNat → s.testBit i = true → M.1 4 i ≠ -1 → s.testBit (M.1 4 i).toNat = true
theorem w_X0_holdsOriginals {d : Nat} {M : Mem} {s : Nat} (hs : s < 256) (hR0 : 0 ≤ M.1 1 10) (hR8 : M.1 1 10 ≤ 8) (hN0 : 0 ≤ M.1 1 11) (hN14 : M.1 1 11 ≤ 14) (hO : ∀ j : Nat, (j : Int) < M.1 1 10 → M.1 4 j = -1 ∨ (0 ≤ M.1 4 j ∧ M.1 4 j < 8)) : WP wdC d mX0_holdsOriginals [vr 1, vi s] M (Ret (some (vi (bi (Closed M s)))) M) := by
  refine wp_of (by decide +kernel) (Nat.le_of_ble_eq_true rfl) ?_
  have loop : ∀ n i : Nat, (i : Int) + n = M.1 1 10 → ∀ x3 : Option AV, (∀ j, j < i → s.testBit j = true → M.1 4 j ≠ -1 → s.testBit (M.1 4 j).toNat = true) → G wdC mX0_holdsOriginals d (Ret (some (vi (bi (Closed M s)))) M) 2 [some (vr 1), some (vi s), some (vi i), x3] [] M := by
    intro n
    induction n with
    | zero =>
      intro i hi x3 hj
      refine g_iload_n dX0_holdsOriginals_2 rfl rfl ?_
      refine g_aload_n dX0_holdsOriginals_3 rfl rfl ?_
      refine g_get dX0_holdsOriginals_4 fX0_43 rfl rfl ?_
      refine g_icmp_ge (tgt := 65) dX0_holdsOriginals_7 rfl (fun h7 => ?_) (fun h7 => ?_)
      · refine g_iconst dX0_holdsOriginals_65 ?_
        refine g_zret dX0_holdsOriginals_66 rfl ?_
        exact leafT (fun j hj1 => hj j (by omega))
      · exfalso; omega
    | succ n ih =>
      intro i hi x3 hj
      have ho := hO i (by omega)
      have b1 := bit_1 (m := s) (k := i) (by omega) (by omega)
      have b2 : 0 ≤ M.1 4 i → band (shr s (M.1 4 i)) 1 = if s.testBit (M.1 4 i).toNat then 1 else 0 := fun h => by
        have := bit_1 (m := s) (k := (M.1 4 i).toNat) (by omega) (by omega)
        rwa [show ((M.1 4 i).toNat : Int) = M.1 4 i by omega] at this
      refine g_iload_n dX0_holdsOriginals_2 rfl rfl ?_
      refine g_aload_n dX0_holdsOriginals_3 rfl rfl ?_
      refine g_get dX0_holdsOriginals_4 fX0_43 rfl rfl ?_
      refine g_icmp_ge (tgt := 65) dX0_holdsOriginals_7 rfl (fun h7 => ?_) (fun h7 => ?_)
      · exfalso; omega
      · refine g_iload_n dX0_holdsOriginals_10 rfl rfl ?_
        refine g_bipush dX0_holdsOriginals_11 rfl ?_
        refine g_icmp_ge (tgt := 65) dX0_holdsOriginals_13 rfl (fun h13 => ?_) (fun h13 => ?_)
        · exfalso; omega
        · refine g_iload_n dX0_holdsOriginals_16 rfl rfl ?_
          refine g_iload_n dX0_holdsOriginals_17 rfl rfl ?_
          refine g_ishr dX0_holdsOriginals_18 ?_
          refine g_iconst dX0_holdsOriginals_19 ?_
          refine g_iand dX0_holdsOriginals_20 ?_
          rw [b1]
          have r1 : (if s.testBit i = true then (1 : Int) else 0) = 0 ∨ (if s.testBit i = true then (1 : Int) else 0) = 1 := by split <;> simp
          refine g_if_eq (tgt := 38) dX0_holdsOriginals_21 rfl (fun h21 => ?_) (fun h21 => ?_)
          · refine g_iconst dX0_holdsOriginals_38 ?_
            refine g_istore_n (ls' := [_, _, _, _]) dX0_holdsOriginals_39 rfl (by decide) rfl ?_
            refine g_iload_n dX0_holdsOriginals_40 rfl rfl ?_
            refine g_if_eq (tgt := 59) dX0_holdsOriginals_41 rfl (fun _ => ?_) (fun h41 => absurd (by decide) h41)
            refine g_iinc (ls' := [_, _, _, _]) dX0_holdsOriginals_59 rfl rfl ?_
            refine g_goto (tgt := 2) dX0_holdsOriginals_62 rfl ?_
            refine ih (i + 1) (by omega) _ (fun j hj1 hj2 hj3 => ?_)
            by_cases hji : j = i
            · subst hji
              first | (exfalso; simp [hj2] at h21; done) | (exfalso; exact hj3 h31; done) | (by_cases hb : s.testBit (M.1 4 j).toNat = true; exact hb; exfalso; apply h54; rw [if_neg hb])
            · exact hj j (by omega) hj2 hj3
          · refine g_aload_n dX0_holdsOriginals_24 rfl rfl ?_
            refine g_getr dX0_holdsOriginals_25 fX0_18 rfl rfl ?_
            refine g_iload_n dX0_holdsOriginals_28 rfl rfl ?_
            refine g_iald dX0_holdsOriginals_29 rfl (by decide) ?_
            try simp only [Int.toNat_natCast]
            refine g_iconst dX0_holdsOriginals_30 ?_
            refine g_icmp_eq (tgt := 38) dX0_holdsOriginals_31 rfl (fun h31 => ?_) (fun h31 => ?_)
            · refine g_iconst dX0_holdsOriginals_38 ?_
              refine g_istore_n (ls' := [_, _, _, _]) dX0_holdsOriginals_39 rfl (by decide) rfl ?_
              refine g_iload_n dX0_holdsOriginals_40 rfl rfl ?_
              refine g_if_eq (tgt := 59) dX0_holdsOriginals_41 rfl (fun _ => ?_) (fun h41 => absurd (by decide) h41)
              refine g_iinc (ls' := [_, _, _, _]) dX0_holdsOriginals_59 rfl rfl ?_
              refine g_goto (tgt := 2) dX0_holdsOriginals_62 rfl ?_
              refine ih (i + 1) (by omega) _ (fun j hj1 hj2 hj3 => ?_)
              by_cases hji : j = i
              · subst hji
                first | (exfalso; simp [hj2] at h21; done) | (exfalso; exact hj3 h31; done) | (by_cases hb : s.testBit (M.1 4 j).toNat = true; exact hb; exfalso; apply h54; rw [if_neg hb])
              · exact hj j (by omega) hj2 hj3
            · refine g_iconst dX0_holdsOriginals_34 ?_
              refine g_goto (tgt := 39) dX0_holdsOriginals_35 rfl ?_
              refine g_istore_n (ls' := [_, _, _, _]) dX0_holdsOriginals_39 rfl (by decide) rfl ?_
              refine g_iload_n dX0_holdsOriginals_40 rfl rfl ?_
              refine g_if_eq (tgt := 59) dX0_holdsOriginals_41 rfl (fun h41 => absurd h41 (by decide)) (fun _ => ?_)
              refine g_iload_n dX0_holdsOriginals_44 rfl rfl ?_
              refine g_aload_n dX0_holdsOriginals_45 rfl rfl ?_
              refine g_getr dX0_holdsOriginals_46 fX0_18 rfl rfl ?_
              refine g_iload_n dX0_holdsOriginals_49 rfl rfl ?_
              refine g_iald dX0_holdsOriginals_50 rfl (by decide) ?_
              try simp only [Int.toNat_natCast]
              refine g_ishr dX0_holdsOriginals_51 ?_
              refine g_iconst dX0_holdsOriginals_52 ?_
              refine g_iand dX0_holdsOriginals_53 ?_
              rw [b2 (by omega)]
              have r2 : (if s.testBit (M.1 4 i).toNat = true then (1 : Int) else 0) = 0 ∨ (if s.testBit (M.1 4 i).toNat = true then (1 : Int) else 0) = 1 := by split <;> simp
              refine g_if_ne (tgt := 59) dX0_holdsOriginals_54 rfl (fun h54 => ?_) (fun h54 => ?_)
              · refine g_iinc (ls' := [_, _, _, _]) dX0_holdsOriginals_59 rfl rfl ?_
                refine g_goto (tgt := 2) dX0_holdsOriginals_62 rfl ?_
                refine ih (i + 1) (by omega) _ (fun j hj1 hj2 hj3 => ?_)
                by_cases hji : j = i
                · subst hji
                  first | (exfalso; simp [hj2] at h21; done) | (exfalso; exact hj3 h31; done) | (by_cases hb : s.testBit (M.1 4 j).toNat = true; exact hb; exfalso; apply h54; rw [if_neg hb])
                · exact hj j (by omega) hj2 hj3
              · refine g_iconst dX0_holdsOriginals_57 ?_
                refine g_zret dX0_holdsOriginals_58 rfl ?_
                refine leafF (fun z => ?_)
                have hb : s.testBit i = true := by
                  by_cases hb : s.testBit i = true
                  · exact hb
                  · rw [if_neg hb] at h21; exact absurd rfl h21
                have := z i (by omega) hb h31
                rw [if_pos this] at h54
                exact absurd h54 (by decide)
  refine g_iconst dX0_holdsOriginals_0 ?_
  refine g_istore_n (ls' := [_, _, _, _]) dX0_holdsOriginals_1 rfl (by decide) rfl ?_
  exact loop (M.1 1 10).toNat 0 (by omega) _ (fun j hj => absurd hj (by omega))

theorem w_X0_isBirth {d : Nat} {M : Mem} {r : Nat} (hr : (r : Int) < M.1 1 10) (hR0 : 0 ≤ M.1 1 10) (hR8 : M.1 1 10 ≤ 8) (hN0 : 0 ≤ M.1 1 11) (hN14 : M.1 1 11 ≤ 14) (hO : ∀ j : Nat, (j : Int) < M.1 1 10 → -1 ≤ M.1 4 j ∧ M.1 4 j < 8) (hF : 0 ≤ M.1 2 r ∧ 0 ≤ M.1 3 r ∧ M.1 3 r ≤ 3 ∧ M.1 2 r + M.1 3 r ≤ M.1 1 11) (hK : ∀ o : Nat, (o : Int) < M.1 1 11 → 0 ≤ M.1 6 o ∧ M.1 6 o ≤ 7) : WP wdC (d + 2) mX0_isBirth [vr 1, vi r] M (Ret (some (vi (bi (M.1 4 r = -1 ∧ M.1 3 r = 3 ∧ M.1 6 (M.1 2 r).toNat = 0)))) M) := by
  refine wp_of (by decide +kernel) (Nat.le_of_ble_eq_true rfl) ?_
  refine g_aload_n dX0_isBirth_0 rfl rfl ?_
  refine g_iload_n dX0_isBirth_1 rfl rfl ?_
  refine g_callVr dX0_isBirth_2 lX0_57 (w_X0_firstOf (by omega) (by omega) hR0 hR8 hN0 hN14) rfl rfl rfl rfl (Nat.le_of_ble_eq_true rfl) ?_
  rw [if_pos ⟨by omega, hr⟩]
  simp only [Int.toNat_natCast]
  refine g_istore_n (ls' := [_, _, _]) dX0_isBirth_5 rfl (by decide) rfl ?_
  refine g_aload_n dX0_isBirth_6 rfl rfl ?_
  refine g_iload_n dX0_isBirth_7 rfl rfl ?_
  refine g_callVr dX0_isBirth_8 lX0_72 (w_X0_isOriginal (by omega) (by omega) hR0 hR8 hN0 hN14 hO) rfl rfl rfl rfl (Nat.le_of_ble_eq_true rfl) ?_
  refine g_if_eqB (tgt := 44) dX0_isBirth_11 rfl (fun h11 => ?_) (fun h11 => ?_)
  · simp only [Int.toNat_natCast] at h11
    refine g_iconst dX0_isBirth_44 ?_
    refine g_zret dX0_isBirth_45 rfl ?_
    first | exact leafT ⟨h11.2, by omega, h37⟩ | exact leafF (fun z => h37 z.2.2) | exact leafF (fun z => by omega) | exact leafF (fun z => h11 ⟨by omega, z.1⟩)
  · simp only [Int.toNat_natCast] at h11
    refine g_aload_n dX0_isBirth_14 rfl rfl ?_
    refine g_iload_n dX0_isBirth_15 rfl rfl ?_
    refine g_callVr dX0_isBirth_16 lX0_75 (w_X0_sizeOf (by omega) (by omega) hR0 hR8 hN0 hN14) rfl rfl rfl rfl (Nat.le_of_ble_eq_true rfl) ?_
    rw [if_pos ⟨by omega, hr⟩]
    simp only [Int.toNat_natCast]
    refine g_iconst dX0_isBirth_19 ?_
    refine g_icmp_ne (tgt := 44) dX0_isBirth_20 rfl (fun h20 => ?_) (fun h20 => ?_)
    · refine g_iconst dX0_isBirth_44 ?_
      refine g_zret dX0_isBirth_45 rfl ?_
      first | exact leafT ⟨h11.2, by omega, h37⟩ | exact leafF (fun z => h37 z.2.2) | exact leafF (fun z => by omega) | exact leafF (fun z => h11 ⟨by omega, z.1⟩)
    · refine g_aload_n dX0_isBirth_23 rfl rfl ?_
      refine g_iload_n dX0_isBirth_24 rfl rfl ?_
      refine g_callVr dX0_isBirth_25 lX0_61 (w_X0_hasRole (by omega) (by omega) hR0 hR8 hN0 hN14) rfl rfl rfl rfl (Nat.le_of_ble_eq_true rfl) ?_
      refine g_if_eqB (tgt := 44) dX0_isBirth_28 rfl (fun h28 => ?_) (fun h28 => ?_)
      · refine g_iconst dX0_isBirth_44 ?_
        refine g_zret dX0_isBirth_45 rfl ?_
        first | exact leafT ⟨h11.2, by omega, h37⟩ | exact leafF (fun z => h37 z.2.2) | exact leafF (fun z => by omega) | exact leafF (fun z => h11 ⟨by omega, z.1⟩)
      · refine g_aload_n dX0_isBirth_31 rfl rfl ?_
        refine g_getr dX0_isBirth_32 fX0_24 rfl rfl ?_
        refine g_iload_n dX0_isBirth_35 rfl rfl ?_
        refine g_iald dX0_isBirth_36 rfl (by decide) ?_
        have hk := hK (M.1 2 r).toNat (by omega)
        refine g_if_ne (tgt := 44) dX0_isBirth_37 rfl (fun h37 => ?_) (fun h37 => ?_)
        · refine g_iconst dX0_isBirth_44 ?_
          refine g_zret dX0_isBirth_45 rfl ?_
          first | exact leafT ⟨h11.2, by omega, h37⟩ | exact leafF (fun z => h37 z.2.2) | exact leafF (fun z => by omega) | exact leafF (fun z => h11 ⟨by omega, z.1⟩)
        · refine g_iconst dX0_isBirth_40 ?_
          refine g_goto (tgt := 45) dX0_isBirth_41 rfl ?_
          refine g_zret dX0_isBirth_45 rfl ?_
          first | exact leafT ⟨h11.2, by omega, h37⟩ | exact leafF (fun z => h37 z.2.2) | exact leafF (fun z => by omega) | exact leafF (fun z => h11 ⟨by omega, z.1⟩)

theorem w_X0_openCopy {d : Nat} {M : Mem} {r : Nat} (hr : (r : Int) < M.1 1 10) (hR0 : 0 ≤ M.1 1 10) (hR8 : M.1 1 10 ≤ 8) (hN0 : 0 ≤ M.1 1 11) (hN14 : M.1 1 11 ≤ 14) (h8 : M.1 1 10 < 8) (hF : 0 ≤ M.1 2 r ∧ M.1 2 r < M.1 1 11) : WP wdC (d + 2) mX0_openCopy [vr 1, vi r] M (Ret none (openM M (M.1 7 (M.1 2 r).toNat) r)) := by
  refine wp_of (by decide +kernel) (Nat.le_of_ble_eq_true rfl) ?_
  refine g_aload_n dX0_openCopy_0 rfl rfl ?_
  refine g_iload_n dX0_openCopy_1 rfl rfl ?_
  refine g_callVr dX0_openCopy_2 lX0_57 (w_X0_firstOf (by omega) (by omega) hR0 hR8 hN0 hN14) rfl rfl rfl rfl (Nat.le_of_ble_eq_true rfl) ?_
  rw [if_pos ⟨by omega, hr⟩]
  simp only [Int.toNat_natCast]
  refine g_istore_n (ls' := [_, _, _]) dX0_openCopy_5 rfl (by decide) rfl ?_
  refine g_aload_n dX0_openCopy_6 rfl rfl ?_
  refine g_aload_n dX0_openCopy_7 rfl rfl ?_
  refine g_iload_n dX0_openCopy_8 rfl rfl ?_
  refine g_callVr dX0_openCopy_9 lX0_61 (w_X0_hasRole (by omega) (by omega) hR0 hR8 hN0 hN14) rfl rfl rfl rfl (Nat.le_of_ble_eq_true rfl) ?_
  refine g_if_eqB (tgt := 24) dX0_openCopy_12 rfl (fun h12 => ?_) (fun h12 => ?_)
  · exfalso; omega
  · refine g_aload_n dX0_openCopy_15 rfl rfl ?_
    refine g_getr dX0_openCopy_16 fX0_27 rfl rfl ?_
    refine g_iload_n dX0_openCopy_19 rfl rfl ?_
    refine g_iald dX0_openCopy_20 rfl (by decide) ?_
    try simp only [Int.toNat_natCast]
    refine g_goto (tgt := 25) dX0_openCopy_21 rfl ?_
    refine g_iload_n dX0_openCopy_25 rfl rfl ?_
    refine g_callVr dX0_openCopy_26 lX0_64 (w_X0_open hR0 hR8 hN0 hN14 h8) rfl rfl rfl rfl (Nat.le_of_ble_eq_true rfl) ?_
    refine g_vret dX0_openCopy_29 rfl ?_
    exact ⟨rfl, rfl⟩

