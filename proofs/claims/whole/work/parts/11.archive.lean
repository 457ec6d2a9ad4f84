/-! MODULE 7: names, letters, the archive. -/
def lenUp (x : Int64) : Nat → Nat
  | 0 => 0
  | i + 1 => if un x >>> (8 * i) = 0 then lenUp x i else i + 1
def nlen (x : Int64) : Nat := lenUp x 8
theorem lenUp_le (x : Int64) : ∀ i, lenUp x i ≤ i
  | 0 => Nat.le_refl _
  | i + 1 => by
    unfold lenUp
    split
    · exact Nat.le_succ_of_le (lenUp_le x i)
    · exact Nat.le_refl _
theorem nlen_le (x : Int64) : nlen x ≤ 8 := lenUp_le x 8
abbrev NameOK (x : Int64) : Prop := ∀ i, i < nlen x → 97 ≤ byt x i ∧ byt x i ≤ 122

theorem w_X3_isLetter {d : Nat} {M : Mem} {k : Int} (k1 : -2147483648 ≤ k) (k2 : k < 2147483648) : WP wdC (d) mX3_isLetter [vi k] M (Ret (some (vi (bi (0 ≤ k ∧ k < 26)))) M) := by
  refine wp_of (by decide +kernel) (Nat.le_of_ble_eq_true rfl) ?_
  refine g_iload_n dX3_isLetter_0 rfl rfl ?_
  refine g_if_lt (tgt := 14) dX3_isLetter_1 rfl (fun h1 => ?_) (fun h1 => ?_)
  · refine g_iconst dX3_isLetter_14 ?_
    refine g_zret dX3_isLetter_15 rfl ?_
    first | exact leafT (by omega) | exact leafF (by omega)
  · refine g_iload_n dX3_isLetter_4 rfl rfl ?_
    refine g_bipush dX3_isLetter_5 rfl ?_
    refine g_icmp_ge (tgt := 14) dX3_isLetter_7 rfl (fun h7 => ?_) (fun h7 => ?_)
    · refine g_iconst dX3_isLetter_14 ?_
      refine g_zret dX3_isLetter_15 rfl ?_
      first | exact leafT (by omega) | exact leafF (by omega)
    · refine g_iconst dX3_isLetter_10 ?_
      refine g_goto (tgt := 15) dX3_isLetter_11 rfl ?_
      refine g_zret dX3_isLetter_15 rfl ?_
      first | exact leafT (by omega) | exact leafF (by omega)

theorem w_X3_letterOf {d : Nat} {M : Mem} {x : Int64} {i : Nat} (hi : i < 8) : WP wdC (d) mX3_letterOf [vl x, vi i] M (Ret (some (vi ((byt x i : Int) - 97))) M) := by
  refine wp_of (by decide +kernel) (Nat.le_of_ble_eq_true rfl) ?_
  refine g_lload_n dX3_letterOf_0 rfl rfl ?_
  refine g_bipush dX3_letterOf_1 rfl ?_
  refine g_iload_n dX3_letterOf_3 rfl rfl ?_
  refine g_imul dX3_letterOf_4 ?_
  refine g_lushr dX3_letterOf_5 ?_
  refine g_ldc2 dX3_letterOf_6 kX3_23 ?_
  refine g_land dX3_letterOf_9 ?_
  refine g_l2i dX3_letterOf_10 ?_
  refine g_bipush dX3_letterOf_11 rfl ?_
  refine g_isub dX3_letterOf_13 ?_
  refine g_iret dX3_letterOf_14 rfl ?_
  refine ⟨?_, rfl⟩
  have e : (8 : Int) * (i : Int) = ((8 * i : Nat) : Int) := by push_cast; rfl
  rw [e, byt_u hi]

theorem w_X3_lengthOf {d : Nat} {M : Mem} {x : Int64} : WP wdC d mX3_lengthOf [vl x] M (Ret (some (vi (nlen x))) M) := by
  refine wp_of (by decide +kernel) (Nat.le_of_ble_eq_true rfl) ?_
  have loop : ∀ n i : Nat, i + n = 8 → G wdC mX3_lengthOf d (Ret (some (vi (nlen x))) M) 4 [some (vl x), none, some (vi (lenUp x i)), some (vi i)] [] M := by
    intro n
    induction n with
    | zero =>
      intro i hi
      have hi : i = 8 := by omega
      subst hi
      refine g_iload_n dX3_lengthOf_4 rfl rfl ?_
      refine g_bipush dX3_lengthOf_5 rfl ?_
      refine g_icmp_ge (tgt := 31) dX3_lengthOf_7 rfl (fun _ => ?_) (fun h7 => absurd (by decide) h7)
      refine g_iload_n dX3_lengthOf_31 rfl rfl ?_
      refine g_iret dX3_lengthOf_32 rfl ?_
      exact ⟨rfl, rfl⟩
    | succ n ih =>
      intro i hi
      have e : (8 : Int) * (i : Int) = ((8 * i : Nat) : Int) := by push_cast; rfl
      have hr := lcmp_r (lushr x (8 * (i : Int))) 0
      refine g_iload_n dX3_lengthOf_4 rfl rfl ?_
      refine g_bipush dX3_lengthOf_5 rfl ?_
      refine g_icmp_ge (tgt := 31) dX3_lengthOf_7 rfl (fun h7 => ?_) (fun h7 => ?_)
      · exfalso; omega
      · refine g_lload_n dX3_lengthOf_10 rfl rfl ?_
        refine g_bipush dX3_lengthOf_11 rfl ?_
        refine g_iload_n dX3_lengthOf_13 rfl rfl ?_
        refine g_imul dX3_lengthOf_14 ?_
        refine g_lushr dX3_lengthOf_15 ?_
        refine g_lconst (v := 0) dX3_lengthOf_16 rfl ?_
        refine g_lcmp dX3_lengthOf_17 ?_
        refine g_if_eq (tgt := 25) dX3_lengthOf_18 rfl (fun h18 => ?_) (fun h18 => ?_)
        · refine g_iinc (ls' := [_, _, _, _]) dX3_lengthOf_25 rfl rfl ?_
          refine g_goto (tgt := 4) dX3_lengthOf_28 rfl ?_
          have := ih (i + 1) (by omega)
          rw [lenUp] at this
          rw [e, lcmp_0, lushr_0 (by omega)] at h18
          first | rw [if_pos h18] at this | rw [if_neg h18] at this
          exact this
        · refine g_iload_n dX3_lengthOf_21 rfl rfl ?_
          refine g_iconst dX3_lengthOf_22 ?_
          refine g_iadd dX3_lengthOf_23 ?_
          refine g_istore_n (ls' := [_, _, _, _]) dX3_lengthOf_24 rfl (by decide) rfl ?_
          refine g_iinc (ls' := [_, _, _, _]) dX3_lengthOf_25 rfl rfl ?_
          refine g_goto (tgt := 4) dX3_lengthOf_28 rfl ?_
          have := ih (i + 1) (by omega)
          rw [lenUp] at this
          rw [e, lcmp_0, lushr_0 (by omega)] at h18
          first | rw [if_pos h18] at this | rw [if_neg h18] at this
          exact this
  refine g_iconst dX3_lengthOf_0 ?_
  refine g_istore_n (ls' := [_, _, _, _]) dX3_lengthOf_1 rfl (by decide) rfl ?_
  refine g_iconst dX3_lengthOf_2 ?_
  refine g_istore_n (ls' := [_, _, _, _]) dX3_lengthOf_3 rfl (by decide) rfl ?_
  exact loop 8 0 rfl

theorem w_X3_isName {d : Nat} {M : Mem} {x : Int64} : WP wdC (d + 1) mX3_isName [vl x] M (Ret (some (vi (bi (NameOK x)))) M) := by
  refine wp_of (by decide +kernel) (Nat.le_of_ble_eq_true rfl) ?_
  have hn := nlen_le x
  have loop : ∀ n i : Nat, i + n = nlen x → (∀ j, j < i → 97 ≤ byt x j ∧ byt x j ≤ 122) → G wdC mX3_isName (d + 1) (Ret (some (vi (bi (NameOK x)))) M) 7 [some (vl x), none, some (vi (nlen x)), some (vi i)] [] M := by
    intro n
    induction n with
    | zero =>
      intro i hi hl
      refine g_iload_n dX3_isName_7 rfl rfl ?_
      refine g_iload_n dX3_isName_8 rfl rfl ?_
      refine g_icmp_ge (tgt := 31) dX3_isName_9 rfl (fun h9 => ?_) (fun h9 => ?_)
      · refine g_iconst dX3_isName_31 ?_
        refine g_zret dX3_isName_32 rfl ?_
        exact leafT (fun j hj => hl j (by omega))
      · exfalso; omega
    | succ n ih =>
      intro i hi hl
      have hb := byt_lt x i
      refine g_iload_n dX3_isName_7 rfl rfl ?_
      refine g_iload_n dX3_isName_8 rfl rfl ?_
      refine g_icmp_ge (tgt := 31) dX3_isName_9 rfl (fun h9 => ?_) (fun h9 => ?_)
      · exfalso; omega
      · refine g_lload_n dX3_isName_12 rfl rfl ?_
        refine g_iload_n dX3_isName_13 rfl rfl ?_
        refine g_callSr dX3_isName_14 lX3_15 (w_X3_letterOf (by omega)) rfl rfl (by decide) ?_
        refine g_callSr dX3_isName_17 lX3_19 (w_X3_isLetter (by omega) (by omega)) rfl rfl (by decide) ?_
        refine g_if_neB (tgt := 25) dX3_isName_20 rfl (fun h20 => ?_) (fun h20 => ?_)
        · refine g_iinc (ls' := [_, _, _, _]) dX3_isName_25 rfl rfl ?_
          refine g_goto (tgt := 7) dX3_isName_28 rfl ?_
          exact ih (i + 1) (by omega) (fun j hj => by
            by_cases hji : j = i
            · subst hji; omega
            · exact hl j (by omega))
        · refine g_iconst dX3_isName_23 ?_
          refine g_zret dX3_isName_24 rfl ?_
          exact leafF (fun z => by have := z i (by omega); omega)
  refine g_lload_n dX3_isName_0 rfl rfl ?_
  refine g_callSr dX3_isName_1 lX3_9 (w_X3_lengthOf) rfl rfl (by decide) ?_
  refine g_istore_n (ls' := [_, _, _, _]) dX3_isName_4 rfl (by decide) rfl ?_
  refine g_iconst dX3_isName_5 ?_
  refine g_istore_n (ls' := [_, _, _, _]) dX3_isName_6 rfl (by decide) rfl ?_
  exact loop (nlen x) 0 (by omega) (fun j hj => absurd hj (by omega))

theorem w_X0_hasRole {d : Nat} {M : Mem} {k : Int} (k1 : -2147483648 ≤ k) (k2 : k < 2147483648) (hR0 : 0 ≤ M.1 1 10) (hR8 : M.1 1 10 ≤ 8) (hN0 : 0 ≤ M.1 1 11) (hN14 : M.1 1 11 ≤ 14) : WP wdC (d) mX0_hasRole [vr 1, vi k] M (Ret (some (vi (bi (0 ≤ k ∧ k < M.1 1 11)))) M) := by
  refine wp_of (by decide +kernel) (Nat.le_of_ble_eq_true rfl) ?_
  refine g_iload_n dX0_hasRole_0 rfl rfl ?_
  refine g_if_lt (tgt := 22) dX0_hasRole_1 rfl (fun h1 => ?_) (fun h1 => ?_)
  · refine g_iconst dX0_hasRole_22 ?_
    refine g_zret dX0_hasRole_23 rfl ?_
    first | exact leafT (by omega) | exact leafF (by omega)
  · refine g_iload_n dX0_hasRole_4 rfl rfl ?_
    refine g_aload_n dX0_hasRole_5 rfl rfl ?_
    refine g_get dX0_hasRole_6 fX0_47 rfl rfl ?_
    refine g_icmp_ge (tgt := 22) dX0_hasRole_9 rfl (fun h9 => ?_) (fun h9 => ?_)
    · refine g_iconst dX0_hasRole_22 ?_
      refine g_zret dX0_hasRole_23 rfl ?_
      first | exact leafT (by omega) | exact leafF (by omega)
    · refine g_iload_n dX0_hasRole_12 rfl rfl ?_
      refine g_bipush dX0_hasRole_13 rfl ?_
      refine g_icmp_ge (tgt := 22) dX0_hasRole_15 rfl (fun h15 => ?_) (fun h15 => ?_)
      · refine g_iconst dX0_hasRole_22 ?_
        refine g_zret dX0_hasRole_23 rfl ?_
        first | exact leafT (by omega) | exact leafF (by omega)
      · refine g_iconst dX0_hasRole_18 ?_
        refine g_goto (tgt := 23) dX0_hasRole_19 rfl ?_
        refine g_zret dX0_hasRole_23 rfl ?_
        first | exact leafT (by omega) | exact leafF (by omega)

theorem w_X0_hasRecord {d : Nat} {M : Mem} {k : Int} (k1 : -2147483648 ≤ k) (k2 : k < 2147483648) (hR0 : 0 ≤ M.1 1 10) (hR8 : M.1 1 10 ≤ 8) (hN0 : 0 ≤ M.1 1 11) (hN14 : M.1 1 11 ≤ 14) : WP wdC (d) mX0_hasRecord [vr 1, vi k] M (Ret (some (vi (bi (0 ≤ k ∧ k < M.1 1 10)))) M) := by
  refine wp_of (by decide +kernel) (Nat.le_of_ble_eq_true rfl) ?_
  refine g_iload_n dX0_hasRecord_0 rfl rfl ?_
  refine g_if_lt (tgt := 22) dX0_hasRecord_1 rfl (fun h1 => ?_) (fun h1 => ?_)
  · refine g_iconst dX0_hasRecord_22 ?_
    refine g_zret dX0_hasRecord_23 rfl ?_
    first | exact leafT (by omega) | exact leafF (by omega)
  · refine g_iload_n dX0_hasRecord_4 rfl rfl ?_
    refine g_aload_n dX0_hasRecord_5 rfl rfl ?_
    refine g_get dX0_hasRecord_6 fX0_43 rfl rfl ?_
    refine g_icmp_ge (tgt := 22) dX0_hasRecord_9 rfl (fun h9 => ?_) (fun h9 => ?_)
    · refine g_iconst dX0_hasRecord_22 ?_
      refine g_zret dX0_hasRecord_23 rfl ?_
      first | exact leafT (by omega) | exact leafF (by omega)
    · refine g_iload_n dX0_hasRecord_12 rfl rfl ?_
      refine g_bipush dX0_hasRecord_13 rfl ?_
      refine g_icmp_ge (tgt := 22) dX0_hasRecord_15 rfl (fun h15 => ?_) (fun h15 => ?_)
      · refine g_iconst dX0_hasRecord_22 ?_
        refine g_zret dX0_hasRecord_23 rfl ?_
        first | exact leafT (by omega) | exact leafF (by omega)
      · refine g_iconst dX0_hasRecord_18 ?_
        refine g_goto (tgt := 23) dX0_hasRecord_19 rfl ?_
        refine g_zret dX0_hasRecord_23 rfl ?_
        first | exact leafT (by omega) | exact leafF (by omega)

theorem w_X0_isOriginal {d : Nat} {M : Mem} {k : Int} (k1 : -2147483648 ≤ k) (k2 : k < 2147483648) (hR0 : 0 ≤ M.1 1 10) (hR8 : M.1 1 10 ≤ 8) (hN0 : 0 ≤ M.1 1 11) (hN14 : M.1 1 11 ≤ 14) (hO : ∀ j : Nat, (j : Int) < M.1 1 10 → -1 ≤ M.1 4 j ∧ M.1 4 j < 8) : WP wdC (d + 1) mX0_isOriginal [vr 1, vi k] M (Ret (some (vi (bi ((0 ≤ k ∧ k < M.1 1 10) ∧ M.1 4 k.toNat = -1)))) M) := by
  refine wp_of (by decide +kernel) (Nat.le_of_ble_eq_true rfl) ?_
  refine g_aload_n dX0_isOriginal_0 rfl rfl ?_
  refine g_iload_n dX0_isOriginal_1 rfl rfl ?_
  refine g_callVr dX0_isOriginal_2 lX0_53 (w_X0_hasRecord (by omega) (by omega) hR0 hR8 hN0 hN14) rfl rfl rfl rfl (by decide) ?_
  refine g_if_eqB (tgt := 22) dX0_isOriginal_5 rfl (fun h5 => ?_) (fun h5 => ?_)
  · refine g_iconst dX0_isOriginal_22 ?_
    refine g_zret dX0_isOriginal_23 rfl ?_
    first | exact leafT (by omega) | exact leafF (by omega)
  · have := hO k.toNat (by omega)
    refine g_aload_n dX0_isOriginal_8 rfl rfl ?_
    refine g_getr dX0_isOriginal_9 fX0_18 rfl rfl ?_
    refine g_iload_n dX0_isOriginal_12 rfl rfl ?_
    refine g_iald dX0_isOriginal_13 rfl (by decide) ?_
    refine g_iconst dX0_isOriginal_14 ?_
    refine g_icmp_ne (tgt := 22) dX0_isOriginal_15 rfl (fun h15 => ?_) (fun h15 => ?_)
    · refine g_iconst dX0_isOriginal_22 ?_
      refine g_zret dX0_isOriginal_23 rfl ?_
      first | exact leafT (by omega) | exact leafF (by omega)
    · refine g_iconst dX0_isOriginal_18 ?_
      refine g_goto (tgt := 23) dX0_isOriginal_19 rfl ?_
      refine g_zret dX0_isOriginal_23 rfl ?_
      first | exact leafT (by omega) | exact leafF (by omega)

theorem w_X0_sizeOf {d : Nat} {M : Mem} {k : Int} (k1 : -2147483648 ≤ k) (k2 : k < 2147483648) (hR0 : 0 ≤ M.1 1 10) (hR8 : M.1 1 10 ≤ 8) (hN0 : 0 ≤ M.1 1 11) (hN14 : M.1 1 11 ≤ 14) : WP wdC (d + 1) mX0_sizeOf [vr 1, vi k] M (Ret (some (vi (if 0 ≤ k ∧ k < M.1 1 10 then M.1 3 k.toNat else 0))) M) := by
  refine wp_of (by decide +kernel) (Nat.le_of_ble_eq_true rfl) ?_
  refine g_aload_n dX0_sizeOf_0 rfl rfl ?_
  refine g_iload_n dX0_sizeOf_1 rfl rfl ?_
  refine g_callVr dX0_sizeOf_2 lX0_53 (w_X0_hasRecord (by omega) (by omega) hR0 hR8 hN0 hN14) rfl rfl rfl rfl (by decide) ?_
  refine g_if_eqB (tgt := 17) dX0_sizeOf_5 rfl (fun h5 => ?_) (fun h5 => ?_)
  · refine g_iconst dX0_sizeOf_17 ?_
    refine g_iret dX0_sizeOf_18 rfl ?_
    first | exact ⟨by rw [if_pos h5], rfl⟩ | exact ⟨by rw [if_neg h5], rfl⟩
  · refine g_aload_n dX0_sizeOf_8 rfl rfl ?_
    refine g_getr dX0_sizeOf_9 fX0_15 rfl rfl ?_
    refine g_iload_n dX0_sizeOf_12 rfl rfl ?_
    refine g_iald dX0_sizeOf_13 rfl (by decide) ?_
    refine g_goto (tgt := 18) dX0_sizeOf_14 rfl ?_
    refine g_iret dX0_sizeOf_18 rfl ?_
    first | exact ⟨by rw [if_pos h5], rfl⟩ | exact ⟨by rw [if_neg h5], rfl⟩

theorem w_X0_firstOf {d : Nat} {M : Mem} {k : Int} (k1 : -2147483648 ≤ k) (k2 : k < 2147483648) (hR0 : 0 ≤ M.1 1 10) (hR8 : M.1 1 10 ≤ 8) (hN0 : 0 ≤ M.1 1 11) (hN14 : M.1 1 11 ≤ 14) : WP wdC (d + 1) mX0_firstOf [vr 1, vi k] M (Ret (some (vi (if 0 ≤ k ∧ k < M.1 1 10 then M.1 2 k.toNat else -1))) M) := by
  refine wp_of (by decide +kernel) (Nat.le_of_ble_eq_true rfl) ?_
  refine g_aload_n dX0_firstOf_0 rfl rfl ?_
  refine g_iload_n dX0_firstOf_1 rfl rfl ?_
  refine g_callVr dX0_firstOf_2 lX0_53 (w_X0_hasRecord (by omega) (by omega) hR0 hR8 hN0 hN14) rfl rfl rfl rfl (by decide) ?_
  refine g_if_eqB (tgt := 17) dX0_firstOf_5 rfl (fun h5 => ?_) (fun h5 => ?_)
  · refine g_iconst dX0_firstOf_17 ?_
    refine g_iret dX0_firstOf_18 rfl ?_
    first | exact ⟨by rw [if_pos h5], rfl⟩ | exact ⟨by rw [if_neg h5], rfl⟩
  · refine g_aload_n dX0_firstOf_8 rfl rfl ?_
    refine g_getr dX0_firstOf_9 fX0_9 rfl rfl ?_
    refine g_iload_n dX0_firstOf_12 rfl rfl ?_
    refine g_iald dX0_firstOf_13 rfl (by decide) ?_
    refine g_goto (tgt := 18) dX0_firstOf_14 rfl ?_
    refine g_iret dX0_firstOf_18 rfl ?_
    first | exact ⟨by rw [if_pos h5], rfl⟩ | exact ⟨by rw [if_neg h5], rfl⟩

theorem w_X0_hasSpace {d : Nat} {M : Mem} {k : Int} (hk0 : 0 ≤ k) (hk3 : k ≤ 3) (hR0 : 0 ≤ M.1 1 10) (hR8 : M.1 1 10 ≤ 8) (hN0 : 0 ≤ M.1 1 11) (hN14 : M.1 1 11 ≤ 14) : WP wdC (d) mX0_hasSpace [vr 1, vi k] M (Ret (some (vi (bi (M.1 1 10 < 8 ∧ M.1 1 11 + k ≤ 14)))) M) := by
  refine wp_of (by decide +kernel) (Nat.le_of_ble_eq_true rfl) ?_
  refine g_aload_n dX0_hasSpace_0 rfl rfl ?_
  refine g_get dX0_hasSpace_1 fX0_43 rfl rfl ?_
  refine g_bipush dX0_hasSpace_4 rfl ?_
  refine g_icmp_ge (tgt := 24) dX0_hasSpace_6 rfl (fun h6 => ?_) (fun h6 => ?_)
  · refine g_iconst dX0_hasSpace_24 ?_
    refine g_zret dX0_hasSpace_25 rfl ?_
    first | exact leafT (by omega) | exact leafF (by omega)
  · refine g_aload_n dX0_hasSpace_9 rfl rfl ?_
    refine g_get dX0_hasSpace_10 fX0_47 rfl rfl ?_
    refine g_iload_n dX0_hasSpace_13 rfl rfl ?_
    refine g_iadd dX0_hasSpace_14 ?_
    refine g_bipush dX0_hasSpace_15 rfl ?_
    refine g_icmp_gt (tgt := 24) dX0_hasSpace_17 rfl (fun h17 => ?_) (fun h17 => ?_)
    · refine g_iconst dX0_hasSpace_24 ?_
      refine g_zret dX0_hasSpace_25 rfl ?_
      first | exact leafT (by omega) | exact leafF (by omega)
    · refine g_iconst dX0_hasSpace_20 ?_
      refine g_goto (tgt := 25) dX0_hasSpace_21 rfl ?_
      refine g_zret dX0_hasSpace_25 rfl ?_
      first | exact leafT (by omega) | exact leafF (by omega)

theorem w_X0_bitOf {d : Nat} {M : Mem} {k : Int} (k1 : -2147483648 ≤ k) (k2 : k < 2147483648) (hR0 : 0 ≤ M.1 1 10) (hR8 : M.1 1 10 ≤ 8) (hN0 : 0 ≤ M.1 1 11) (hN14 : M.1 1 11 ≤ 14) : WP wdC (d + 1) mX0_bitOf [vr 1, vi k] M (Ret (some (vi (if 0 ≤ k ∧ k < M.1 1 11 then shl 1 (M.1 5 k.toNat) else 0))) M) := by
  refine wp_of (by decide +kernel) (Nat.le_of_ble_eq_true rfl) ?_
  refine g_aload_n dX0_bitOf_0 rfl rfl ?_
  refine g_iload_n dX0_bitOf_1 rfl rfl ?_
  refine g_callVr dX0_bitOf_2 lX0_61 (w_X0_hasRole (by omega) (by omega) hR0 hR8 hN0 hN14) rfl rfl rfl rfl (by decide) ?_
  refine g_if_eqB (tgt := 19) dX0_bitOf_5 rfl (fun h5 => ?_) (fun h5 => ?_)
  · refine g_iconst dX0_bitOf_19 ?_
    refine g_iret dX0_bitOf_20 rfl ?_
    first | exact ⟨by rw [if_pos h5], rfl⟩ | exact ⟨by rw [if_neg h5], rfl⟩
  · refine g_iconst dX0_bitOf_8 ?_
    refine g_aload_n dX0_bitOf_9 rfl rfl ?_
    refine g_getr dX0_bitOf_10 fX0_21 rfl rfl ?_
    refine g_iload_n dX0_bitOf_13 rfl rfl ?_
    refine g_iald dX0_bitOf_14 rfl (by decide) ?_
    refine g_ishl dX0_bitOf_15 ?_
    refine g_goto (tgt := 20) dX0_bitOf_16 rfl ?_
    refine g_iret dX0_bitOf_20 rfl ?_
    first | exact ⟨by rw [if_pos h5], rfl⟩ | exact ⟨by rw [if_neg h5], rfl⟩

theorem w_X0_allRecords {d : Nat} {M : Mem}  : WP wdC (d) mX0_allRecords [vr 1] M (Ret (some (vi (shl 1 (M.1 1 10) - 1))) M) := by
  refine wp_of (by decide +kernel) (Nat.le_of_ble_eq_true rfl) ?_
  refine g_iconst dX0_allRecords_0 ?_
  refine g_aload_n dX0_allRecords_1 rfl rfl ?_
  refine g_get dX0_allRecords_2 fX0_43 rfl rfl ?_
  refine g_ishl dX0_allRecords_5 ?_
  refine g_iconst dX0_allRecords_6 ?_
  refine g_isub dX0_allRecords_7 ?_
  refine g_iret dX0_allRecords_8 rfl ?_
  exact ⟨rfl, rfl⟩

def openM (M : Mem) (y o : Int) : Mem := si (si (si (si (si M 2 (M.1 1 10).toNat (M.1 1 11)) 3 (M.1 1 10).toNat 0) 4 (M.1 1 10).toNat o) 1 12 y) 1 10 (M.1 1 10 + 1)
def addM (M : Mem) (k s : Int) (n : Int64) (a : Int) : Mem := si (si (si (sj (si (si (si (si (si M 5 (M.1 1 11).toNat (M.1 1 10 - 1)) 6 (M.1 1 11).toNat k) 7 (M.1 1 11).toNat (M.1 1 12)) 8 (M.1 1 11).toNat s) 9 (M.1 1 11).toNat a) 11 (M.1 1 11).toNat n) 10 (M.1 1 11).toNat (-1)) 3 (M.1 1 10 - 1).toNat (M.1 3 (M.1 1 10 - 1).toNat + 1)) 1 11 (M.1 1 11 + 1)
def againM (M : Mem) (r : Nat) (n : Int64) : Mem := si (addM M (M.1 6 r) (M.1 8 r) n (M.1 9 r)) 10 (M.1 1 11).toNat r
def dropM (M : Mem) : Mem := si (si M 1 11 (M.1 2 (M.1 1 10 - 1).toNat)) 1 10 (M.1 1 10 - 1)

theorem w_X0_open {d : Nat} {M : Mem} {y o : Int} (hR0 : 0 ≤ M.1 1 10) (hR8 : M.1 1 10 ≤ 8) (hN0 : 0 ≤ M.1 1 11) (hN14 : M.1 1 11 ≤ 14) (h8 : M.1 1 10 < 8) : WP wdC (d) mX0_open [vr 1, vi y, vi o] M (Ret (none) (openM M y o)) := by
  refine wp_of (by decide +kernel) (Nat.le_of_ble_eq_true rfl) ?_
  refine g_aload_n dX0_open_0 rfl rfl ?_
  refine g_get dX0_open_1 fX0_43 rfl rfl ?_
  refine g_bipush dX0_open_4 rfl ?_
  refine g_icmp_ge (tgt := 57) dX0_open_6 rfl (fun h6 => ?_) (fun h6 => ?_)
  · exfalso; omega
  · refine g_aload_n dX0_open_9 rfl rfl ?_
    refine g_getr dX0_open_10 fX0_9 rfl rfl ?_
    refine g_aload_n dX0_open_13 rfl rfl ?_
    refine g_get dX0_open_14 fX0_43 rfl rfl ?_
    refine g_aload_n dX0_open_17 rfl rfl ?_
    refine g_get dX0_open_18 fX0_47 rfl rfl ?_
    refine g_iast dX0_open_21 rfl (by decide) ?_
    refine g_aload_n dX0_open_22 rfl rfl ?_
    refine g_getr dX0_open_23 fX0_15 rfl rfl ?_
    refine g_aload_n dX0_open_26 rfl rfl ?_
    refine g_get dX0_open_27 fX0_43 rfl rfl ?_
    try simp only [sil, sjl, eq_self, false_and, and_false, true_and, and_true, if_false, if_true, reduceIte]
    refine g_iconst dX0_open_30 ?_
    refine g_iast dX0_open_31 rfl (by decide) ?_
    refine g_aload_n dX0_open_32 rfl rfl ?_
    refine g_getr dX0_open_33 fX0_18 rfl rfl ?_
    refine g_aload_n dX0_open_36 rfl rfl ?_
    refine g_get dX0_open_37 fX0_43 rfl rfl ?_
    try simp only [sil, sjl, eq_self, false_and, and_false, true_and, and_true, if_false, if_true, reduceIte]
    refine g_iload_n dX0_open_40 rfl rfl ?_
    refine g_iast dX0_open_41 rfl (by decide) ?_
    refine g_aload_n dX0_open_42 rfl rfl ?_
    refine g_iload_n dX0_open_43 rfl rfl ?_
    refine g_puti dX0_open_44 fX0_50 rfl rfl rfl (tyX0_ok 12 (by decide)) ?_
    refine g_aload_n dX0_open_47 rfl rfl ?_
    refine g_dup dX0_open_48 rfl ?_
    refine g_get dX0_open_49 fX0_43 rfl rfl ?_
    try simp only [sil, sjl, eq_self, false_and, and_false, true_and, and_true, if_false, if_true, reduceIte]
    refine g_iconst dX0_open_52 ?_
    refine g_iadd dX0_open_53 ?_
    refine g_puti dX0_open_54 fX0_43 rfl rfl rfl (tyX0_ok 10 (by decide)) ?_
    refine g_vret dX0_open_57 rfl ?_
    exact ⟨rfl, rfl⟩

theorem w_X0_add {d : Nat} {M : Mem} {k s a : Int} {n : Int64} (hR0 : 0 ≤ M.1 1 10) (hR8 : M.1 1 10 ≤ 8) (hN0 : 0 ≤ M.1 1 11) (hN14 : M.1 1 11 ≤ 14) (h1 : 1 ≤ M.1 1 10) (h8 : M.1 1 11 < 14) : WP wdC (d + 1) mX0_add [vr 1, vi k, vi s, vl n, vi a] M (Ret (none) (addM M k s n a)) := by
  refine wp_of (by decide +kernel) (Nat.le_of_ble_eq_true rfl) ?_
  refine g_aload_n dX0_add_0 rfl rfl ?_
  refine g_get dX0_add_1 fX0_43 rfl rfl ?_
  refine g_iconst dX0_add_4 ?_
  refine g_isub dX0_add_5 ?_
  refine g_istore (ls' := [_, _, _, _, _, _, _]) dX0_add_6 (by decide) rfl ?_
  refine g_aload_n dX0_add_8 rfl rfl ?_
  refine g_iload dX0_add_9 rfl ?_
  refine g_callVr dX0_add_11 lX0_53 (w_X0_hasRecord (by omega) (by omega) hR0 hR8 hN0 hN14) rfl rfl rfl rfl (by decide) ?_
  refine g_if_eqB (tgt := 129) dX0_add_14 rfl (fun h14 => ?_) (fun h14 => ?_)
  · exfalso; omega
  · refine g_aload_n dX0_add_17 rfl rfl ?_
    refine g_get dX0_add_18 fX0_47 rfl rfl ?_
    refine g_if_lt (tgt := 129) dX0_add_21 rfl (fun h21 => ?_) (fun h21 => ?_)
    · exfalso; omega
    · refine g_aload_n dX0_add_24 rfl rfl ?_
      refine g_get dX0_add_25 fX0_47 rfl rfl ?_
      refine g_bipush dX0_add_28 rfl ?_
      refine g_icmp_ge (tgt := 129) dX0_add_30 rfl (fun h30 => ?_) (fun h30 => ?_)
      · exfalso; omega
      · refine g_aload_n dX0_add_33 rfl rfl ?_
        refine g_getr dX0_add_34 fX0_21 rfl rfl ?_
        refine g_aload_n dX0_add_37 rfl rfl ?_
        refine g_get dX0_add_38 fX0_47 rfl rfl ?_
        refine g_iload dX0_add_41 rfl ?_
        refine g_iast dX0_add_43 rfl (by decide) ?_
        refine g_aload_n dX0_add_44 rfl rfl ?_
        refine g_getr dX0_add_45 fX0_24 rfl rfl ?_
        refine g_aload_n dX0_add_48 rfl rfl ?_
        refine g_get dX0_add_49 fX0_47 rfl rfl ?_
        try simp only [sil, sjl, eq_self, false_and, and_false, true_and, and_true, if_false, if_true, reduceIte]
        refine g_iload_n dX0_add_52 rfl rfl ?_
        refine g_iast dX0_add_53 rfl (by decide) ?_
        refine g_aload_n dX0_add_54 rfl rfl ?_
        refine g_getr dX0_add_55 fX0_27 rfl rfl ?_
        refine g_aload_n dX0_add_58 rfl rfl ?_
        refine g_get dX0_add_59 fX0_47 rfl rfl ?_
        try simp only [sil, sjl, eq_self, false_and, and_false, true_and, and_true, if_false, if_true, reduceIte]
        refine g_aload_n dX0_add_62 rfl rfl ?_
        refine g_get dX0_add_63 fX0_50 rfl rfl ?_
        try simp only [sil, sjl, eq_self, false_and, and_false, true_and, and_true, if_false, if_true, reduceIte]
        refine g_iast dX0_add_66 rfl (by decide) ?_
        refine g_aload_n dX0_add_67 rfl rfl ?_
        refine g_getr dX0_add_68 fX0_30 rfl rfl ?_
        refine g_aload_n dX0_add_71 rfl rfl ?_
        refine g_get dX0_add_72 fX0_47 rfl rfl ?_
        try simp only [sil, sjl, eq_self, false_and, and_false, true_and, and_true, if_false, if_true, reduceIte]
        refine g_iload_n dX0_add_75 rfl rfl ?_
        refine g_iast dX0_add_76 rfl (by decide) ?_
        refine g_aload_n dX0_add_77 rfl rfl ?_
        refine g_getr dX0_add_78 fX0_33 rfl rfl ?_
        refine g_aload_n dX0_add_81 rfl rfl ?_
        refine g_get dX0_add_82 fX0_47 rfl rfl ?_
        try simp only [sil, sjl, eq_self, false_and, and_false, true_and, and_true, if_false, if_true, reduceIte]
        refine g_iload dX0_add_85 rfl ?_
        refine g_iast dX0_add_87 rfl (by decide) ?_
        refine g_aload_n dX0_add_88 rfl rfl ?_
        refine g_getr dX0_add_89 fX0_39 rfl rfl ?_
        refine g_aload_n dX0_add_92 rfl rfl ?_
        refine g_get dX0_add_93 fX0_47 rfl rfl ?_
        try simp only [sil, sjl, eq_self, false_and, and_false, true_and, and_true, if_false, if_true, reduceIte]
        refine g_lload_n dX0_add_96 rfl rfl ?_
        refine g_last dX0_add_97 rfl (by decide) ?_
        refine g_aload_n dX0_add_98 rfl rfl ?_
        refine g_getr dX0_add_99 fX0_36 rfl rfl ?_
        refine g_aload_n dX0_add_102 rfl rfl ?_
        refine g_get dX0_add_103 fX0_47 rfl rfl ?_
        try simp only [sil, sjl, eq_self, false_and, and_false, true_and, and_true, if_false, if_true, reduceIte]
        refine g_iconst dX0_add_106 ?_
        refine g_iast dX0_add_107 rfl (by decide) ?_
        refine g_aload_n dX0_add_108 rfl rfl ?_
        refine g_getr dX0_add_109 fX0_15 rfl rfl ?_
        refine g_iload dX0_add_112 rfl ?_
        refine g_dup2 dX0_add_114 rfl rfl ?_
        refine g_iald dX0_add_115 rfl (by decide) ?_
        try simp only [sil, sjl, eq_self, false_and, and_false, true_and, and_true, if_false, if_true, reduceIte]
        refine g_iconst dX0_add_116 ?_
        refine g_iadd dX0_add_117 ?_
        refine g_iast dX0_add_118 rfl (by decide) ?_
        refine g_aload_n dX0_add_119 rfl rfl ?_
        refine g_dup dX0_add_120 rfl ?_
        refine g_get dX0_add_121 fX0_47 rfl rfl ?_
        try simp only [sil, sjl, eq_self, false_and, and_false, true_and, and_true, if_false, if_true, reduceIte]
        refine g_iconst dX0_add_124 ?_
        refine g_iadd dX0_add_125 ?_
        refine g_puti dX0_add_126 fX0_47 rfl rfl rfl (tyX0_ok 11 (by decide)) ?_
        refine g_vret dX0_add_129 rfl ?_
        exact ⟨rfl, rfl⟩

theorem w_X0_addAgain {d : Nat} {M : Mem} {r : Nat} {n : Int64} (hR0 : 0 ≤ M.1 1 10) (hR8 : M.1 1 10 ≤ 8) (hN0 : 0 ≤ M.1 1 11) (hN14 : M.1 1 11 ≤ 14) (h1 : 1 ≤ M.1 1 10) (h8 : M.1 1 11 < 14) (hr : (r : Int) < M.1 1 11) : WP wdC (d + 2) mX0_addAgain [vr 1, vi r, vl n] M (Ret (none) (againM M r n)) := by
  refine wp_of (by decide +kernel) (Nat.le_of_ble_eq_true rfl) ?_
  refine g_aload_n dX0_addAgain_0 rfl rfl ?_
  refine g_iload_n dX0_addAgain_1 rfl rfl ?_
  refine g_callVr dX0_addAgain_2 lX0_61 (w_X0_hasRole (by omega) (by omega) hR0 hR8 hN0 hN14) rfl rfl rfl rfl (by decide) ?_
  refine g_if_eqB (tgt := 52) dX0_addAgain_5 rfl (fun h5 => ?_) (fun h5 => ?_)
  · exfalso; omega
  · refine g_aload_n dX0_addAgain_8 rfl rfl ?_
    refine g_get dX0_addAgain_9 fX0_47 rfl rfl ?_
    refine g_bipush dX0_addAgain_12 rfl ?_
    refine g_icmp_ge (tgt := 52) dX0_addAgain_14 rfl (fun h14 => ?_) (fun h14 => ?_)
    · exfalso; omega
    · refine g_aload_n dX0_addAgain_17 rfl rfl ?_
      refine g_aload_n dX0_addAgain_18 rfl rfl ?_
      refine g_getr dX0_addAgain_19 fX0_24 rfl rfl ?_
      refine g_iload_n dX0_addAgain_22 rfl rfl ?_
      refine g_iald dX0_addAgain_23 rfl (by decide) ?_
      refine g_aload_n dX0_addAgain_24 rfl rfl ?_
      refine g_getr dX0_addAgain_25 fX0_30 rfl rfl ?_
      refine g_iload_n dX0_addAgain_28 rfl rfl ?_
      refine g_iald dX0_addAgain_29 rfl (by decide) ?_
      refine g_lload_n dX0_addAgain_30 rfl rfl ?_
      refine g_aload_n dX0_addAgain_31 rfl rfl ?_
      refine g_getr dX0_addAgain_32 fX0_33 rfl rfl ?_
      refine g_iload_n dX0_addAgain_35 rfl rfl ?_
      refine g_iald dX0_addAgain_36 rfl (by decide) ?_
      refine g_callVr dX0_addAgain_37 lX0_68 (w_X0_add hR0 hR8 hN0 hN14 h1 h8) rfl rfl rfl rfl (by decide) ?_
      show G _ _ _ _ _ _ _ (addM M _ _ _ _)
      refine g_aload_n dX0_addAgain_40 rfl rfl ?_
      refine g_getr dX0_addAgain_41 fX0_36 rfl rfl ?_
      
      refine g_aload_n dX0_addAgain_44 rfl rfl ?_
      refine g_get dX0_addAgain_45 fX0_47 rfl rfl ?_
      refine g_iconst dX0_addAgain_48 ?_
      have e1 : (addM M (M.1 6 (r : Int).toNat) (M.1 8 (r : Int).toNat) n (M.1 9 (r : Int).toNat)).1 1 11 = M.1 1 11 + 1 := rfl
      rw [e1]
      refine g_isub dX0_addAgain_49 ?_
      refine g_iload_n dX0_addAgain_50 rfl rfl ?_
      refine g_iast dX0_addAgain_51 rfl (by decide) ?_
      refine g_vret dX0_addAgain_52 rfl ?_
      refine ⟨rfl, ?_⟩
      rw [Int.add_sub_cancel]
      rfl

theorem w_X0_removeLatest {d : Nat} {M : Mem} (hR0 : 0 ≤ M.1 1 10) (hR8 : M.1 1 10 ≤ 8) (hN0 : 0 ≤ M.1 1 11) (hN14 : M.1 1 11 ≤ 14) (h1 : 1 ≤ M.1 1 10) : WP wdC (d + 1) mX0_removeLatest [vr 1] M (Ret (none) (dropM M)) := by
  refine wp_of (by decide +kernel) (Nat.le_of_ble_eq_true rfl) ?_
  refine g_aload_n dX0_removeLatest_0 rfl rfl ?_
  refine g_get dX0_removeLatest_1 fX0_43 rfl rfl ?_
  refine g_iconst dX0_removeLatest_4 ?_
  refine g_isub dX0_removeLatest_5 ?_
  refine g_istore_n (ls' := [_, _]) dX0_removeLatest_6 rfl (by decide) rfl ?_
  refine g_aload_n dX0_removeLatest_7 rfl rfl ?_
  refine g_iload_n dX0_removeLatest_8 rfl rfl ?_
  refine g_callVr dX0_removeLatest_9 lX0_53 (w_X0_hasRecord (by omega) (by omega) hR0 hR8 hN0 hN14) rfl rfl rfl rfl (by decide) ?_
  refine g_if_eqB (tgt := 30) dX0_removeLatest_12 rfl (fun h12 => ?_) (fun h12 => ?_)
  · exfalso; omega
  · refine g_aload_n dX0_removeLatest_15 rfl rfl ?_
    refine g_aload_n dX0_removeLatest_16 rfl rfl ?_
    refine g_getr dX0_removeLatest_17 fX0_9 rfl rfl ?_
    refine g_iload_n dX0_removeLatest_20 rfl rfl ?_
    refine g_iald dX0_removeLatest_21 rfl (by decide) ?_
    refine g_puti dX0_removeLatest_22 fX0_47 rfl rfl rfl (tyX0_ok 11 (by decide)) ?_
    refine g_aload_n dX0_removeLatest_25 rfl rfl ?_
    refine g_iload_n dX0_removeLatest_26 rfl rfl ?_
    refine g_puti dX0_removeLatest_27 fX0_43 rfl rfl rfl (tyX0_ok 10 (by decide)) ?_
    refine g_vret dX0_removeLatest_30 rfl ?_
    exact ⟨rfl, rfl⟩

