/-! MODULE 45: up and down (reference). -/
def upK (mo fa : Nat → Int) (s : Nat) : Nat → Nat
  | 0 => 0
  | p + 1 => if s.testBit p = true then (if 0 ≤ fa p then (if 0 ≤ mo p then upK mo fa s p ||| 2 ^ (mo p).toNat else upK mo fa s p) ||| 2 ^ (fa p).toNat else (if 0 ≤ mo p then upK mo fa s p ||| 2 ^ (mo p).toNat else upK mo fa s p)) else upK mo fa s p
def dnK (mo fa : Nat → Int) (s : Nat) : Nat → Nat
  | 0 => 0
  | p + 1 => if (0 ≤ mo p ∧ s.testBit (mo p).toNat = true) ∨ (0 ≤ fa p ∧ s.testBit (fa p).toNat = true) then dnK mo fa s p ||| 2 ^ p else dnK mo fa s p
theorem dnK_s (mo fa : Nat → Int) (s p : Nat) : dnK mo fa s (p + 1) = if (0 ≤ mo p ∧ s.testBit (mo p).toNat = true) ∨ (0 ≤ fa p ∧ s.testBit (fa p).toNat = true) then dnK mo fa s p ||| 2 ^ p else dnK mo fa s p := rfl
theorem or_b {x k : Nat} (hx : x < 16384) (hk : k < 14) : x ||| 2 ^ k < 16384 := by
  have h1 : (2 : Nat) ^ k ≤ 2 ^ 13 := Nat.pow_le_pow_right (by decide) (by omega)
  exact Nat.or_lt_two_pow (n := 14) hx (by omega)
theorem upK_b {mo fa : Nat → Int} (hm : ∀ p, p < 14 → mo p < 14) (hf : ∀ p, p < 14 → fa p < 14) (s : Nat) : ∀ n, n ≤ 14 → upK mo fa s n < 16384
  | 0, _ => by show 0 < 16384; omega
  | p + 1, hp => by
    have ih := upK_b hm hf s p (by omega)
    have h1 := hm p (by omega)
    have h2 := hf p (by omega)
    have h3 : (if 0 ≤ mo p then upK mo fa s p ||| 2 ^ (mo p).toNat else upK mo fa s p) < 16384 := by
      split
      · exact or_b ih (by omega)
      · exact ih
    unfold upK
    split
    · split
      · exact or_b h3 (by omega)
      · exact h3
    · exact ih
theorem dnK_b {mo fa : Nat → Int} (s : Nat) : ∀ n, n ≤ 14 → dnK mo fa s n < 16384
  | 0, _ => by show 0 < 16384; omega
  | p + 1, h => by
    have ih := dnK_b (mo := mo) (fa := fa) s p (by omega)
    unfold dnK
    split
    · exact or_b ih (by omega)
    · exact ih

theorem shl_p {z : Int} (h0 : 0 ≤ z) (h1 : z < 31) : shl 1 z = ((2 ^ z.toNat : Nat) : Int) := by
  have h := shl_1 (k := z.toNat) (by omega)
  rwa [show ((z.toNat : Nat) : Int) = z by omega] at h
theorem bit_p {m : Nat} {z : Int} (hm : m < 2147483648) (h0 : 0 ≤ z) (h1 : z < 32) : band (shr m z) 1 = if m.testBit z.toNat then 1 else 0 := by
  have h := bit_1 (m := m) (k := z.toNat) hm (by omega)
  rwa [show ((z.toNat : Nat) : Int) = z by omega] at h

theorem w_X10_up {d : Nat} {M : Mem} {s : Nat} (hs : s < 16384) (hm : ∀ p, p < 14 → -1 ≤ M.1 21 p ∧ M.1 21 p < 14) (hf : ∀ p, p < 14 → -1 ≤ M.1 22 p ∧ M.1 22 p < 14) : WP wdM d mX10_up [vr 0, vi s] M (Ret (some (vi (upK (M.1 21) (M.1 22) s 14 : Nat))) M) := by
  refine wp_of (by decide +kernel) (Nat.le_of_ble_eq_true rfl) ?_
  have loop : ∀ n p : Nat, p + n = 14 → G wdM mX10_up d (Ret (some (vi (upK (M.1 21) (M.1 22) s 14 : Nat))) M) 4 [some (vr 0), some (vi s), some (vi (upK (M.1 21) (M.1 22) s p : Nat)), some (vi p)] [] M := by
    intro n
    induction n with
    | zero =>
      intro p hp
      obtain rfl : p = 14 := by omega
      refine g_iload_n dX10_up_4 rfl rfl ?_
      refine g_bipush dX10_up_5 rfl ?_
      refine g_icmp_ge (tgt := 67) dX10_up_7 rfl (fun h7 => ?_) (fun h7 => ?_)
      · refine g_iload_n dX10_up_67 rfl rfl ?_
        refine g_iret dX10_up_68 rfl ?_
        exact ⟨rfl, rfl⟩
      · exfalso; omega
    | succ n ih =>
      intro p hp
      have hle := upK_b (mo := M.1 21) (fa := M.1 22) (fun p hp => (hm p hp).2) (fun p hp => (hf p hp).2) s p (by omega)
      have hmp := hm p (by omega)
      have hfp := hf p (by omega)
      refine g_iload_n dX10_up_4 rfl rfl ?_
      refine g_bipush dX10_up_5 rfl ?_
      refine g_icmp_ge (tgt := 67) dX10_up_7 rfl (fun h7 => ?_) (fun h7 => ?_)
      · exfalso; omega
      · refine g_iload_n dX10_up_10 rfl rfl ?_
        refine g_iload_n dX10_up_11 rfl rfl ?_
        refine g_ishr dX10_up_12 ?_
        refine g_iconst dX10_up_13 ?_
        refine g_iand dX10_up_14 ?_
        rw [bit_1 (by omega) (by omega)]
        have hb01 : (if s.testBit p then (1 : Int) else 0) = 0 ∨ (if s.testBit p then (1 : Int) else 0) = 1 := by split <;> simp
        refine g_if_ne (tgt := 21) dX10_up_15 rfl (fun h15 => ?_) (fun h15 => ?_)
        · refine g_aload_n dX10_up_21 rfl rfl ?_
          refine g_getr dX10_up_22 fX10_90 rfl rfl ?_
          refine g_iload_n dX10_up_25 rfl rfl ?_
          refine g_iald dX10_up_26 rfl (by decide) ?_
          try simp only [Int.toNat_natCast]
          refine g_if_lt (tgt := 41) dX10_up_27 rfl (fun h27 => ?_) (fun h27 => ?_)
          · refine g_aload_n dX10_up_41 rfl rfl ?_
            refine g_getr dX10_up_42 fX10_93 rfl rfl ?_
            refine g_iload_n dX10_up_45 rfl rfl ?_
            refine g_iald dX10_up_46 rfl (by decide) ?_
            try simp only [Int.toNat_natCast]
            refine g_if_lt (tgt := 61) dX10_up_47 rfl (fun h47 => ?_) (fun h47 => ?_)
            · refine g_iinc (ls' := [some _, some _, some _, some _]) dX10_up_61 rfl rfl ?_
              refine g_goto (tgt := 4) dX10_up_64 rfl ?_
              have h := ih (p + 1) (by omega)
              have e : upK (M.1 21) (M.1 22) s (p + 1) = _ := rfl
              unfold upK at h
              first
              | (have hz : ¬ s.testBit p = true := fun z => by rw [z] at h15; exact absurd h15 (by decide)
                 rw [if_neg hz] at h
                 exact h)
              | (have hz : s.testBit p = true := by
                   cases hx : s.testBit p with
                   | true => rfl
                   | false => rw [hx] at h15; exact absurd rfl h15
                 rw [if_pos hz] at h
                 first
                 | (rw [if_neg (show ¬ 0 ≤ M.1 22 p by omega)] at h
                    first
                    | (rw [if_neg (show ¬ 0 ≤ M.1 21 p by omega)] at h; exact h)
                    | (rw [if_pos (show 0 ≤ M.1 21 p by omega)] at h; exact h))
                 | (rw [if_pos (show 0 ≤ M.1 22 p by omega)] at h
                    first
                    | (rw [if_neg (show ¬ 0 ≤ M.1 21 p by omega)] at h; exact h)
                    | (rw [if_pos (show 0 ≤ M.1 21 p by omega)] at h; exact h)))
            · refine g_iload_n dX10_up_50 rfl rfl ?_
              refine g_iconst dX10_up_51 ?_
              refine g_aload_n dX10_up_52 rfl rfl ?_
              refine g_getr dX10_up_53 fX10_93 rfl rfl ?_
              refine g_iload_n dX10_up_56 rfl rfl ?_
              refine g_iald dX10_up_57 rfl (by decide) ?_
              try simp only [Int.toNat_natCast]
              refine g_ishl dX10_up_58 ?_
              rw [shl_p (by omega) (by omega)]
              refine g_ior dX10_up_59 ?_
              rw [bor_nat (by omega) (Nat.lt_of_le_of_lt (Nat.pow_le_pow_right (by decide) (show (M.1 22 p).toNat ≤ 13 by omega)) (by decide))]
              refine g_istore_n (ls' := [some _, some _, some _, some _]) dX10_up_60 rfl (by decide) rfl ?_
              refine g_iinc (ls' := [some _, some _, some _, some _]) dX10_up_61 rfl rfl ?_
              refine g_goto (tgt := 4) dX10_up_64 rfl ?_
              have h := ih (p + 1) (by omega)
              have e : upK (M.1 21) (M.1 22) s (p + 1) = _ := rfl
              unfold upK at h
              first
              | (have hz : ¬ s.testBit p = true := fun z => by rw [z] at h15; exact absurd h15 (by decide)
                 rw [if_neg hz] at h
                 exact h)
              | (have hz : s.testBit p = true := by
                   cases hx : s.testBit p with
                   | true => rfl
                   | false => rw [hx] at h15; exact absurd rfl h15
                 rw [if_pos hz] at h
                 first
                 | (rw [if_neg (show ¬ 0 ≤ M.1 22 p by omega)] at h
                    first
                    | (rw [if_neg (show ¬ 0 ≤ M.1 21 p by omega)] at h; exact h)
                    | (rw [if_pos (show 0 ≤ M.1 21 p by omega)] at h; exact h))
                 | (rw [if_pos (show 0 ≤ M.1 22 p by omega)] at h
                    first
                    | (rw [if_neg (show ¬ 0 ≤ M.1 21 p by omega)] at h; exact h)
                    | (rw [if_pos (show 0 ≤ M.1 21 p by omega)] at h; exact h)))
          · refine g_iload_n dX10_up_30 rfl rfl ?_
            refine g_iconst dX10_up_31 ?_
            refine g_aload_n dX10_up_32 rfl rfl ?_
            refine g_getr dX10_up_33 fX10_90 rfl rfl ?_
            refine g_iload_n dX10_up_36 rfl rfl ?_
            refine g_iald dX10_up_37 rfl (by decide) ?_
            try simp only [Int.toNat_natCast]
            refine g_ishl dX10_up_38 ?_
            rw [shl_p (by omega) (by omega)]
            refine g_ior dX10_up_39 ?_
            rw [bor_nat (by omega) (Nat.lt_of_le_of_lt (Nat.pow_le_pow_right (by decide) (show (M.1 21 p).toNat ≤ 13 by omega)) (by decide))]
            have hb1 : upK (M.1 21) (M.1 22) s p ||| 2 ^ (M.1 21 p).toNat < 16384 := or_b hle (by omega)
            refine g_istore_n (ls' := [some _, some _, some _, some _]) dX10_up_40 rfl (by decide) rfl ?_
            refine g_aload_n dX10_up_41 rfl rfl ?_
            refine g_getr dX10_up_42 fX10_93 rfl rfl ?_
            refine g_iload_n dX10_up_45 rfl rfl ?_
            refine g_iald dX10_up_46 rfl (by decide) ?_
            try simp only [Int.toNat_natCast]
            refine g_if_lt (tgt := 61) dX10_up_47 rfl (fun h47 => ?_) (fun h47 => ?_)
            · refine g_iinc (ls' := [some _, some _, some _, some _]) dX10_up_61 rfl rfl ?_
              refine g_goto (tgt := 4) dX10_up_64 rfl ?_
              have h := ih (p + 1) (by omega)
              have e : upK (M.1 21) (M.1 22) s (p + 1) = _ := rfl
              unfold upK at h
              first
              | (have hz : ¬ s.testBit p = true := fun z => by rw [z] at h15; exact absurd h15 (by decide)
                 rw [if_neg hz] at h
                 exact h)
              | (have hz : s.testBit p = true := by
                   cases hx : s.testBit p with
                   | true => rfl
                   | false => rw [hx] at h15; exact absurd rfl h15
                 rw [if_pos hz] at h
                 first
                 | (rw [if_neg (show ¬ 0 ≤ M.1 22 p by omega)] at h
                    first
                    | (rw [if_neg (show ¬ 0 ≤ M.1 21 p by omega)] at h; exact h)
                    | (rw [if_pos (show 0 ≤ M.1 21 p by omega)] at h; exact h))
                 | (rw [if_pos (show 0 ≤ M.1 22 p by omega)] at h
                    first
                    | (rw [if_neg (show ¬ 0 ≤ M.1 21 p by omega)] at h; exact h)
                    | (rw [if_pos (show 0 ≤ M.1 21 p by omega)] at h; exact h)))
            · refine g_iload_n dX10_up_50 rfl rfl ?_
              refine g_iconst dX10_up_51 ?_
              refine g_aload_n dX10_up_52 rfl rfl ?_
              refine g_getr dX10_up_53 fX10_93 rfl rfl ?_
              refine g_iload_n dX10_up_56 rfl rfl ?_
              refine g_iald dX10_up_57 rfl (by decide) ?_
              try simp only [Int.toNat_natCast]
              refine g_ishl dX10_up_58 ?_
              rw [shl_p (by omega) (by omega)]
              refine g_ior dX10_up_59 ?_
              rw [bor_nat (by omega) (Nat.lt_of_le_of_lt (Nat.pow_le_pow_right (by decide) (show (M.1 22 p).toNat ≤ 13 by omega)) (by decide))]
              refine g_istore_n (ls' := [some _, some _, some _, some _]) dX10_up_60 rfl (by decide) rfl ?_
              refine g_iinc (ls' := [some _, some _, some _, some _]) dX10_up_61 rfl rfl ?_
              refine g_goto (tgt := 4) dX10_up_64 rfl ?_
              have h := ih (p + 1) (by omega)
              have e : upK (M.1 21) (M.1 22) s (p + 1) = _ := rfl
              unfold upK at h
              first
              | (have hz : ¬ s.testBit p = true := fun z => by rw [z] at h15; exact absurd h15 (by decide)
                 rw [if_neg hz] at h
                 exact h)
              | (have hz : s.testBit p = true := by
                   cases hx : s.testBit p with
                   | true => rfl
                   | false => rw [hx] at h15; exact absurd rfl h15
                 rw [if_pos hz] at h
                 first
                 | (rw [if_neg (show ¬ 0 ≤ M.1 22 p by omega)] at h
                    first
                    | (rw [if_neg (show ¬ 0 ≤ M.1 21 p by omega)] at h; exact h)
                    | (rw [if_pos (show 0 ≤ M.1 21 p by omega)] at h; exact h))
                 | (rw [if_pos (show 0 ≤ M.1 22 p by omega)] at h
                    first
                    | (rw [if_neg (show ¬ 0 ≤ M.1 21 p by omega)] at h; exact h)
                    | (rw [if_pos (show 0 ≤ M.1 21 p by omega)] at h; exact h)))
        · refine g_goto (tgt := 61) dX10_up_18 rfl ?_
          refine g_iinc (ls' := [some _, some _, some _, some _]) dX10_up_61 rfl rfl ?_
          refine g_goto (tgt := 4) dX10_up_64 rfl ?_
          have h := ih (p + 1) (by omega)
          have e : upK (M.1 21) (M.1 22) s (p + 1) = _ := rfl
          unfold upK at h
          first
          | (have hz : ¬ s.testBit p = true := fun z => by rw [z] at h15; exact absurd h15 (by decide)
             rw [if_neg hz] at h
             exact h)
          | (have hz : s.testBit p = true := by
               cases hx : s.testBit p with
               | true => rfl
               | false => rw [hx] at h15; exact absurd rfl h15
             rw [if_pos hz] at h
             first
             | (rw [if_neg (show ¬ 0 ≤ M.1 22 p by omega)] at h
                first
                | (rw [if_neg (show ¬ 0 ≤ M.1 21 p by omega)] at h; exact h)
                | (rw [if_pos (show 0 ≤ M.1 21 p by omega)] at h; exact h))
             | (rw [if_pos (show 0 ≤ M.1 22 p by omega)] at h
                first
                | (rw [if_neg (show ¬ 0 ≤ M.1 21 p by omega)] at h; exact h)
                | (rw [if_pos (show 0 ≤ M.1 21 p by omega)] at h; exact h)))
  refine g_iconst dX10_up_0 ?_
  refine g_istore_n (ls' := [some _, some _, some _, _]) dX10_up_1 rfl (by decide) rfl ?_
  refine g_iconst dX10_up_2 ?_
  refine g_istore_n (ls' := [some _, some _, some _, some _]) dX10_up_3 rfl (by decide) rfl ?_
  exact loop 14 0 (by omega)

theorem w_X10_down {d : Nat} {M : Mem} {s : Nat} (hs : s < 16384) (hm : ∀ p, p < 14 → -1 ≤ M.1 21 p ∧ M.1 21 p < 14) (hf : ∀ p, p < 14 → -1 ≤ M.1 22 p ∧ M.1 22 p < 14) : WP wdM d mX10_down [vr 0, vi s] M (Ret (some (vi (dnK (M.1 21) (M.1 22) s 14 : Nat))) M) := by
  refine wp_of (by decide +kernel) (Nat.le_of_ble_eq_true rfl) ?_
  have loop : ∀ n p : Nat, p + n = 14 → G wdM mX10_down d (Ret (some (vi (dnK (M.1 21) (M.1 22) s 14 : Nat))) M) 4 [some (vr 0), some (vi s), some (vi (dnK (M.1 21) (M.1 22) s p : Nat)), some (vi p)] [] M := by
    intro n
    induction n with
    | zero =>
      intro p hp
      obtain rfl : p = 14 := by omega
      refine g_iload_n dX10_down_4 rfl rfl ?_
      refine g_bipush dX10_down_5 rfl ?_
      refine g_icmp_ge (tgt := 68) dX10_down_7 rfl (fun h7 => ?_) (fun h7 => ?_)
      · refine g_iload_n dX10_down_68 rfl rfl ?_
        refine g_iret dX10_down_69 rfl ?_
        exact ⟨rfl, rfl⟩
      · exfalso; omega
    | succ n ih =>
      intro p hp
      have hle := dnK_b (mo := M.1 21) (fa := M.1 22) s p (by omega)
      have hmp := hm p (by omega)
      have hfp := hf p (by omega)
      refine g_iload_n dX10_down_4 rfl rfl ?_
      refine g_bipush dX10_down_5 rfl ?_
      refine g_icmp_ge (tgt := 68) dX10_down_7 rfl (fun h7 => ?_) (fun h7 => ?_)
      · exfalso; omega
      · refine g_aload_n dX10_down_10 rfl rfl ?_
        refine g_getr dX10_down_11 fX10_90 rfl rfl ?_
        refine g_iload_n dX10_down_14 rfl rfl ?_
        refine g_iald dX10_down_15 rfl (by decide) ?_
        try simp only [Int.toNat_natCast]
        refine g_if_lt (tgt := 33) dX10_down_16 rfl (fun h16 => ?_) (fun h16 => ?_)
        · refine g_aload_n dX10_down_33 rfl rfl ?_
          refine g_getr dX10_down_34 fX10_93 rfl rfl ?_
          refine g_iload_n dX10_down_37 rfl rfl ?_
          refine g_iald dX10_down_38 rfl (by decide) ?_
          try simp only [Int.toNat_natCast]
          refine g_if_lt (tgt := 62) dX10_down_39 rfl (fun h39 => ?_) (fun h39 => ?_)
          · refine g_iinc (ls' := [some _, some _, some _, some _]) dX10_down_62 rfl rfl ?_
            refine g_goto (tgt := 4) dX10_down_65 rfl ?_
            have h := ih (p + 1) (by omega)
            have e := dnK_s (M.1 21) (M.1 22) s p
            first
            | (rw [if_pos (Or.inl ⟨by omega, Classical.byContradiction fun q => by rw [if_neg q] at h30; omega⟩)] at e
               rw [e] at h
               exact h)
            | (rw [if_pos (Or.inr ⟨by omega, Classical.byContradiction fun q => by rw [if_neg q] at h53; omega⟩)] at e
               rw [e] at h
               exact h)
            | (have hz : ¬ ((0 ≤ M.1 21 p ∧ s.testBit (M.1 21 p).toNat = true) ∨ (0 ≤ M.1 22 p ∧ s.testBit (M.1 22 p).toNat = true)) := by
                 rintro (⟨z1, z2⟩ | ⟨z1, z2⟩)
                 · first
                   | (exfalso; omega)
                   | (rw [if_pos z2] at h30; omega)
                 · first
                   | (exfalso; omega)
                   | (rw [if_pos z2] at h53; omega)
               rw [if_neg hz] at e
               rw [e] at h
               exact h)
          · refine g_iload_n dX10_down_42 rfl rfl ?_
            refine g_aload_n dX10_down_43 rfl rfl ?_
            refine g_getr dX10_down_44 fX10_93 rfl rfl ?_
            refine g_iload_n dX10_down_47 rfl rfl ?_
            refine g_iald dX10_down_48 rfl (by decide) ?_
            try simp only [Int.toNat_natCast]
            refine g_ishr dX10_down_49 ?_
            refine g_iconst dX10_down_50 ?_
            refine g_iand dX10_down_51 ?_
            rw [bit_p (by omega) (by omega) (by omega)]
            have hb2 : (if s.testBit (M.1 22 p).toNat then (1 : Int) else 0) = 0 ∨ (if s.testBit (M.1 22 p).toNat then (1 : Int) else 0) = 1 := by split <;> simp
            refine g_iconst dX10_down_52 ?_
            refine g_icmp_ne (tgt := 62) dX10_down_53 rfl (fun h53 => ?_) (fun h53 => ?_)
            · refine g_iinc (ls' := [some _, some _, some _, some _]) dX10_down_62 rfl rfl ?_
              refine g_goto (tgt := 4) dX10_down_65 rfl ?_
              have h := ih (p + 1) (by omega)
              have e := dnK_s (M.1 21) (M.1 22) s p
              first
              | (rw [if_pos (Or.inl ⟨by omega, Classical.byContradiction fun q => by rw [if_neg q] at h30; omega⟩)] at e
                 rw [e] at h
                 exact h)
              | (rw [if_pos (Or.inr ⟨by omega, Classical.byContradiction fun q => by rw [if_neg q] at h53; omega⟩)] at e
                 rw [e] at h
                 exact h)
              | (have hz : ¬ ((0 ≤ M.1 21 p ∧ s.testBit (M.1 21 p).toNat = true) ∨ (0 ≤ M.1 22 p ∧ s.testBit (M.1 22 p).toNat = true)) := by
                   rintro (⟨z1, z2⟩ | ⟨z1, z2⟩)
                   · first
                     | (exfalso; omega)
                     | (rw [if_pos z2] at h30; omega)
                   · first
                     | (exfalso; omega)
                     | (rw [if_pos z2] at h53; omega)
                 rw [if_neg hz] at e
                 rw [e] at h
                 exact h)
            · refine g_iload_n dX10_down_56 rfl rfl ?_
              refine g_iconst dX10_down_57 ?_
              refine g_iload_n dX10_down_58 rfl rfl ?_
              refine g_ishl dX10_down_59 ?_
              rw [shl_1 (by omega)]
              refine g_ior dX10_down_60 ?_
              rw [bor_nat (by omega) (Nat.lt_of_le_of_lt (Nat.pow_le_pow_right (by decide) (show p ≤ 13 by omega)) (by decide))]
              refine g_istore_n (ls' := [some _, some _, some _, some _]) dX10_down_61 rfl (by decide) rfl ?_
              refine g_iinc (ls' := [some _, some _, some _, some _]) dX10_down_62 rfl rfl ?_
              refine g_goto (tgt := 4) dX10_down_65 rfl ?_
              have h := ih (p + 1) (by omega)
              have e := dnK_s (M.1 21) (M.1 22) s p
              first
              | (rw [if_pos (Or.inl ⟨by omega, Classical.byContradiction fun q => by rw [if_neg q] at h30; omega⟩)] at e
                 rw [e] at h
                 exact h)
              | (rw [if_pos (Or.inr ⟨by omega, Classical.byContradiction fun q => by rw [if_neg q] at h53; omega⟩)] at e
                 rw [e] at h
                 exact h)
              | (have hz : ¬ ((0 ≤ M.1 21 p ∧ s.testBit (M.1 21 p).toNat = true) ∨ (0 ≤ M.1 22 p ∧ s.testBit (M.1 22 p).toNat = true)) := by
                   rintro (⟨z1, z2⟩ | ⟨z1, z2⟩)
                   · first
                     | (exfalso; omega)
                     | (rw [if_pos z2] at h30; omega)
                   · first
                     | (exfalso; omega)
                     | (rw [if_pos z2] at h53; omega)
                 rw [if_neg hz] at e
                 rw [e] at h
                 exact h)
        · refine g_iload_n dX10_down_19 rfl rfl ?_
          refine g_aload_n dX10_down_20 rfl rfl ?_
          refine g_getr dX10_down_21 fX10_90 rfl rfl ?_
          refine g_iload_n dX10_down_24 rfl rfl ?_
          refine g_iald dX10_down_25 rfl (by decide) ?_
          try simp only [Int.toNat_natCast]
          refine g_ishr dX10_down_26 ?_
          refine g_iconst dX10_down_27 ?_
          refine g_iand dX10_down_28 ?_
          rw [bit_p (by omega) (by omega) (by omega)]
          have hb1 : (if s.testBit (M.1 21 p).toNat then (1 : Int) else 0) = 0 ∨ (if s.testBit (M.1 21 p).toNat then (1 : Int) else 0) = 1 := by split <;> simp
          refine g_iconst dX10_down_29 ?_
          refine g_icmp_eq (tgt := 56) dX10_down_30 rfl (fun h30 => ?_) (fun h30 => ?_)
          · refine g_iload_n dX10_down_56 rfl rfl ?_
            refine g_iconst dX10_down_57 ?_
            refine g_iload_n dX10_down_58 rfl rfl ?_
            refine g_ishl dX10_down_59 ?_
            rw [shl_1 (by omega)]
            refine g_ior dX10_down_60 ?_
            rw [bor_nat (by omega) (Nat.lt_of_le_of_lt (Nat.pow_le_pow_right (by decide) (show p ≤ 13 by omega)) (by decide))]
            refine g_istore_n (ls' := [some _, some _, some _, some _]) dX10_down_61 rfl (by decide) rfl ?_
            refine g_iinc (ls' := [some _, some _, some _, some _]) dX10_down_62 rfl rfl ?_
            refine g_goto (tgt := 4) dX10_down_65 rfl ?_
            have h := ih (p + 1) (by omega)
            have e := dnK_s (M.1 21) (M.1 22) s p
            first
            | (rw [if_pos (Or.inl ⟨by omega, Classical.byContradiction fun q => by rw [if_neg q] at h30; omega⟩)] at e
               rw [e] at h
               exact h)
            | (rw [if_pos (Or.inr ⟨by omega, Classical.byContradiction fun q => by rw [if_neg q] at h53; omega⟩)] at e
               rw [e] at h
               exact h)
            | (have hz : ¬ ((0 ≤ M.1 21 p ∧ s.testBit (M.1 21 p).toNat = true) ∨ (0 ≤ M.1 22 p ∧ s.testBit (M.1 22 p).toNat = true)) := by
                 rintro (⟨z1, z2⟩ | ⟨z1, z2⟩)
                 · first
                   | (exfalso; omega)
                   | (rw [if_pos z2] at h30; omega)
                 · first
                   | (exfalso; omega)
                   | (rw [if_pos z2] at h53; omega)
               rw [if_neg hz] at e
               rw [e] at h
               exact h)
          · refine g_aload_n dX10_down_33 rfl rfl ?_
            refine g_getr dX10_down_34 fX10_93 rfl rfl ?_
            refine g_iload_n dX10_down_37 rfl rfl ?_
            refine g_iald dX10_down_38 rfl (by decide) ?_
            try simp only [Int.toNat_natCast]
            refine g_if_lt (tgt := 62) dX10_down_39 rfl (fun h39 => ?_) (fun h39 => ?_)
            · refine g_iinc (ls' := [some _, some _, some _, some _]) dX10_down_62 rfl rfl ?_
              refine g_goto (tgt := 4) dX10_down_65 rfl ?_
              have h := ih (p + 1) (by omega)
              have e := dnK_s (M.1 21) (M.1 22) s p
              first
              | (rw [if_pos (Or.inl ⟨by omega, Classical.byContradiction fun q => by rw [if_neg q] at h30; omega⟩)] at e
                 rw [e] at h
                 exact h)
              | (rw [if_pos (Or.inr ⟨by omega, Classical.byContradiction fun q => by rw [if_neg q] at h53; omega⟩)] at e
                 rw [e] at h
                 exact h)
              | (have hz : ¬ ((0 ≤ M.1 21 p ∧ s.testBit (M.1 21 p).toNat = true) ∨ (0 ≤ M.1 22 p ∧ s.testBit (M.1 22 p).toNat = true)) := by
                   rintro (⟨z1, z2⟩ | ⟨z1, z2⟩)
                   · first
                     | (exfalso; omega)
                     | (rw [if_pos z2] at h30; omega)
                   · first
                     | (exfalso; omega)
                     | (rw [if_pos z2] at h53; omega)
                 rw [if_neg hz] at e
                 rw [e] at h
                 exact h)
            · refine g_iload_n dX10_down_42 rfl rfl ?_
              refine g_aload_n dX10_down_43 rfl rfl ?_
              refine g_getr dX10_down_44 fX10_93 rfl rfl ?_
              refine g_iload_n dX10_down_47 rfl rfl ?_
              refine g_iald dX10_down_48 rfl (by decide) ?_
              try simp only [Int.toNat_natCast]
              refine g_ishr dX10_down_49 ?_
              refine g_iconst dX10_down_50 ?_
              refine g_iand dX10_down_51 ?_
              rw [bit_p (by omega) (by omega) (by omega)]
              have hb2 : (if s.testBit (M.1 22 p).toNat then (1 : Int) else 0) = 0 ∨ (if s.testBit (M.1 22 p).toNat then (1 : Int) else 0) = 1 := by split <;> simp
              refine g_iconst dX10_down_52 ?_
              refine g_icmp_ne (tgt := 62) dX10_down_53 rfl (fun h53 => ?_) (fun h53 => ?_)
              · refine g_iinc (ls' := [some _, some _, some _, some _]) dX10_down_62 rfl rfl ?_
                refine g_goto (tgt := 4) dX10_down_65 rfl ?_
                have h := ih (p + 1) (by omega)
                have e := dnK_s (M.1 21) (M.1 22) s p
                first
                | (rw [if_pos (Or.inl ⟨by omega, Classical.byContradiction fun q => by rw [if_neg q] at h30; omega⟩)] at e
                   rw [e] at h
                   exact h)
                | (rw [if_pos (Or.inr ⟨by omega, Classical.byContradiction fun q => by rw [if_neg q] at h53; omega⟩)] at e
                   rw [e] at h
                   exact h)
                | (have hz : ¬ ((0 ≤ M.1 21 p ∧ s.testBit (M.1 21 p).toNat = true) ∨ (0 ≤ M.1 22 p ∧ s.testBit (M.1 22 p).toNat = true)) := by
                     rintro (⟨z1, z2⟩ | ⟨z1, z2⟩)
                     · first
                       | (exfalso; omega)
                       | (rw [if_pos z2] at h30; omega)
                     · first
                       | (exfalso; omega)
                       | (rw [if_pos z2] at h53; omega)
                   rw [if_neg hz] at e
                   rw [e] at h
                   exact h)
              · refine g_iload_n dX10_down_56 rfl rfl ?_
                refine g_iconst dX10_down_57 ?_
                refine g_iload_n dX10_down_58 rfl rfl ?_
                refine g_ishl dX10_down_59 ?_
                rw [shl_1 (by omega)]
                refine g_ior dX10_down_60 ?_
                rw [bor_nat (by omega) (Nat.lt_of_le_of_lt (Nat.pow_le_pow_right (by decide) (show p ≤ 13 by omega)) (by decide))]
                refine g_istore_n (ls' := [some _, some _, some _, some _]) dX10_down_61 rfl (by decide) rfl ?_
                refine g_iinc (ls' := [some _, some _, some _, some _]) dX10_down_62 rfl rfl ?_
                refine g_goto (tgt := 4) dX10_down_65 rfl ?_
                have h := ih (p + 1) (by omega)
                have e := dnK_s (M.1 21) (M.1 22) s p
                first
                | (rw [if_pos (Or.inl ⟨by omega, Classical.byContradiction fun q => by rw [if_neg q] at h30; omega⟩)] at e
                   rw [e] at h
                   exact h)
                | (rw [if_pos (Or.inr ⟨by omega, Classical.byContradiction fun q => by rw [if_neg q] at h53; omega⟩)] at e
                   rw [e] at h
                   exact h)
                | (have hz : ¬ ((0 ≤ M.1 21 p ∧ s.testBit (M.1 21 p).toNat = true) ∨ (0 ≤ M.1 22 p ∧ s.testBit (M.1 22 p).toNat = true)) := by
                     rintro (⟨z1, z2⟩ | ⟨z1, z2⟩)
                     · first
                       | (exfalso; omega)
                       | (rw [if_pos z2] at h30; omega)
                     · first
                       | (exfalso; omega)
                       | (rw [if_pos z2] at h53; omega)
                   rw [if_neg hz] at e
                   rw [e] at h
                   exact h)
  refine g_iconst dX10_down_0 ?_
  refine g_istore_n (ls' := [some _, some _, some _, _]) dX10_down_1 rfl (by decide) rfl ?_
  refine g_iconst dX10_down_2 ?_
  refine g_istore_n (ls' := [some _, some _, some _, some _]) dX10_down_3 rfl (by decide) rfl ?_
  exact loop 14 0 (by omega)

