/-! MODULE 27: the reference's names and distances. -/
theorem lenUp_z (x : Int64) : ∀ i : Nat, un x >>> (8 * i) = 0 → un x >>> (8 * lenUp x i) = 0
  | 0, h => h
  | i + 1, h => by
    unfold lenUp
    split
    · next h2 => exact lenUp_z x i h2
    · exact h
theorem lenUp_nz (x : Int64) : ∀ i n : Nat, lenUp x i = n + 1 → un x >>> (8 * n) ≠ 0
  | 0, n, h => by cases h
  | i + 1, n, h => by
    unfold lenUp at h
    split at h
    · exact lenUp_nz x i n h
    · next h2 =>
      have : i = n := by omega
      subst this
      exact h2
theorem un_mono {x : Int64} {i j : Nat} (h : un x >>> (8 * i) = 0) (hij : i ≤ j) : un x >>> (8 * j) = 0 := by
  rw [show 8 * j = 8 * i + (8 * j - 8 * i) by omega, Nat.shiftRight_add, h, Nat.zero_shiftRight]
theorem nlen_iff (x : Int64) (i : Nat) : un x >>> (8 * i) = 0 ↔ nlen x ≤ i := by
  have h8 : un x >>> (8 * 8) = 0 := by
    rw [Nat.shiftRight_eq_div_pow]
    exact Nat.div_eq_of_lt (un_lt x)
  constructor
  · intro h
    refine Classical.byContradiction fun z => ?_
    have h2 := lenUp_nz x 8 (nlen x - 1) (by unfold nlen at z ⊢; omega)
    exact h2 (un_mono h (by omega))
  · intro h
    exact un_mono (lenUp_z x 8 h8) h
theorem byt_nz {x : Int64} {n : Nat} (h : byt x n ≠ 0) : n < nlen x := by
  refine Classical.byContradiction fun z => h ?_
  unfold byt
  rw [(nlen_iff x n).mpr (by omega)]
theorem byt_z {x : Int64} {n : Nat} (h : byt x n = 0) (hn : nlen x ≤ n + 1) : nlen x ≤ n := by
  rw [← nlen_iff] at hn ⊢
  rw [show 8 * (n + 1) = 8 * n + 8 by omega, Nat.shiftRight_add, Nat.shiftRight_eq_div_pow] at hn
  unfold byt at h
  omega

theorem w_X10_isName {d : Nat} {M : Mem} {x : Int64} : WP wdM d mX10_isName [vl x] M (Ret (some (vi (bi (NameOK x)))) M) := by
  refine wp_of (by decide +kernel) (Nat.le_of_ble_eq_true rfl) ?_
  have hn := nlen_le x
  have loop : ∀ n : Nat, n ≤ 8 → ∀ (k b : Int) (x4 : Option AV), k + 8 = 8 * n → (b = 1 ∧ n < nlen x) ∨ (b = 0 ∧ nlen x ≤ n) → (∀ j, n ≤ j → j < nlen x → 97 ≤ byt x j ∧ byt x j ≤ 122) → G wdM mX10_isName d (Ret (some (vi (bi (NameOK x)))) M) 5 [some (vl x), none, some (vi b), some (vi k), x4] [] M := by
    intro n
    induction n with
    | zero =>
      intro hn8 k b x4 hk hb hl
      refine g_iload_n dX10_isName_5 rfl rfl ?_
      refine g_if_lt (tgt := 55) dX10_isName_6 rfl (fun h6 => ?_) (fun h6 => ?_)
      · refine g_iconst dX10_isName_55 ?_
        refine g_zret dX10_isName_56 rfl ?_
        exact leafT (fun j hj => hl j (by omega) hj)
      · exfalso; omega
    | succ n ih =>
      intro hn8 k b x4 hk hb hl
      have hc := byt_lt x n
      obtain rfl : k = ((8 * n : Nat) : Int) := by push_cast; omega
      refine g_iload_n dX10_isName_5 rfl rfl ?_
      refine g_if_lt (tgt := 55) dX10_isName_6 rfl (fun h6 => ?_) (fun h6 => ?_)
      · exfalso; omega
      · refine g_lload_n dX10_isName_9 rfl rfl ?_
        refine g_iload_n dX10_isName_10 rfl rfl ?_
        refine g_lshr dX10_isName_11 ?_
        refine g_ldc2 dX10_isName_12 kX10_96 ?_
        refine g_land dX10_isName_15 ?_
        refine g_l2i dX10_isName_16 ?_
        rw [byt_s (by omega)]
        refine g_istore (ls' := [some _, _, some _, some _, some _]) dX10_isName_17 (by decide) rfl ?_
        refine g_iload dX10_isName_19 rfl ?_
        refine g_if_ne (tgt := 31) dX10_isName_21 rfl (fun h21 => ?_) (fun h21 => ?_)
        · refine g_iconst dX10_isName_31 ?_
          refine g_istore_n (ls' := [some _, _, some _, some _, some _]) dX10_isName_32 rfl (by decide) rfl ?_
          refine g_iload dX10_isName_33 rfl ?_
          refine g_bipush dX10_isName_35 rfl ?_
          refine g_icmp_lt (tgt := 47) dX10_isName_37 rfl (fun h37 => ?_) (fun h37 => ?_)
          · refine g_iconst dX10_isName_47 ?_
            refine g_zret dX10_isName_48 rfl ?_
            refine leafF (fun z => ?_)
            have hnl : n < nlen x := by
              rcases hb with ⟨_, hb⟩ | ⟨hb0, hb⟩
              · omega
              · first
                | exact byt_nz (by omega)
                | exact absurd hb0 h25
            have := z n hnl
            omega
          · refine g_iload dX10_isName_40 rfl ?_
            refine g_bipush dX10_isName_42 rfl ?_
            refine g_icmp_le (tgt := 49) dX10_isName_44 rfl (fun h44 => ?_) (fun h44 => ?_)
            · refine g_iinc (ls' := [some _, _, some _, some _, some _]) dX10_isName_49 rfl rfl ?_
              refine g_goto (tgt := 5) dX10_isName_52 rfl ?_
              first
              | (have hz : nlen x ≤ n := by
                   rcases hb with ⟨hb0, hb⟩ | ⟨hb0, hb⟩
                   · omega
                   · exact byt_z (by omega) hb
                 refine ih (by omega) _ _ _ (by omega) (Or.inr ⟨by omega, hz⟩) (fun j hj hj2 => ?_)
                 exfalso; omega)
              | (have hz : n < nlen x := by
                   rcases hb with ⟨_, hb⟩ | ⟨hb0, hb⟩
                   · omega
                   · first
                     | exact byt_nz (by omega)
                     | exact absurd hb0 h25
                 refine ih (by omega) _ _ _ (by omega) (Or.inl ⟨rfl, hz⟩) (fun j hj hj2 => ?_)
                 by_cases hjn : j = n
                 · subst hjn; omega
                 · exact hl j (by omega) hj2)
            · refine g_iconst dX10_isName_47 ?_
              refine g_zret dX10_isName_48 rfl ?_
              refine leafF (fun z => ?_)
              have hnl : n < nlen x := by
                rcases hb with ⟨_, hb⟩ | ⟨hb0, hb⟩
                · omega
                · first
                  | exact byt_nz (by omega)
                  | exact absurd hb0 h25
              have := z n hnl
              omega
        · refine g_iload_n dX10_isName_24 rfl rfl ?_
          refine g_if_ne (tgt := 31) dX10_isName_25 rfl (fun h25 => ?_) (fun h25 => ?_)
          · refine g_iconst dX10_isName_31 ?_
            refine g_istore_n (ls' := [some _, _, some _, some _, some _]) dX10_isName_32 rfl (by decide) rfl ?_
            refine g_iload dX10_isName_33 rfl ?_
            refine g_bipush dX10_isName_35 rfl ?_
            refine g_icmp_lt (tgt := 47) dX10_isName_37 rfl (fun h37 => ?_) (fun h37 => ?_)
            · refine g_iconst dX10_isName_47 ?_
              refine g_zret dX10_isName_48 rfl ?_
              refine leafF (fun z => ?_)
              have hnl : n < nlen x := by
                rcases hb with ⟨_, hb⟩ | ⟨hb0, hb⟩
                · omega
                · first
                  | exact byt_nz (by omega)
                  | exact absurd hb0 h25
              have := z n hnl
              omega
            · refine g_iload dX10_isName_40 rfl ?_
              refine g_bipush dX10_isName_42 rfl ?_
              refine g_icmp_le (tgt := 49) dX10_isName_44 rfl (fun h44 => ?_) (fun h44 => ?_)
              · refine g_iinc (ls' := [some _, _, some _, some _, some _]) dX10_isName_49 rfl rfl ?_
                refine g_goto (tgt := 5) dX10_isName_52 rfl ?_
                first
                | (have hz : nlen x ≤ n := by
                     rcases hb with ⟨hb0, hb⟩ | ⟨hb0, hb⟩
                     · omega
                     · exact byt_z (by omega) hb
                   refine ih (by omega) _ _ _ (by omega) (Or.inr ⟨by omega, hz⟩) (fun j hj hj2 => ?_)
                   exfalso; omega)
                | (have hz : n < nlen x := by
                     rcases hb with ⟨_, hb⟩ | ⟨hb0, hb⟩
                     · omega
                     · first
                       | exact byt_nz (by omega)
                       | exact absurd hb0 h25
                   refine ih (by omega) _ _ _ (by omega) (Or.inl ⟨rfl, hz⟩) (fun j hj hj2 => ?_)
                   by_cases hjn : j = n
                   · subst hjn; omega
                   · exact hl j (by omega) hj2)
              · refine g_iconst dX10_isName_47 ?_
                refine g_zret dX10_isName_48 rfl ?_
                refine leafF (fun z => ?_)
                have hnl : n < nlen x := by
                  rcases hb with ⟨_, hb⟩ | ⟨hb0, hb⟩
                  · omega
                  · first
                    | exact byt_nz (by omega)
                    | exact absurd hb0 h25
                have := z n hnl
                omega
          · refine g_goto (tgt := 49) dX10_isName_28 rfl ?_
            refine g_iinc (ls' := [some _, _, some _, some _, some _]) dX10_isName_49 rfl rfl ?_
            refine g_goto (tgt := 5) dX10_isName_52 rfl ?_
            first
            | (have hz : nlen x ≤ n := by
                 rcases hb with ⟨hb0, hb⟩ | ⟨hb0, hb⟩
                 · omega
                 · exact byt_z (by omega) hb
               refine ih (by omega) _ _ _ (by omega) (Or.inr ⟨by omega, hz⟩) (fun j hj hj2 => ?_)
               exfalso; omega)
            | (have hz : n < nlen x := by
                 rcases hb with ⟨_, hb⟩ | ⟨hb0, hb⟩
                 · omega
                 · first
                   | exact byt_nz (by omega)
                   | exact absurd hb0 h25
               refine ih (by omega) _ _ _ (by omega) (Or.inl ⟨rfl, hz⟩) (fun j hj hj2 => ?_)
               by_cases hjn : j = n
               · subst hjn; omega
               · exact hl j (by omega) hj2)
  refine g_iconst dX10_isName_0 ?_
  refine g_istore_n (ls' := [some _, _, some _, _, _]) dX10_isName_1 rfl (by decide) rfl ?_
  refine g_bipush dX10_isName_2 rfl ?_
  refine g_istore_n (ls' := [some _, _, some _, some _, _]) dX10_isName_4 rfl (by decide) rfl ?_
  exact loop 8 (Nat.le_refl _) _ _ _ rfl (Or.inr ⟨rfl, hn⟩) (fun j hj hj2 => absurd hj2 (by omega))

theorem w_X10_sizeOf {d : Nat} {M : Mem} {x : Int64} : WP wdM d mX10_sizeOf [vl x] M (Ret (some (vi (nlen x))) M) := by
  refine wp_of (by decide +kernel) (Nat.le_of_ble_eq_true rfl) ?_
  have hn := nlen_le x
  have loop : ∀ n i : Nat, i + n = 8 → i ≤ nlen x → G wdM mX10_sizeOf d (Ret (some (vi (nlen x))) M) 2 [some (vl x), none, some (vi i)] [] M := by
    intro n
    induction n with
    | zero =>
      intro i hi hl
      refine g_iload_n dX10_sizeOf_2 rfl rfl ?_
      refine g_bipush dX10_sizeOf_3 rfl ?_
      refine g_icmp_ge (tgt := 25) dX10_sizeOf_5 rfl (fun h5 => ?_) (fun h5 => ?_)
      · refine g_iload_n dX10_sizeOf_25 rfl rfl ?_
        refine g_iret dX10_sizeOf_26 rfl ?_
        refine ⟨?_, rfl⟩
        rw [show (i : Int) = ((nlen x : Nat) : Int) by omega]
      · exfalso; omega
    | succ n ih =>
      intro i hi hl
      have e : (8 : Int) * (i : Int) = ((8 * i : Nat) : Int) := by push_cast; rfl
      have hr := lcmp_r (lushr x (8 * (i : Int))) 0
      refine g_iload_n dX10_sizeOf_2 rfl rfl ?_
      refine g_bipush dX10_sizeOf_3 rfl ?_
      refine g_icmp_ge (tgt := 25) dX10_sizeOf_5 rfl (fun h5 => ?_) (fun h5 => ?_)
      · exfalso; omega
      · refine g_lload_n dX10_sizeOf_8 rfl rfl ?_
        refine g_bipush dX10_sizeOf_9 rfl ?_
        refine g_iload_n dX10_sizeOf_11 rfl rfl ?_
        refine g_imul dX10_sizeOf_12 ?_
        refine g_lushr dX10_sizeOf_13 ?_
        refine g_lconst (v := 0) dX10_sizeOf_14 rfl ?_
        refine g_lcmp dX10_sizeOf_15 ?_
        refine g_if_eq (tgt := 25) dX10_sizeOf_16 rfl (fun h16 => ?_) (fun h16 => ?_)
        · refine g_iload_n dX10_sizeOf_25 rfl rfl ?_
          refine g_iret dX10_sizeOf_26 rfl ?_
          rw [e, lcmp_0, lushr_0 (by omega), nlen_iff] at h16
          refine ⟨?_, rfl⟩
          rw [show (i : Int) = ((nlen x : Nat) : Int) by omega]
        · refine g_iinc (ls' := [some _, _, some _]) dX10_sizeOf_19 rfl rfl ?_
          refine g_goto (tgt := 2) dX10_sizeOf_22 rfl ?_
          rw [e, lcmp_0, lushr_0 (by omega), nlen_iff] at h16
          exact ih (i + 1) (by omega) (by omega)
  refine g_iconst dX10_sizeOf_0 ?_
  refine g_istore_n (ls' := [some _, _, some _]) dX10_sizeOf_1 rfl (by decide) rfl ?_
  exact loop 8 0 rfl (Nat.zero_le _)

theorem w_X10_letter {d : Nat} {M : Mem} {x : Int64} {i : Nat} (hi : i < nlen x) : WP wdM (d + 1) mX10_letter [vl x, vi i] M (Ret (some (vi ((byt x (nlen x - 1 - i) : Int) - 97))) M) := by
  refine wp_of (by decide +kernel) (Nat.le_of_ble_eq_true rfl) ?_
  have hn := nlen_le x
  have e : (8 : Int) * ((nlen x : Int) - 1 - i) = ((8 * (nlen x - 1 - i) : Nat) : Int) := by omega
  have hb := byt_lt x (nlen x - 1 - i)
  refine g_lload_n dX10_letter_0 rfl rfl ?_
  refine g_bipush dX10_letter_1 rfl ?_
  refine g_lload_n dX10_letter_3 rfl rfl ?_
  refine g_callSr dX10_letter_4 lX10_98 (w_X10_sizeOf) rfl rfl (Nat.le_of_ble_eq_true rfl) ?_
  refine g_iconst dX10_letter_7 ?_
  refine g_isub dX10_letter_8 ?_
  refine g_iload_n dX10_letter_9 rfl rfl ?_
  refine g_isub dX10_letter_10 ?_
  refine g_imul dX10_letter_11 ?_
  refine g_lshr dX10_letter_12 ?_
  refine g_ldc2 dX10_letter_13 kX10_96 ?_
  refine g_land dX10_letter_16 ?_
  refine g_l2i dX10_letter_17 ?_
  rw [e, byt_s (by omega)]
  refine g_bipush dX10_letter_18 rfl ?_
  refine g_isub dX10_letter_20 ?_
  refine g_iret dX10_letter_21 rfl ?_
  exact ⟨rfl, rfl⟩

/-- the reference's letters against the class's -/
def AlR (A B : Nat → Int) : Prop := ∀ c e : Nat, c < 26 → e < 26 → (A (26 * c + e) = 0 ∨ A (26 * c + e) = 1) ∧ (A (26 * c + e) = 1 ↔ c = e ∨ B (32 * c + e) = 1)
def subR (B : Nat → Int) (a b : Int64) (i j : Nat) : Int := subC B a b (nlen a - 1 - i) (nlen b - 1 - j)
theorem subR_ge (B : Nat → Int) (a b : Int64) (i j : Nat) : 0 ≤ subR B a b i j := subC_ge _ _ _ _ _
theorem subR_eq {A B : Nat → Int} (hA : AlR A B) {a b : Int64} (ha : NameOK a) (hb : NameOK b) {i j : Nat} (hi : i < nlen a) (hj : j < nlen b) : (A (26 * ((byt a (nlen a - 1 - i) : Int) - 97) + ((byt b (nlen b - 1 - j) : Int) - 97)).toNat = 0 ∧ subR B a b i j = 1) ∨ (A (26 * ((byt a (nlen a - 1 - i) : Int) - 97) + ((byt b (nlen b - 1 - j) : Int) - 97)).toNat = 1 ∧ subR B a b i j = 0) := by
  have h1 := ha (nlen a - 1 - i) (by omega)
  have h2 := hb (nlen b - 1 - j) (by omega)
  obtain ⟨p, hp⟩ : ∃ p, p = byt a (nlen a - 1 - i) := ⟨_, rfl⟩
  obtain ⟨q, hq⟩ : ∃ q, q = byt b (nlen b - 1 - j) := ⟨_, rfl⟩
  obtain ⟨h3, h4⟩ := hA (p - 97) (q - 97) (by omega) (by omega)
  unfold subR subC
  rw [← hp, ← hq]
  rw [show (26 * ((p : Int) - 97) + ((q : Int) - 97)).toNat = 26 * (p - 97) + (q - 97) by omega, show (((p : Int) - 97) * 32 + ((q : Int) - 97)).toNat = 32 * (p - 97) + (q - 97) by omega]
  rcases h3 with h3 | h3
  · left
    refine ⟨h3, if_neg (fun z => ?_)⟩
    have := h4.mpr (z.elim (fun w => Or.inl (by omega)) Or.inr)
    omega
  · right
    refine ⟨h3, if_pos ?_⟩
    exact (h4.mp h3).elim (fun w => Or.inl (by omega)) Or.inr

theorem w_X10_apart {d : Nat} {M : Mem} {a b : Int64} {B : Nat → Int} (ha : NameOK a) (hb : NameOK b) (hal : AlR (M.1 12) B) : WP wdM (d + 2) mX10_apart [vr 0, vl a, vl b] M (fun v M' => v = some (vi (distC B a b)) ∧ Fr 13 (2 + 13) M M') := by
  refine wp_of (by decide +kernel) (Nat.le_of_ble_eq_true rfl) ?_
  have hna := nlen_le a
  have hnb := nlen_le b
  have hlv := lev_ge (subR B a b) (subR_ge B a b)
  have outer : nlen a ≠ 0 → nlen b ≠ 0 → ∀ n' i : Nat, i + n' = nlen a → ∀ (M1 : Mem) (x8 x9 : Option AV), Fr 13 (2 + 13) M M1 → (∀ j, j ≤ nlen b → M1.1 13 j = lev (subR B a b) i j) → G wdM mX10_apart (d + 2) (fun v M' => v = some (vi (distC B a b)) ∧ Fr 13 (2 + 13) M M') 52 ([some (vr 0), some (vl a), none, some (vl b), none, some (vi (nlen a)), some (vi (nlen b)), some (vi ((i + 1 : Nat) : Int)), x8, x9]) [] M1 := by
    intro hza hzb n'
    induction n' with
    | zero =>
      intro i hi M1 x8 x9 hF hrow
      have hi : i = nlen a := by omega
      subst hi
      refine g_iload dX10_apart_52 rfl ?_
      refine g_iload dX10_apart_54 rfl ?_
      refine g_icmp_gt (tgt := 233) dX10_apart_56 rfl (fun h56 => ?_) (fun h56 => ?_)
      · refine g_aload_n dX10_apart_233 rfl rfl ?_
        refine g_getr dX10_apart_234 fX10_64 rfl rfl ?_
        refine g_iload dX10_apart_237 rfl ?_
        refine g_iald dX10_apart_239 rfl (by decide) ?_
        refine g_iret dX10_apart_240 rfl ?_
        refine ⟨?_, hF⟩
        rw [Int.toNat_natCast, hrow _ (Nat.le_refl _)]
        unfold distC
        rw [if_neg (by omega), lev_rev (subC B a b)]
        rfl
      · exfalso; omega
    | succ n' ih =>
      intro i hi M1 x8 x9 hF hrow
      have copy : ∀ n'' j : Nat, j + n'' = nlen b + 1 → ∀ (M2 : Mem) (x9 : Option AV), Fr 13 (2 + 13) M M2 → (∀ t, t ≤ nlen b → M2.1 14 t = lev (subR B a b) (i + 1) t) → (∀ t, t < j → M2.1 13 t = lev (subR B a b) (i + 1) t) → G wdM mX10_apart (d + 2) (fun v M' => v = some (vi (distC B a b)) ∧ Fr 13 (2 + 13) M M') 200 ([some (vr 0), some (vl a), none, some (vl b), none, some (vi (nlen a)), some (vi (nlen b)), some (vi ((i + 1 : Nat) : Int)), some (vi j), x9]) [] M2 := by
        intro n''
        induction n'' with
        | zero =>
          intro j hj M2 x9 hF2 h1 h2
          refine g_iload dX10_apart_200 rfl ?_
          refine g_iload dX10_apart_202 rfl ?_
          refine g_icmp_gt (tgt := 227) dX10_apart_204 rfl (fun h204 => ?_) (fun h204 => ?_)
          · refine g_iinc (ls' := [some _, some _, _, some _, _, some _, some _, some _, some _, _]) dX10_apart_227 rfl rfl ?_
            refine g_goto (tgt := 52) dX10_apart_230 rfl ?_
            exact ih (i + 1) (by omega) M2 _ _ hF2 (fun t ht => h2 t (by omega))
          · exfalso; omega
        | succ n'' ih2 =>
          intro j hj M2 x9 hF2 h1 h2
          refine g_iload dX10_apart_200 rfl ?_
          refine g_iload dX10_apart_202 rfl ?_
          refine g_icmp_gt (tgt := 227) dX10_apart_204 rfl (fun h204 => ?_) (fun h204 => ?_)
          · exfalso; omega
          · refine g_aload_n dX10_apart_207 rfl rfl ?_
            refine g_getr dX10_apart_208 fX10_64 rfl rfl ?_
            refine g_iload dX10_apart_211 rfl ?_
            refine g_aload_n dX10_apart_213 rfl rfl ?_
            refine g_getr dX10_apart_214 fX10_67 rfl rfl ?_
            refine g_iload dX10_apart_217 rfl ?_
            refine g_iald dX10_apart_219 rfl (by decide) ?_
            try simp only [Int.toNat_natCast]
            refine g_iast dX10_apart_220 rfl (by decide) ?_
            try simp only [Int.toNat_natCast]
            refine g_iinc (ls' := [some _, some _, _, some _, _, some _, some _, some _, some _, _]) dX10_apart_221 rfl rfl ?_
            refine g_goto (tgt := 200) dX10_apart_224 rfl ?_
            refine ih2 (j + 1) (by omega) _ _ (hF2.si _ _ _) (fun t ht => ?_) (fun t ht => ?_)
            · rw [sil, if_neg (by omega)]; exact h1 t ht
            · rw [sil]
              by_cases htj : t = j
              · subst htj; rw [if_pos ⟨rfl, rfl⟩]; exact h1 t (by omega)
              · rw [if_neg (by omega)]; exact h2 t (by omega)
      have inner : ∀ n'' j : Nat, j + n'' = nlen b → ∀ (M2 : Mem) (x9 : Option AV), Fr 13 (2 + 13) M M2 → (∀ t, t ≤ j → M2.1 14 t = lev (subR B a b) (i + 1) t) → (∀ t, t ≤ nlen b → M2.1 13 t = lev (subR B a b) i t) → G wdM mX10_apart (d + 2) (fun v M' => v = some (vi (distC B a b)) ∧ Fr 13 (2 + 13) M M') 70 ([some (vr 0), some (vl a), none, some (vl b), none, some (vi (nlen a)), some (vi (nlen b)), some (vi ((i + 1 : Nat) : Int)), some (vi ((j + 1 : Nat) : Int)), x9]) [] M2 := by
        intro n''
        induction n'' with
        | zero =>
          intro j hj M2 x9 hF2 h1 h2
          have hj : j = nlen b := by omega
          subst hj
          refine g_iload dX10_apart_70 rfl ?_
          refine g_iload dX10_apart_72 rfl ?_
          refine g_icmp_gt (tgt := 197) dX10_apart_74 rfl (fun h74 => ?_) (fun h74 => ?_)
          · refine g_iconst dX10_apart_197 ?_
            refine g_istore (ls' := [some _, some _, _, some _, _, some _, some _, some _, some _, _]) dX10_apart_198 (by decide) rfl ?_
            exact copy (nlen b + 1) 0 (by omega) M2 _ hF2 h1 (fun t ht => absurd ht (by omega))
          · exfalso; omega
        | succ n'' ih2 =>
          intro j hj M2 x9 hF2 h1 h2
          have e1 : (((j + 1 : Nat) : Int) - 1).toNat = j := by omega
          have e2 : (((j + 1 : Nat) : Int)).toNat = j + 1 := by omega
          have e3 : (((j + 1 : Nat) : Int) - 1) = (j : Int) := by omega
          have e4 : (((i + 1 : Nat) : Int) - 1) = (i : Int) := by omega
          have l1 := hlv i j
          have l2 := hlv i (j + 1)
          have l3 := hlv (i + 1) j
          have hA : M2.1 12 = M.1 12 := (hF2 12 (Or.inl (by decide))).1
          have hsb := subR_eq (A := M2.1 12) (by rw [hA]; exact hal) ha hb (show i < nlen a by omega) (show j < nlen b by omega)
          have hr1 := h2 (j + 1) (by omega)
          have hr0 := h2 j (by omega)
          have hn0 := h1 j (by omega)
          have ha1 := ha (nlen a - 1 - i) (by omega)
          have hb1 := hb (nlen b - 1 - j) (by omega)
          have hls := lev_s (subR B a b) i j
          refine g_iload dX10_apart_70 rfl ?_
          refine g_iload dX10_apart_72 rfl ?_
          refine g_icmp_gt (tgt := 197) dX10_apart_74 rfl (fun h74 => ?_) (fun h74 => ?_)
          · exfalso; omega
          · refine g_aload_n dX10_apart_77 rfl rfl ?_
            refine g_getr dX10_apart_78 fX10_64 rfl rfl ?_
            refine g_iload dX10_apart_81 rfl ?_
            refine g_iconst dX10_apart_83 ?_
            refine g_isub dX10_apart_84 ?_
            refine g_iald dX10_apart_85 rfl (by decide) ?_
            rw [e1, hr0]
            refine g_aload_n dX10_apart_86 rfl rfl ?_
            refine g_getr dX10_apart_87 fX10_44 rfl rfl ?_
            refine g_bipush dX10_apart_90 rfl ?_
            refine g_lload_n dX10_apart_92 rfl rfl ?_
            refine g_iload dX10_apart_93 rfl ?_
            refine g_iconst dX10_apart_95 ?_
            refine g_isub dX10_apart_96 ?_
            rw [e4]
            refine g_callSr dX10_apart_97 lX10_102 (w_X10_letter (by omega)) rfl rfl (Nat.le_of_ble_eq_true rfl) ?_
            refine g_imul dX10_apart_100 ?_
            refine g_lload_n dX10_apart_101 rfl rfl ?_
            refine g_iload dX10_apart_102 rfl ?_
            refine g_iconst dX10_apart_104 ?_
            refine g_isub dX10_apart_105 ?_
            rw [e3]
            refine g_callSr dX10_apart_106 lX10_102 (w_X10_letter (by omega)) rfl rfl (Nat.le_of_ble_eq_true rfl) ?_
            refine g_iadd dX10_apart_109 ?_
            refine g_bald dX10_apart_110 rfl (Or.inl rfl) (by decide) ?_
            refine g_if_eq (tgt := 118) dX10_apart_111 rfl (fun h111 => ?_) (fun h111 => ?_)
            · refine g_iconst dX10_apart_118 ?_
              refine g_iadd dX10_apart_119 ?_
              refine g_istore (ls' := [some _, some _, _, some _, _, some _, some _, some _, some _, some _]) dX10_apart_120 (by decide) rfl ?_
              refine g_aload_n dX10_apart_122 rfl rfl ?_
              refine g_getr dX10_apart_123 fX10_64 rfl rfl ?_
              refine g_iload dX10_apart_126 rfl ?_
              refine g_iald dX10_apart_128 rfl (by decide) ?_
              rw [e2, hr1]
              refine g_iconst dX10_apart_129 ?_
              refine g_iadd dX10_apart_130 ?_
              refine g_iload dX10_apart_131 rfl ?_
              refine g_icmp_ge (tgt := 148) dX10_apart_133 rfl (fun h133 => ?_) (fun h133 => ?_)
              · refine g_iload dX10_apart_148 rfl ?_
                refine g_istore (ls' := [some _, some _, _, some _, _, some _, some _, some _, some _, some _]) dX10_apart_150 (by decide) rfl ?_
                refine g_aload_n dX10_apart_152 rfl rfl ?_
                refine g_getr dX10_apart_153 fX10_67 rfl rfl ?_
                refine g_iload dX10_apart_156 rfl ?_
                refine g_aload_n dX10_apart_158 rfl rfl ?_
                refine g_getr dX10_apart_159 fX10_67 rfl rfl ?_
                refine g_iload dX10_apart_162 rfl ?_
                refine g_iconst dX10_apart_164 ?_
                refine g_isub dX10_apart_165 ?_
                refine g_iald dX10_apart_166 rfl (by decide) ?_
                rw [e1, hn0]
                refine g_iconst dX10_apart_167 ?_
                refine g_iadd dX10_apart_168 ?_
                refine g_iload dX10_apart_169 rfl ?_
                refine g_icmp_ge (tgt := 188) dX10_apart_171 rfl (fun h171 => ?_) (fun h171 => ?_)
                · refine g_iload dX10_apart_188 rfl ?_
                  refine g_iast dX10_apart_190 rfl (by decide) ?_
                  refine g_iinc (ls' := [some _, some _, _, some _, _, some _, some _, some _, some _, some _]) dX10_apart_191 rfl rfl ?_
                  refine g_goto (tgt := 70) dX10_apart_194 rfl ?_
                  refine ih2 (j + 1) (by omega) _ _ (hF2.si _ _ _) (fun t ht => ?_) (fun t ht => ?_)
                  · rw [sil]
                    by_cases htj : t = j + 1
                    · subst htj
                      rw [if_pos ⟨rfl, e2.symm⟩, hls]
                      omega
                    · rw [if_neg (by omega)]
                      exact h1 t (by omega)
                  · rw [sil, if_neg (by omega)]
                    exact h2 t ht
                · refine g_aload_n dX10_apart_174 rfl rfl ?_
                  refine g_getr dX10_apart_175 fX10_67 rfl rfl ?_
                  refine g_iload dX10_apart_178 rfl ?_
                  refine g_iconst dX10_apart_180 ?_
                  refine g_isub dX10_apart_181 ?_
                  refine g_iald dX10_apart_182 rfl (by decide) ?_
                  rw [e1, hn0]
                  refine g_iconst dX10_apart_183 ?_
                  refine g_iadd dX10_apart_184 ?_
                  refine g_goto (tgt := 190) dX10_apart_185 rfl ?_
                  refine g_iast dX10_apart_190 rfl (by decide) ?_
                  refine g_iinc (ls' := [some _, some _, _, some _, _, some _, some _, some _, some _, some _]) dX10_apart_191 rfl rfl ?_
                  refine g_goto (tgt := 70) dX10_apart_194 rfl ?_
                  refine ih2 (j + 1) (by omega) _ _ (hF2.si _ _ _) (fun t ht => ?_) (fun t ht => ?_)
                  · rw [sil]
                    by_cases htj : t = j + 1
                    · subst htj
                      rw [if_pos ⟨rfl, e2.symm⟩, hls]
                      omega
                    · rw [if_neg (by omega)]
                      exact h1 t (by omega)
                  · rw [sil, if_neg (by omega)]
                    exact h2 t ht
              · refine g_aload_n dX10_apart_136 rfl rfl ?_
                refine g_getr dX10_apart_137 fX10_64 rfl rfl ?_
                refine g_iload dX10_apart_140 rfl ?_
                refine g_iald dX10_apart_142 rfl (by decide) ?_
                rw [e2, hr1]
                refine g_iconst dX10_apart_143 ?_
                refine g_iadd dX10_apart_144 ?_
                refine g_goto (tgt := 150) dX10_apart_145 rfl ?_
                refine g_istore (ls' := [some _, some _, _, some _, _, some _, some _, some _, some _, some _]) dX10_apart_150 (by decide) rfl ?_
                refine g_aload_n dX10_apart_152 rfl rfl ?_
                refine g_getr dX10_apart_153 fX10_67 rfl rfl ?_
                refine g_iload dX10_apart_156 rfl ?_
                refine g_aload_n dX10_apart_158 rfl rfl ?_
                refine g_getr dX10_apart_159 fX10_67 rfl rfl ?_
                refine g_iload dX10_apart_162 rfl ?_
                refine g_iconst dX10_apart_164 ?_
                refine g_isub dX10_apart_165 ?_
                refine g_iald dX10_apart_166 rfl (by decide) ?_
                rw [e1, hn0]
                refine g_iconst dX10_apart_167 ?_
                refine g_iadd dX10_apart_168 ?_
                refine g_iload dX10_apart_169 rfl ?_
                refine g_icmp_ge (tgt := 188) dX10_apart_171 rfl (fun h171 => ?_) (fun h171 => ?_)
                · refine g_iload dX10_apart_188 rfl ?_
                  refine g_iast dX10_apart_190 rfl (by decide) ?_
                  refine g_iinc (ls' := [some _, some _, _, some _, _, some _, some _, some _, some _, some _]) dX10_apart_191 rfl rfl ?_
                  refine g_goto (tgt := 70) dX10_apart_194 rfl ?_
                  refine ih2 (j + 1) (by omega) _ _ (hF2.si _ _ _) (fun t ht => ?_) (fun t ht => ?_)
                  · rw [sil]
                    by_cases htj : t = j + 1
                    · subst htj
                      rw [if_pos ⟨rfl, e2.symm⟩, hls]
                      omega
                    · rw [if_neg (by omega)]
                      exact h1 t (by omega)
                  · rw [sil, if_neg (by omega)]
                    exact h2 t ht
                · refine g_aload_n dX10_apart_174 rfl rfl ?_
                  refine g_getr dX10_apart_175 fX10_67 rfl rfl ?_
                  refine g_iload dX10_apart_178 rfl ?_
                  refine g_iconst dX10_apart_180 ?_
                  refine g_isub dX10_apart_181 ?_
                  refine g_iald dX10_apart_182 rfl (by decide) ?_
                  rw [e1, hn0]
                  refine g_iconst dX10_apart_183 ?_
                  refine g_iadd dX10_apart_184 ?_
                  refine g_goto (tgt := 190) dX10_apart_185 rfl ?_
                  refine g_iast dX10_apart_190 rfl (by decide) ?_
                  refine g_iinc (ls' := [some _, some _, _, some _, _, some _, some _, some _, some _, some _]) dX10_apart_191 rfl rfl ?_
                  refine g_goto (tgt := 70) dX10_apart_194 rfl ?_
                  refine ih2 (j + 1) (by omega) _ _ (hF2.si _ _ _) (fun t ht => ?_) (fun t ht => ?_)
                  · rw [sil]
                    by_cases htj : t = j + 1
                    · subst htj
                      rw [if_pos ⟨rfl, e2.symm⟩, hls]
                      omega
                    · rw [if_neg (by omega)]
                      exact h1 t (by omega)
                  · rw [sil, if_neg (by omega)]
                    exact h2 t ht
            · refine g_iconst dX10_apart_114 ?_
              refine g_goto (tgt := 119) dX10_apart_115 rfl ?_
              refine g_iadd dX10_apart_119 ?_
              refine g_istore (ls' := [some _, some _, _, some _, _, some _, some _, some _, some _, some _]) dX10_apart_120 (by decide) rfl ?_
              refine g_aload_n dX10_apart_122 rfl rfl ?_
              refine g_getr dX10_apart_123 fX10_64 rfl rfl ?_
              refine g_iload dX10_apart_126 rfl ?_
              refine g_iald dX10_apart_128 rfl (by decide) ?_
              rw [e2, hr1]
              refine g_iconst dX10_apart_129 ?_
              refine g_iadd dX10_apart_130 ?_
              refine g_iload dX10_apart_131 rfl ?_
              refine g_icmp_ge (tgt := 148) dX10_apart_133 rfl (fun h133 => ?_) (fun h133 => ?_)
              · refine g_iload dX10_apart_148 rfl ?_
                refine g_istore (ls' := [some _, some _, _, some _, _, some _, some _, some _, some _, some _]) dX10_apart_150 (by decide) rfl ?_
                refine g_aload_n dX10_apart_152 rfl rfl ?_
                refine g_getr dX10_apart_153 fX10_67 rfl rfl ?_
                refine g_iload dX10_apart_156 rfl ?_
                refine g_aload_n dX10_apart_158 rfl rfl ?_
                refine g_getr dX10_apart_159 fX10_67 rfl rfl ?_
                refine g_iload dX10_apart_162 rfl ?_
                refine g_iconst dX10_apart_164 ?_
                refine g_isub dX10_apart_165 ?_
                refine g_iald dX10_apart_166 rfl (by decide) ?_
                rw [e1, hn0]
                refine g_iconst dX10_apart_167 ?_
                refine g_iadd dX10_apart_168 ?_
                refine g_iload dX10_apart_169 rfl ?_
                refine g_icmp_ge (tgt := 188) dX10_apart_171 rfl (fun h171 => ?_) (fun h171 => ?_)
                · refine g_iload dX10_apart_188 rfl ?_
                  refine g_iast dX10_apart_190 rfl (by decide) ?_
                  refine g_iinc (ls' := [some _, some _, _, some _, _, some _, some _, some _, some _, some _]) dX10_apart_191 rfl rfl ?_
                  refine g_goto (tgt := 70) dX10_apart_194 rfl ?_
                  refine ih2 (j + 1) (by omega) _ _ (hF2.si _ _ _) (fun t ht => ?_) (fun t ht => ?_)
                  · rw [sil]
                    by_cases htj : t = j + 1
                    · subst htj
                      rw [if_pos ⟨rfl, e2.symm⟩, hls]
                      omega
                    · rw [if_neg (by omega)]
                      exact h1 t (by omega)
                  · rw [sil, if_neg (by omega)]
                    exact h2 t ht
                · refine g_aload_n dX10_apart_174 rfl rfl ?_
                  refine g_getr dX10_apart_175 fX10_67 rfl rfl ?_
                  refine g_iload dX10_apart_178 rfl ?_
                  refine g_iconst dX10_apart_180 ?_
                  refine g_isub dX10_apart_181 ?_
                  refine g_iald dX10_apart_182 rfl (by decide) ?_
                  rw [e1, hn0]
                  refine g_iconst dX10_apart_183 ?_
                  refine g_iadd dX10_apart_184 ?_
                  refine g_goto (tgt := 190) dX10_apart_185 rfl ?_
                  refine g_iast dX10_apart_190 rfl (by decide) ?_
                  refine g_iinc (ls' := [some _, some _, _, some _, _, some _, some _, some _, some _, some _]) dX10_apart_191 rfl rfl ?_
                  refine g_goto (tgt := 70) dX10_apart_194 rfl ?_
                  refine ih2 (j + 1) (by omega) _ _ (hF2.si _ _ _) (fun t ht => ?_) (fun t ht => ?_)
                  · rw [sil]
                    by_cases htj : t = j + 1
                    · subst htj
                      rw [if_pos ⟨rfl, e2.symm⟩, hls]
                      omega
                    · rw [if_neg (by omega)]
                      exact h1 t (by omega)
                  · rw [sil, if_neg (by omega)]
                    exact h2 t ht
              · refine g_aload_n dX10_apart_136 rfl rfl ?_
                refine g_getr dX10_apart_137 fX10_64 rfl rfl ?_
                refine g_iload dX10_apart_140 rfl ?_
                refine g_iald dX10_apart_142 rfl (by decide) ?_
                rw [e2, hr1]
                refine g_iconst dX10_apart_143 ?_
                refine g_iadd dX10_apart_144 ?_
                refine g_goto (tgt := 150) dX10_apart_145 rfl ?_
                refine g_istore (ls' := [some _, some _, _, some _, _, some _, some _, some _, some _, some _]) dX10_apart_150 (by decide) rfl ?_
                refine g_aload_n dX10_apart_152 rfl rfl ?_
                refine g_getr dX10_apart_153 fX10_67 rfl rfl ?_
                refine g_iload dX10_apart_156 rfl ?_
                refine g_aload_n dX10_apart_158 rfl rfl ?_
                refine g_getr dX10_apart_159 fX10_67 rfl rfl ?_
                refine g_iload dX10_apart_162 rfl ?_
                refine g_iconst dX10_apart_164 ?_
                refine g_isub dX10_apart_165 ?_
                refine g_iald dX10_apart_166 rfl (by decide) ?_
                rw [e1, hn0]
                refine g_iconst dX10_apart_167 ?_
                refine g_iadd dX10_apart_168 ?_
                refine g_iload dX10_apart_169 rfl ?_
                refine g_icmp_ge (tgt := 188) dX10_apart_171 rfl (fun h171 => ?_) (fun h171 => ?_)
                · refine g_iload dX10_apart_188 rfl ?_
                  refine g_iast dX10_apart_190 rfl (by decide) ?_
                  refine g_iinc (ls' := [some _, some _, _, some _, _, some _, some _, some _, some _, some _]) dX10_apart_191 rfl rfl ?_
                  refine g_goto (tgt := 70) dX10_apart_194 rfl ?_
                  refine ih2 (j + 1) (by omega) _ _ (hF2.si _ _ _) (fun t ht => ?_) (fun t ht => ?_)
                  · rw [sil]
                    by_cases htj : t = j + 1
                    · subst htj
                      rw [if_pos ⟨rfl, e2.symm⟩, hls]
                      omega
                    · rw [if_neg (by omega)]
                      exact h1 t (by omega)
                  · rw [sil, if_neg (by omega)]
                    exact h2 t ht
                · refine g_aload_n dX10_apart_174 rfl rfl ?_
                  refine g_getr dX10_apart_175 fX10_67 rfl rfl ?_
                  refine g_iload dX10_apart_178 rfl ?_
                  refine g_iconst dX10_apart_180 ?_
                  refine g_isub dX10_apart_181 ?_
                  refine g_iald dX10_apart_182 rfl (by decide) ?_
                  rw [e1, hn0]
                  refine g_iconst dX10_apart_183 ?_
                  refine g_iadd dX10_apart_184 ?_
                  refine g_goto (tgt := 190) dX10_apart_185 rfl ?_
                  refine g_iast dX10_apart_190 rfl (by decide) ?_
                  refine g_iinc (ls' := [some _, some _, _, some _, _, some _, some _, some _, some _, some _]) dX10_apart_191 rfl rfl ?_
                  refine g_goto (tgt := 70) dX10_apart_194 rfl ?_
                  refine ih2 (j + 1) (by omega) _ _ (hF2.si _ _ _) (fun t ht => ?_) (fun t ht => ?_)
                  · rw [sil]
                    by_cases htj : t = j + 1
                    · subst htj
                      rw [if_pos ⟨rfl, e2.symm⟩, hls]
                      omega
                    · rw [if_neg (by omega)]
                      exact h1 t (by omega)
                  · rw [sil, if_neg (by omega)]
                    exact h2 t ht
      refine g_iload dX10_apart_52 rfl ?_
      refine g_iload dX10_apart_54 rfl ?_
      refine g_icmp_gt (tgt := 233) dX10_apart_56 rfl (fun h56 => ?_) (fun h56 => ?_)
      · exfalso; omega
      · refine g_aload_n dX10_apart_59 rfl rfl ?_
        refine g_getr dX10_apart_60 fX10_67 rfl rfl ?_
        refine g_iconst dX10_apart_63 ?_
        refine g_iload dX10_apart_64 rfl ?_
        refine g_iast dX10_apart_66 rfl (by decide) ?_
        refine g_iconst dX10_apart_67 ?_
        refine g_istore (ls' := [some _, some _, _, some _, _, some _, some _, some _, some _, _]) dX10_apart_68 (by decide) rfl ?_
        refine inner (nlen b) 0 (by omega) _ _ (hF.si _ _ _) (fun t ht => ?_) (fun t ht => ?_)
        · have ht : t = 0 := by omega
          subst ht
          rw [sil, if_pos ⟨rfl, rfl⟩, lev_i0]
        · rw [sil, if_neg (by omega)]
          exact hrow t ht
  have init : ∀ n' j : Nat, j + n' = nlen b + 1 → nlen a ≠ 0 → nlen b ≠ 0 → ∀ (M1 : Mem) (x8 x9 : Option AV), Fr 13 (2 + 13) M M1 → (∀ t, t < j → M1.1 13 t = t) → G wdM mX10_apart (d + 2) (fun v M' => v = some (vi (distC B a b)) ∧ Fr 13 (2 + 13) M M') 27 ([some (vr 0), some (vl a), none, some (vl b), none, some (vi (nlen a)), some (vi (nlen b)), some (vi j), x8, x9]) [] M1 := by
    intro n'
    induction n' with
    | zero =>
      intro j hj hza hzb M1 x8 x9 hF hrow
      refine g_iload dX10_apart_27 rfl ?_
      refine g_iload dX10_apart_29 rfl ?_
      refine g_icmp_gt (tgt := 49) dX10_apart_31 rfl (fun h31 => ?_) (fun h31 => ?_)
      · refine g_iconst dX10_apart_49 ?_
        refine g_istore (ls' := [some _, some _, _, some _, _, some _, some _, some _, _, _]) dX10_apart_50 (by decide) rfl ?_
        exact outer hza hzb (nlen a) 0 (by omega) M1 _ _ hF (fun t ht => hrow t (by omega))
      · exfalso; omega
    | succ n' ih =>
      intro j hj hza hzb M1 x8 x9 hF hrow
      refine g_iload dX10_apart_27 rfl ?_
      refine g_iload dX10_apart_29 rfl ?_
      refine g_icmp_gt (tgt := 49) dX10_apart_31 rfl (fun h31 => ?_) (fun h31 => ?_)
      · exfalso; omega
      · refine g_aload_n dX10_apart_34 rfl rfl ?_
        refine g_getr dX10_apart_35 fX10_64 rfl rfl ?_
        refine g_iload dX10_apart_38 rfl ?_
        refine g_iload dX10_apart_40 rfl ?_
        refine g_iast dX10_apart_42 rfl (by decide) ?_
        refine g_iinc (ls' := [some _, some _, _, some _, _, some _, some _, some _, _, _]) dX10_apart_43 rfl rfl ?_
        refine g_goto (tgt := 27) dX10_apart_46 rfl ?_
        refine ih (j + 1) (by omega) hza hzb _ _ _ (hF.si _ _ _) (fun t ht => ?_)
        rw [sil]
        by_cases htj : t = j
        · subst htj; rw [if_pos ⟨rfl, by omega⟩]
        · rw [if_neg (by omega)]; exact hrow t (by omega)
  refine g_lload_n dX10_apart_0 rfl rfl ?_
  refine g_callSr dX10_apart_1 lX10_98 (w_X10_sizeOf) rfl rfl (Nat.le_of_ble_eq_true rfl) ?_
  refine g_istore (ls' := [some _, some _, _, some _, _, some _, _, _, _, _]) dX10_apart_4 (by decide) rfl ?_
  refine g_lload_n dX10_apart_6 rfl rfl ?_
  refine g_callSr dX10_apart_7 lX10_98 (w_X10_sizeOf) rfl rfl (Nat.le_of_ble_eq_true rfl) ?_
  refine g_istore (ls' := [some _, some _, _, some _, _, some _, some _, _, _, _]) dX10_apart_10 (by decide) rfl ?_
  refine g_iload dX10_apart_12 rfl ?_
  refine g_if_eq (tgt := 22) dX10_apart_14 rfl (fun h14 => ?_) (fun h14 => ?_)
  · refine g_iconst dX10_apart_22 ?_
    refine g_iret dX10_apart_23 rfl ?_
    exact ⟨by unfold distC; rw [if_pos (by omega)], Fr.rf⟩
  · refine g_iload dX10_apart_17 rfl ?_
    refine g_if_ne (tgt := 24) dX10_apart_19 rfl (fun h19 => ?_) (fun h19 => ?_)
    · refine g_iconst dX10_apart_24 ?_
      refine g_istore (ls' := [some _, some _, _, some _, _, some _, some _, some _, _, _]) dX10_apart_25 (by decide) rfl ?_
      exact init (nlen b + 1) 0 (by omega) (by omega) (by omega) M _ _ Fr.rf (fun t ht => absurd ht (by omega))
    · refine g_iconst dX10_apart_22 ?_
      refine g_iret dX10_apart_23 rfl ?_
      exact ⟨by unfold distC; rw [if_pos (by omega)], Fr.rf⟩

theorem w_X10_far {d : Nat} {M : Mem} {a b : Int64} {B : Nat → Int} (hal : AlR (M.1 12) B) : WP wdM (d + 3) mX10_far [vr 0, vl a, vl b] M (fun v M' => v = some (vi (if NameOK a ∧ NameOK b then distC B a b else -1)) ∧ Fr 13 (2 + 13) M M') := by
  refine wp_of (by decide +kernel) (Nat.le_of_ble_eq_true rfl) ?_
  refine g_lload_n dX10_far_0 rfl rfl ?_
  refine g_callSr dX10_far_1 lX10_106 (w_X10_isName) rfl rfl (Nat.le_of_ble_eq_true rfl) ?_
  refine g_if_eqB (tgt := 23) dX10_far_4 rfl (fun h4 => ?_) (fun h4 => ?_)
  · refine g_iconst dX10_far_23 ?_
    refine g_iret dX10_far_24 rfl ?_
    first
    | exact ⟨by rw [if_pos ⟨h4, h11⟩], hF⟩
    | exact ⟨by rw [if_neg (fun z => by first | exact h4 z.1 | exact h11 z.2)], Fr.rf⟩
  · refine g_lload_n dX10_far_7 rfl rfl ?_
    refine g_callSr dX10_far_8 lX10_106 (w_X10_isName) rfl rfl (Nat.le_of_ble_eq_true rfl) ?_
    refine g_if_eqB (tgt := 23) dX10_far_11 rfl (fun h11 => ?_) (fun h11 => ?_)
    · refine g_iconst dX10_far_23 ?_
      refine g_iret dX10_far_24 rfl ?_
      first
      | exact ⟨by rw [if_pos ⟨h4, h11⟩], hF⟩
      | exact ⟨by rw [if_neg (fun z => by first | exact h4 z.1 | exact h11 z.2)], Fr.rf⟩
    · refine g_aload_n dX10_far_14 rfl rfl ?_
      refine g_lload_n dX10_far_15 rfl rfl ?_
      refine g_lload_n dX10_far_16 rfl rfl ?_
      refine g_callV dX10_far_17 lX10_110 (w_X10_apart (d := d) h4 h11 hal) rfl rfl rfl rfl (Nat.le_of_ble_eq_true rfl) ?_
      rintro v M2 ⟨rfl, hF⟩
      show G _ _ _ _ _ _ [vi _] M2
      refine g_goto (tgt := 24) dX10_far_20 rfl ?_
      refine g_iret dX10_far_24 rfl ?_
      first
      | exact ⟨by rw [if_pos ⟨h4, h11⟩], hF⟩
      | exact ⟨by rw [if_neg (fun z => by first | exact h4 z.1 | exact h11 z.2)], Fr.rf⟩

