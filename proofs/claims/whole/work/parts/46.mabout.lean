/-! MODULE 42: about, bitsOf (reference). -/
def maboutS (M : Mem) (w : Int) : Int := if w = 0 then M.1 0 12 else if w = 1 then M.1 0 13 else if w = 2 then M.1 0 14 else if w = 3 then M.1 0 39 else if w = 4 then M.1 0 16 else if w = 5 then M.1 0 17 else if w = 6 then M.1 0 18 else if w = 7 then M.1 0 19 else if w = 8 then M.1 0 20 else if w = 9 then M.1 0 15 else -1
theorem w_X10_about {d : Nat} {M : Mem} {w : Int} (w1 : -2147483648 ≤ w) (w2 : w < 2147483648) : WP wdM d mX10_about [vr 0, vi w] M (Ret (some (vi (maboutS M w))) M) := by
  refine wp_of (by decide +kernel) (Nat.le_of_ble_eq_true rfl) ?_
  refine g_iload_n dX10_about_0 rfl rfl ?_
  by_cases hw : 0 ≤ w ∧ w ≤ 9
  · have hw9 : w = 0 ∨ w = 1 ∨ w = 2 ∨ w = 3 ∨ w = 4 ∨ w = 5 ∨ w = 6 ∨ w = 7 ∨ w = 8 ∨ w = 9 := by omega
    rcases hw9 with rfl | rfl | rfl | rfl | rfl | rfl | rfl | rfl | rfl | rfl
    · refine g_tsw (tgt := 56) dX10_about_1 rfl rfl ?_
      refine g_aload_n dX10_about_56 rfl rfl ?_
      refine g_get dX10_about_57 fX10_114 rfl rfl ?_
      refine g_iret dX10_about_60 rfl ?_
      exact ⟨rfl, rfl⟩
    · refine g_tsw (tgt := 61) dX10_about_1 rfl rfl ?_
      refine g_aload_n dX10_about_61 rfl rfl ?_
      refine g_get dX10_about_62 fX10_117 rfl rfl ?_
      refine g_iret dX10_about_65 rfl ?_
      exact ⟨rfl, rfl⟩
    · refine g_tsw (tgt := 66) dX10_about_1 rfl rfl ?_
      refine g_aload_n dX10_about_66 rfl rfl ?_
      refine g_get dX10_about_67 fX10_147 rfl rfl ?_
      refine g_iret dX10_about_70 rfl ?_
      exact ⟨rfl, rfl⟩
    · refine g_tsw (tgt := 71) dX10_about_1 rfl rfl ?_
      refine g_aload_n dX10_about_71 rfl rfl ?_
      refine g_get dX10_about_72 fX10_217 rfl rfl ?_
      refine g_iret dX10_about_75 rfl ?_
      exact ⟨rfl, rfl⟩
    · refine g_tsw (tgt := 76) dX10_about_1 rfl rfl ?_
      refine g_aload_n dX10_about_76 rfl rfl ?_
      refine g_get dX10_about_77 fX10_48 rfl rfl ?_
      refine g_iret dX10_about_80 rfl ?_
      exact ⟨rfl, rfl⟩
    · refine g_tsw (tgt := 81) dX10_about_1 rfl rfl ?_
      refine g_aload_n dX10_about_81 rfl rfl ?_
      refine g_get dX10_about_82 fX10_52 rfl rfl ?_
      refine g_iret dX10_about_85 rfl ?_
      exact ⟨rfl, rfl⟩
    · refine g_tsw (tgt := 86) dX10_about_1 rfl rfl ?_
      refine g_aload_n dX10_about_86 rfl rfl ?_
      refine g_get dX10_about_87 fX10_55 rfl rfl ?_
      refine g_iret dX10_about_90 rfl ?_
      exact ⟨rfl, rfl⟩
    · refine g_tsw (tgt := 91) dX10_about_1 rfl rfl ?_
      refine g_aload_n dX10_about_91 rfl rfl ?_
      refine g_get dX10_about_92 fX10_58 rfl rfl ?_
      refine g_iret dX10_about_95 rfl ?_
      exact ⟨rfl, rfl⟩
    · refine g_tsw (tgt := 96) dX10_about_1 rfl rfl ?_
      refine g_aload_n dX10_about_96 rfl rfl ?_
      refine g_get dX10_about_97 fX10_61 rfl rfl ?_
      refine g_iret dX10_about_100 rfl ?_
      exact ⟨rfl, rfl⟩
    · refine g_tsw (tgt := 101) dX10_about_1 rfl rfl ?_
      refine g_aload_n dX10_about_101 rfl rfl ?_
      refine g_get dX10_about_102 fX10_150 rfl rfl ?_
      refine g_iret dX10_about_105 rfl ?_
      exact ⟨rfl, rfl⟩
  · refine g_tswO (tgt := 106) dX10_about_1 rfl ?_
    refine g_iconst dX10_about_106 ?_
    refine g_iret dX10_about_107 rfl ?_
    exact ⟨by unfold maboutS; rw [if_neg (by omega), if_neg (by omega), if_neg (by omega), if_neg (by omega), if_neg (by omega), if_neg (by omega), if_neg (by omega), if_neg (by omega), if_neg (by omega), if_neg (by omega)], rfl⟩

def popK (s k : Nat) : Nat := (List.range k).foldl (fun a k => a + (if s.testBit k then 1 else 0)) 0
theorem popK_s (s k : Nat) : popK s (k + 1) = popK s k + (if s.testBit k then 1 else 0) := by
  unfold popK
  rw [List.range_succ, List.foldl_append]
  rfl
theorem popK_le (s : Nat) : ∀ k, popK s k ≤ k
  | 0 => Nat.le_refl _
  | k + 1 => by
    have := popK_le s k
    rw [popK_s]; split <;> omega
theorem w_X10_bitsOf {d : Nat} {M : Mem} {s : Nat} (hs : s < 256) : WP wdM d mX10_bitsOf [vi s] M (Ret (some (vi (pop8 s))) M) := by
  refine wp_of (by decide +kernel) (Nat.le_of_ble_eq_true rfl) ?_
  have loop : ∀ n k : Nat, k + n = 8 → G wdM mX10_bitsOf d (Ret (some (vi (pop8 s))) M) 4 [some (vi s), some (vi (popK s k)), some (vi k)] [] M := by
    intro n
    induction n with
    | zero =>
      intro k hk
      obtain rfl : k = 8 := by omega
      refine g_iload_n dX10_bitsOf_4 rfl rfl ?_
      refine g_bipush dX10_bitsOf_5 rfl ?_
      refine g_icmp_ge (tgt := 24) dX10_bitsOf_7 rfl (fun h7 => ?_) (fun h7 => ?_)
      · refine g_iload_n dX10_bitsOf_24 rfl rfl ?_
        refine g_iret dX10_bitsOf_25 rfl ?_
        exact ⟨rfl, rfl⟩
      · exfalso; omega
    | succ n ih =>
      intro k hk
      have hle := popK_le s k
      refine g_iload_n dX10_bitsOf_4 rfl rfl ?_
      refine g_bipush dX10_bitsOf_5 rfl ?_
      refine g_icmp_ge (tgt := 24) dX10_bitsOf_7 rfl (fun h7 => ?_) (fun h7 => ?_)
      · exfalso; omega
      · refine g_iload_n dX10_bitsOf_10 rfl rfl ?_
        refine g_iload_n dX10_bitsOf_11 rfl rfl ?_
        refine g_iload_n dX10_bitsOf_12 rfl rfl ?_
        refine g_ishr dX10_bitsOf_13 ?_
        refine g_iconst dX10_bitsOf_14 ?_
        refine g_iand dX10_bitsOf_15 ?_
        rw [bit_1 (by omega) (by omega)]
        have hb01 : (if s.testBit k then (1 : Int) else 0) = 0 ∨ (if s.testBit k then (1 : Int) else 0) = 1 := by split <;> simp
        refine g_iadd dX10_bitsOf_16 ?_
        refine g_istore_n (ls' := [some _, some _, some _]) dX10_bitsOf_17 rfl (by decide) rfl ?_
        refine g_iinc (ls' := [some _, some _, some _]) dX10_bitsOf_18 rfl rfl ?_
        refine g_goto (tgt := 4) dX10_bitsOf_21 rfl ?_
        have e := popK_s s k
        have h := ih (k + 1) (by omega)
        rw [e] at h
        have e2 : ((popK s k + (if s.testBit k then 1 else 0) : Nat) : Int) = (popK s k : Int) + (if s.testBit k then 1 else 0) := by
          split <;> simp
        rw [e2] at h
        exact h
  refine g_iconst dX10_bitsOf_0 ?_
  refine g_istore_n (ls' := [some _, some _, _]) dX10_bitsOf_1 rfl (by decide) rfl ?_
  refine g_iconst dX10_bitsOf_2 ?_
  refine g_istore_n (ls' := [some _, some _, some _]) dX10_bitsOf_3 rfl (by decide) rfl ?_
  exact loop 8 0 (by omega)

