/-! MODULE 47: parents (reference). -/
def paR (D : Mem) (w : Nat → Nat) (j : Nat) : Nat → Nat → Int
  | 0, _ => -1
  | r + 1, p => if isB D r ∧ w (D.1 2 r).toNat = p then (w ((D.1 2 r).toNat + j) : Nat) else paR D w j r p
theorem w_X10_parents {d : Nat} {D M : Mem} {k : Nat} {w : Nat → Nat} (hk : k < 3000) (hw : Wf D) (hr : DR D M) (hkd : DRk D M) (hways : ∀ r : Nat, (r : Int) < D.1 1 11 → M.1 19 (14 * k + r) = w r) (h14 : ∀ r : Nat, (r : Int) < D.1 1 11 → w r < 14) : WP wdM (d + 1) mX10_parents [vr 0, vi k] M (fun v M' => v = none ∧ (∀ p, p ≠ 21 → p ≠ 22 → M'.1 p = M.1 p ∧ M'.2 p = M.2 p) ∧ ∀ p, p < 14 → M'.1 21 p = paR D w 1 (nR D) p ∧ M'.1 22 p = paR D w 2 (nR D) p) := by
  refine wp_of (by decide +kernel) (Nat.le_of_ble_eq_true rfl) ?_
  have hbd := hw.1
  have loop2 : ∀ n r : Nat, (r : Int) + n = D.1 1 10 → ∀ M1 : Mem, (∀ p, p ≠ 21 → p ≠ 22 → M1.1 p = M.1 p ∧ M1.2 p = M.2 p) → (∀ p, p < 14 → M1.1 21 p = paR D w 1 r p ∧ M1.1 22 p = paR D w 2 r p) → G wdM mX10_parents (d + 1) (fun v M' => v = none ∧ (∀ p, p ≠ 21 → p ≠ 22 → M'.1 p = M.1 p ∧ M'.2 p = M.2 p) ∧ ∀ p, p < 14 → M'.1 21 p = paR D w 1 (nR D) p ∧ M'.1 22 p = paR D w 2 (nR D) p) 30 [some (vr 0), some (vi k), some (vi r)] [] M1 := by
    intro n
    induction n with
    | zero =>
      intro r hrr M1 hF hp
      have hR1 : M1.1 0 12 = D.1 1 10 := by rw [(hF 0 (by decide) (by decide)).1]; exact hr.1.1
      obtain ⟨b1, b2, b3, b4⟩ := id hbd
      refine g_iload_n dX10_parents_30 rfl rfl ?_
      refine g_aload_n dX10_parents_31 rfl rfl ?_
      refine g_get dX10_parents_32 fX10_114 rfl rfl ?_
      rw [hR1]
      refine g_icmp_ge (tgt := 123) dX10_parents_35 rfl (fun h35 => ?_) (fun h35 => ?_)
      · refine g_vret dX10_parents_123 rfl ?_
        exact ⟨rfl, hF, fun p hp2 => by rw [show nR D = r by unfold nR; omega]; exact hp p hp2⟩
      · exfalso; omega
    | succ n ih =>
      intro r hrr M1 hF hp
      have hR1 : M1.1 0 12 = D.1 1 10 := by rw [(hF 0 (by decide) (by decide)).1]; exact hr.1.1
      have hrl : (r : Int) < D.1 1 10 := by omega
      obtain ⟨b1, b2, b3, b4⟩ := id hbd
      obtain ⟨a1, a2, a3, a4, a5, a6⟩ := hr.1.2.2.1 r hrl
      have hwc := hw.2.2.2.1 r hrl
      have h0 := hw.2.1.1 r hrl
      have hk4 : M1.1 4 r = M.1 4 r := by rw [(hF 4 (by decide) (by decide)).1]
      have ho1 : M1.1 3 r = D.1 4 r := by rw [(hF 3 (by decide) (by decide)).1]; exact a2
      obtain ⟨f, hf⟩ : ∃ f : Nat, D.1 2 r = f := ⟨(D.1 2 r).toNat, by omega⟩
      have hf1 : M1.1 2 r = f := by rw [(hF 2 (by decide) (by decide)).1, a1, hf]
      have hkk := hkd r hrl
      refine g_iload_n dX10_parents_30 rfl rfl ?_
      refine g_aload_n dX10_parents_31 rfl rfl ?_
      refine g_get dX10_parents_32 fX10_114 rfl rfl ?_
      rw [hR1]
      refine g_icmp_ge (tgt := 123) dX10_parents_35 rfl (fun h35 => ?_) (fun h35 => ?_)
      · exfalso; omega
      · refine g_aload_n dX10_parents_38 rfl rfl ?_
        refine g_getr dX10_parents_39 fX10_19 rfl rfl ?_
        refine g_iload_n dX10_parents_42 rfl rfl ?_
        refine g_iald dX10_parents_43 rfl (by decide) ?_
        try simp only [Int.toNat_natCast]
        rw [hk4]
        refine g_if_ne (tgt := 117) dX10_parents_44 rfl (fun h44 => ?_) (fun h44 => ?_)
        · refine g_iinc (ls' := [some _, some _, some _]) dX10_parents_117 rfl rfl ?_
          refine g_goto (tgt := 30) dX10_parents_120 rfl ?_
          first
          | (refine ih (r + 1) (by omega) M1 hF (fun p hp2 => ?_)
             have hnb : ¬ isB D r := fun z => by
               have z1 := (hkk z.1).mpr z.2
               have z2 := z.1
               omega
             refine ⟨?_, ?_⟩
             · show _ = if isB D r ∧ _ then _ else _
               rw [if_neg (fun z => hnb z.1)]; exact (hp p hp2).1
             · show _ = if isB D r ∧ _ then _ else _
               rw [if_neg (fun z => hnb z.1)]; exact (hp p hp2).2)
          | (refine ih (r + 1) (by omega) _ (fun p p1 p2 => ?_) (fun p hp2 => ?_)
             · rw [si_1 _ _ _ _ _ p2, si_1 _ _ _ _ _ p1, si_J, si_J]; exact hF p p1 p2
             · have ef : (D.1 2 r).toNat = f := by omega
               refine ⟨?_, ?_⟩
               · show _ = if isB D r ∧ w (D.1 2 r).toNat = p then ((w ((D.1 2 r).toNat + 1) : Nat) : Int) else paR D w 1 r p
                 rw [sil, if_neg (by omega), sil]
                 by_cases h : w f = p
                 · rw [if_pos ⟨rfl, h.symm⟩, if_pos (show isB D r ∧ w (D.1 2 r).toNat = p from ⟨hb, by rw [ef]; exact h⟩), ef]
                 · rw [if_neg (fun z => h z.2.symm), if_neg (show ¬ (isB D r ∧ w (D.1 2 r).toNat = p) from fun z => h (by rw [← ef]; exact z.2))]; exact (hp p hp2).1
               · show _ = if isB D r ∧ w (D.1 2 r).toNat = p then ((w ((D.1 2 r).toNat + 2) : Nat) : Int) else paR D w 2 r p
                 rw [sil]
                 by_cases h : w f = p
                 · rw [if_pos ⟨rfl, h.symm⟩, if_pos (show isB D r ∧ w (D.1 2 r).toNat = p from ⟨hb, by rw [ef]; exact h⟩), ef]
                 · rw [if_neg (fun z => h z.2.symm), if_neg (show ¬ (isB D r ∧ w (D.1 2 r).toNat = p) from fun z => h (by rw [← ef]; exact z.2)), sil, if_neg (by omega)]; exact (hp p hp2).2)
        · refine g_aload_n dX10_parents_47 rfl rfl ?_
          refine g_getr dX10_parents_48 fX10_16 rfl rfl ?_
          refine g_iload_n dX10_parents_51 rfl rfl ?_
          refine g_iald dX10_parents_52 rfl (by decide) ?_
          try simp only [Int.toNat_natCast]
          rw [ho1]
          refine g_if_lt (tgt := 59) dX10_parents_53 rfl (fun h53 => ?_) (fun h53 => ?_)
          · have hb : isB D r := by
              have ho : D.1 4 r = -1 := by omega
              exact ⟨ho, (hkk ho).mp (by omega)⟩
            have hs3 := hb.2.1
            have w0 := hways f (by omega)
            have w1 := hways (f + 1) (by omega)
            have w2 := hways (f + 2) (by omega)
            have v0 := h14 f (by omega)
            have v1 := h14 (f + 1) (by omega)
            have v2 := h14 (f + 2) (by omega)
            have hwy : M1.1 19 = M.1 19 := (hF 19 (by decide) (by decide)).1
            refine g_aload_n dX10_parents_59 rfl rfl ?_
            refine g_getr dX10_parents_60 fX10_90 rfl rfl ?_
            refine g_aload_n dX10_parents_63 rfl rfl ?_
            refine g_iload_n dX10_parents_64 rfl rfl ?_
            refine g_aload_n dX10_parents_65 rfl rfl ?_
            refine g_getr dX10_parents_66 fX10_13 rfl rfl ?_
            refine g_iload_n dX10_parents_69 rfl rfl ?_
            refine g_iald dX10_parents_70 rfl (by decide) ?_
            try simp only [Int.toNat_natCast]
            rw [hf1]
            refine g_callVr dX10_parents_71 lX10_226 (w_X10_at (w := k) (r := f) (by omega) (by omega)) rfl rfl rfl rfl (Nat.le_of_ble_eq_true rfl) ?_
            rw [hwy, w0]
            refine g_aload_n dX10_parents_74 rfl rfl ?_
            refine g_iload_n dX10_parents_75 rfl rfl ?_
            refine g_aload_n dX10_parents_76 rfl rfl ?_
            refine g_getr dX10_parents_77 fX10_13 rfl rfl ?_
            refine g_iload_n dX10_parents_80 rfl rfl ?_
            refine g_iald dX10_parents_81 rfl (by decide) ?_
            try simp only [Int.toNat_natCast]
            rw [hf1]
            refine g_iconst dX10_parents_82 ?_
            refine g_iadd dX10_parents_83 ?_
            rw [show (f : Int) + 1 = ((f + 1 : Nat) : Int) by omega]
            refine g_callVr dX10_parents_84 lX10_226 (w_X10_at (w := k) (r := f + 1) (by omega) (by omega)) rfl rfl rfl rfl (Nat.le_of_ble_eq_true rfl) ?_
            rw [hwy, w1]
            refine g_iast dX10_parents_87 rfl (by decide) ?_
            try simp only [Int.toNat_natCast]
            refine g_aload_n dX10_parents_88 rfl rfl ?_
            refine g_getr dX10_parents_89 fX10_93 rfl rfl ?_
            refine g_aload_n dX10_parents_92 rfl rfl ?_
            refine g_iload_n dX10_parents_93 rfl rfl ?_
            refine g_aload_n dX10_parents_94 rfl rfl ?_
            refine g_getr dX10_parents_95 fX10_13 rfl rfl ?_
            refine g_iload_n dX10_parents_98 rfl rfl ?_
            refine g_iald dX10_parents_99 rfl (by decide) ?_
            try simp only [sil, sjl, Nat.reduceAdd, Nat.reduceEqDiff, eq_self, false_and, and_false, true_and, and_true, if_false, if_true, reduceIte]
            try simp only [Int.toNat_natCast]
            rw [hf1]
            refine g_callVr dX10_parents_100 lX10_226 (w_X10_at (w := k) (r := f) (by omega) (by omega)) rfl rfl rfl rfl (Nat.le_of_ble_eq_true rfl) ?_
            rw [si_1 _ _ _ _ _ (by decide), hwy, w0]
            refine g_aload_n dX10_parents_103 rfl rfl ?_
            refine g_iload_n dX10_parents_104 rfl rfl ?_
            refine g_aload_n dX10_parents_105 rfl rfl ?_
            refine g_getr dX10_parents_106 fX10_13 rfl rfl ?_
            refine g_iload_n dX10_parents_109 rfl rfl ?_
            refine g_iald dX10_parents_110 rfl (by decide) ?_
            try simp only [sil, sjl, Nat.reduceAdd, Nat.reduceEqDiff, eq_self, false_and, and_false, true_and, and_true, if_false, if_true, reduceIte]
            try simp only [Int.toNat_natCast]
            rw [hf1]
            refine g_iconst dX10_parents_111 ?_
            refine g_iadd dX10_parents_112 ?_
            rw [show (f : Int) + 2 = ((f + 2 : Nat) : Int) by omega]
            refine g_callVr dX10_parents_113 lX10_226 (w_X10_at (w := k) (r := f + 2) (by omega) (by omega)) rfl rfl rfl rfl (Nat.le_of_ble_eq_true rfl) ?_
            rw [si_1 _ _ _ _ _ (by decide), hwy, w2]
            refine g_iast dX10_parents_116 rfl (by decide) ?_
            try simp only [Int.toNat_natCast]
            refine g_iinc (ls' := [some _, some _, some _]) dX10_parents_117 rfl rfl ?_
            refine g_goto (tgt := 30) dX10_parents_120 rfl ?_
            first
            | (refine ih (r + 1) (by omega) M1 hF (fun p hp2 => ?_)
               have hnb : ¬ isB D r := fun z => by
                 have z1 := (hkk z.1).mpr z.2
                 have z2 := z.1
                 omega
               refine ⟨?_, ?_⟩
               · show _ = if isB D r ∧ _ then _ else _
                 rw [if_neg (fun z => hnb z.1)]; exact (hp p hp2).1
               · show _ = if isB D r ∧ _ then _ else _
                 rw [if_neg (fun z => hnb z.1)]; exact (hp p hp2).2)
            | (refine ih (r + 1) (by omega) _ (fun p p1 p2 => ?_) (fun p hp2 => ?_)
               · rw [si_1 _ _ _ _ _ p2, si_1 _ _ _ _ _ p1, si_J, si_J]; exact hF p p1 p2
               · have ef : (D.1 2 r).toNat = f := by omega
                 refine ⟨?_, ?_⟩
                 · show _ = if isB D r ∧ w (D.1 2 r).toNat = p then ((w ((D.1 2 r).toNat + 1) : Nat) : Int) else paR D w 1 r p
                   rw [sil, if_neg (by omega), sil]
                   by_cases h : w f = p
                   · rw [if_pos ⟨rfl, h.symm⟩, if_pos (show isB D r ∧ w (D.1 2 r).toNat = p from ⟨hb, by rw [ef]; exact h⟩), ef]
                   · rw [if_neg (fun z => h z.2.symm), if_neg (show ¬ (isB D r ∧ w (D.1 2 r).toNat = p) from fun z => h (by rw [← ef]; exact z.2))]; exact (hp p hp2).1
                 · show _ = if isB D r ∧ w (D.1 2 r).toNat = p then ((w ((D.1 2 r).toNat + 2) : Nat) : Int) else paR D w 2 r p
                   rw [sil]
                   by_cases h : w f = p
                   · rw [if_pos ⟨rfl, h.symm⟩, if_pos (show isB D r ∧ w (D.1 2 r).toNat = p from ⟨hb, by rw [ef]; exact h⟩), ef]
                   · rw [if_neg (fun z => h z.2.symm), if_neg (show ¬ (isB D r ∧ w (D.1 2 r).toNat = p) from fun z => h (by rw [← ef]; exact z.2)), sil, if_neg (by omega)]; exact (hp p hp2).2)
          · refine g_goto (tgt := 117) dX10_parents_56 rfl ?_
            refine g_iinc (ls' := [some _, some _, some _]) dX10_parents_117 rfl rfl ?_
            refine g_goto (tgt := 30) dX10_parents_120 rfl ?_
            first
            | (refine ih (r + 1) (by omega) M1 hF (fun p hp2 => ?_)
               have hnb : ¬ isB D r := fun z => by
                 have z1 := (hkk z.1).mpr z.2
                 have z2 := z.1
                 omega
               refine ⟨?_, ?_⟩
               · show _ = if isB D r ∧ _ then _ else _
                 rw [if_neg (fun z => hnb z.1)]; exact (hp p hp2).1
               · show _ = if isB D r ∧ _ then _ else _
                 rw [if_neg (fun z => hnb z.1)]; exact (hp p hp2).2)
            | (refine ih (r + 1) (by omega) _ (fun p p1 p2 => ?_) (fun p hp2 => ?_)
               · rw [si_1 _ _ _ _ _ p2, si_1 _ _ _ _ _ p1, si_J, si_J]; exact hF p p1 p2
               · have ef : (D.1 2 r).toNat = f := by omega
                 refine ⟨?_, ?_⟩
                 · show _ = if isB D r ∧ w (D.1 2 r).toNat = p then ((w ((D.1 2 r).toNat + 1) : Nat) : Int) else paR D w 1 r p
                   rw [sil, if_neg (by omega), sil]
                   by_cases h : w f = p
                   · rw [if_pos ⟨rfl, h.symm⟩, if_pos (show isB D r ∧ w (D.1 2 r).toNat = p from ⟨hb, by rw [ef]; exact h⟩), ef]
                   · rw [if_neg (fun z => h z.2.symm), if_neg (show ¬ (isB D r ∧ w (D.1 2 r).toNat = p) from fun z => h (by rw [← ef]; exact z.2))]; exact (hp p hp2).1
                 · show _ = if isB D r ∧ w (D.1 2 r).toNat = p then ((w ((D.1 2 r).toNat + 2) : Nat) : Int) else paR D w 2 r p
                   rw [sil]
                   by_cases h : w f = p
                   · rw [if_pos ⟨rfl, h.symm⟩, if_pos (show isB D r ∧ w (D.1 2 r).toNat = p from ⟨hb, by rw [ef]; exact h⟩), ef]
                   · rw [if_neg (fun z => h z.2.symm), if_neg (show ¬ (isB D r ∧ w (D.1 2 r).toNat = p) from fun z => h (by rw [← ef]; exact z.2)), sil, if_neg (by omega)]; exact (hp p hp2).2)
  have loop1 : ∀ n i : Nat, i + n = 14 → ∀ M1 : Mem, (∀ p, p ≠ 21 → p ≠ 22 → M1.1 p = M.1 p ∧ M1.2 p = M.2 p) → (∀ p, p < i → M1.1 21 p = -1 ∧ M1.1 22 p = -1) → G wdM mX10_parents (d + 1) (fun v M' => v = none ∧ (∀ p, p ≠ 21 → p ≠ 22 → M'.1 p = M.1 p ∧ M'.2 p = M.2 p) ∧ ∀ p, p < 14 → M'.1 21 p = paR D w 1 (nR D) p ∧ M'.1 22 p = paR D w 2 (nR D) p) 2 [some (vr 0), some (vi k), some (vi i)] [] M1 := by
    intro n
    induction n with
    | zero =>
      intro i hi M1 hF hp
      refine g_iload_n dX10_parents_2 rfl rfl ?_
      refine g_bipush dX10_parents_3 rfl ?_
      refine g_icmp_ge (tgt := 28) dX10_parents_5 rfl (fun h5 => ?_) (fun h5 => ?_)
      · refine g_iconst dX10_parents_28 ?_
        refine g_istore_n (ls' := [some _, some _, some _]) dX10_parents_29 rfl (by decide) rfl ?_
        exact loop2 (nR D) 0 (by unfold nR; have := hbd.1; omega) M1 hF (fun p hp2 => hp p (by omega))
      · exfalso; omega
    | succ n ih =>
      intro i hi M1 hF hp
      refine g_iload_n dX10_parents_2 rfl rfl ?_
      refine g_bipush dX10_parents_3 rfl ?_
      refine g_icmp_ge (tgt := 28) dX10_parents_5 rfl (fun h5 => ?_) (fun h5 => ?_)
      · exfalso; omega
      · refine g_aload_n dX10_parents_8 rfl rfl ?_
        refine g_getr dX10_parents_9 fX10_90 rfl rfl ?_
        refine g_iload_n dX10_parents_12 rfl rfl ?_
        refine g_iconst dX10_parents_13 ?_
        refine g_iast dX10_parents_14 rfl (by decide) ?_
        try simp only [Int.toNat_natCast]
        refine g_aload_n dX10_parents_15 rfl rfl ?_
        refine g_getr dX10_parents_16 fX10_93 rfl rfl ?_
        refine g_iload_n dX10_parents_19 rfl rfl ?_
        refine g_iconst dX10_parents_20 ?_
        refine g_iast dX10_parents_21 rfl (by decide) ?_
        try simp only [Int.toNat_natCast]
        refine g_iinc (ls' := [some _, some _, some _]) dX10_parents_22 rfl rfl ?_
        refine g_goto (tgt := 2) dX10_parents_25 rfl ?_
        refine ih (i + 1) (by omega) _ (fun p p1 p2 => ?_) (fun p hpi => ?_)
        · rw [si_1 _ _ _ _ _ p2, si_1 _ _ _ _ _ p1, si_J, si_J]; exact hF p p1 p2
        · refine ⟨?_, ?_⟩
          · rw [sil, if_neg (by omega), sil]
            by_cases h : p = i
            · subst h; rw [if_pos ⟨rfl, rfl⟩]
            · rw [if_neg (by omega)]; exact (hp p (by omega)).1
          · rw [sil]
            by_cases h : p = i
            · subst h; rw [if_pos ⟨rfl, rfl⟩]
            · rw [if_neg (by omega), sil, if_neg (by omega)]; exact (hp p (by omega)).2
  refine g_iconst dX10_parents_0 ?_
  refine g_istore_n (ls' := [some _, some _, some _]) dX10_parents_1 rfl (by decide) rfl ?_
  exact loop1 14 0 (by omega) M (fun _ _ _ => ⟨rfl, rfl⟩) (fun p hp => absurd hp (by omega))

