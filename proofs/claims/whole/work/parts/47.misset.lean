/-! MODULE 43: isSet (reference). -/
def fil (D : Mem) (s i : Nat) : List Nat := (List.range i).filter (fun o => s.testBit (D.1 5 o).toNat)
theorem fil_s (D : Mem) (s i : Nat) : fil D s (i + 1) = fil D s i ++ (if s.testBit (D.1 5 i).toNat = true then [i] else []) := ordOf_s D s i
theorem fil_no (D : Mem) (s f : Nat) : ∀ n, (∀ o, f ≤ o → o < f + n → ¬ s.testBit (D.1 5 o).toNat = true) → fil D s (f + n) = fil D s f
  | 0, _ => rfl
  | n + 1, h => by
    rw [← Nat.add_assoc, fil_s, if_neg (h (f + n) (by omega) (by omega)), List.append_nil]
    exact fil_no D s f n (fun o h1 h2 => h o h1 (by omega))
theorem fil_len (D : Mem) (s : Nat) : ∀ i, (fil D s i).length ≤ i := fun i => by
  unfold fil
  have := List.length_filter_le (fun o => s.testBit (D.1 5 o).toNat) (List.range i)
  simpa using this
def IsI (D M M1 : Mem) (s i : Nat) : Prop := MDat M M1 ∧ (∀ k, k ≠ 28 → M1.1 0 k = M.1 0 k) ∧ (∀ p, p ≠ 0 → p ≠ 15 → M1.1 p = M.1 p ∧ M1.2 p = M.2 p) ∧ M1.1 0 28 = (fil D s i).length ∧ ∀ j, j < (fil D s i).length → M1.1 15 j = ((fil D s i).getD j 0 : Nat)
theorem IsI.add {D M M1 : Mem} {s i : Nat} (h : IsI D M M1 s i) (hb : s.testBit (D.1 5 i).toNat = true) : IsI D M (si (si M1 15 (fil D s i).length i) 0 28 ((fil D s i).length + 1)) s (i + 1) := by
  obtain ⟨h1, h2, h3, h4, h5⟩ := h
  have e : fil D s (i + 1) = fil D s i ++ [i] := by rw [fil_s, if_pos hb]
  refine ⟨(h1.si _ _ _).si _ _ _, fun k hk => ?_, fun p p1 p2 => ?_, ?_, fun j hj => ?_⟩
  · rw [sil, if_neg (by omega), sil, if_neg (by omega)]; exact h2 k hk
  · rw [si_1 _ _ _ _ _ p1, si_1 _ _ _ _ _ p2]; exact h3 p p1 p2
  · rw [sil, if_pos ⟨rfl, rfl⟩, e]; simp
  · rw [e, getD_app1]
    rw [e, List.length_append, List.length_singleton] at hj
    rw [si_1 _ _ _ _ _ (by decide), sil]
    by_cases hjl : j < (fil D s i).length
    · rw [if_pos hjl, if_neg (by omega)]; exact h5 j hjl
    · have hje : j = (fil D s i).length := by omega
      rw [if_neg hjl, if_pos hje]
      exact if_pos ⟨rfl, hje⟩
/-- where record r begins, or the rows end -/
def bg (D : Mem) (r : Nat) : Nat := if (r : Int) < D.1 1 10 then (D.1 2 r).toNat else nN D
theorem bg_m {D M : Mem} (hw : Wf D) (hr : DR D M) {r : Nat} (h : (r : Int) ≤ D.1 1 10) : M.1 2 r = (bg D r : Nat) ∧ bg D r ≤ 14 := by
  obtain ⟨b1, b2, b3, b4⟩ := hw.1
  unfold bg
  by_cases h2 : (r : Int) < D.1 1 10
  · rw [if_pos h2, (hr.1.2.2.1 r h2).1]
    have := hw.2.1.1 r h2
    omega
  · rw [if_neg h2, show r = nR D by unfold nR; omega, hr.1.2.2.2]
    unfold nN
    omega
theorem bg_s {D : Mem} (hw : Wf D) {r : Nat} (h : (r : Int) < D.1 1 10) : (bg D (r + 1) : Int) = D.1 2 r + D.1 3 r ∧ (bg D r : Int) = D.1 2 r := by
  obtain ⟨b1, b2, b3, b4⟩ := hw.1
  have h0 := hw.2.1.1 r h
  unfold bg
  rw [if_pos h]
  refine ⟨?_, by omega⟩
  by_cases h2 : ((r + 1 : Nat) : Int) < D.1 1 10
  · rw [if_pos h2]
    have := hw.2.1.2.1 r (by omega)
    omega
  · rw [if_neg h2]
    have := hw.2.1.2.2.2.2 r (by omega)
    unfold nN
    omega
theorem bg_rec {D : Mem} (hw : Wf D) {r o : Nat} (h : (r : Int) < D.1 1 10) (h1 : bg D r ≤ o) (h2 : o < bg D (r + 1)) : D.1 5 o = r := by
  obtain ⟨e1, e2⟩ := bg_s hw h
  have h0 := hw.2.1.1 r h
  exact rec_uniq hw h (by omega) (by omega) (by omega)
theorem w_X10_isSet {d : Nat} {D M : Mem} {s : Nat} (hs : s < 256) (hw : Wf D) (hr : DR D M) : WP wdM d mX10_isSet [vr 0, vi s] M (fun v M' => v = some (vi (bi (Closed D s))) ∧ MDat M M' ∧ (∀ k, k ≠ 28 → M'.1 0 k = M.1 0 k) ∧ (∀ p, p ≠ 0 → p ≠ 15 → M'.1 p = M.1 p ∧ M'.2 p = M.2 p) ∧ (Closed D s → M'.1 0 28 = (ordOf D s).length ∧ ∀ j, j < (ordOf D s).length → M'.1 15 j = ((ordOf D s).getD j 0 : Nat))) := by
  refine wp_of (by decide +kernel) (Nat.le_of_ble_eq_true rfl) ?_
  obtain ⟨t1, t2, t3, t4⟩ := hr.bd hw
  have hrec := hr.1.1
  have outer : ∀ n r : Nat, (r : Int) + n = D.1 1 10 → ∀ (M1 : Mem) (x3 : Option AV), IsI D M M1 s (bg D r) → (∀ i, i < r → s.testBit i = true → D.1 4 i ≠ -1 → s.testBit (D.1 4 i).toNat = true) → G wdM mX10_isSet d (fun v M' => v = some (vi (bi (Closed D s))) ∧ MDat M M' ∧ (∀ k, k ≠ 28 → M'.1 0 k = M.1 0 k) ∧ (∀ p, p ≠ 0 → p ≠ 15 → M'.1 p = M.1 p ∧ M'.2 p = M.2 p) ∧ (Closed D s → M'.1 0 28 = (ordOf D s).length ∧ ∀ j, j < (ordOf D s).length → M'.1 15 j = ((ordOf D s).getD j 0 : Nat))) 7 [some (vr 0), some (vi s), some (vi r), x3] [] M1 := by
    intro n
    induction n with
    | zero =>
      intro r hrr M1 x3 hI hcl
      have hr1 := hr.dat hI.1
      have hR1 : M1.1 0 12 = D.1 1 10 := hr1.1.1
      have hbg : bg D r = nN D := by unfold bg; rw [if_neg (by omega)]
      rw [hbg] at hI
      obtain ⟨i1, i2, i3, i4, i5⟩ := hI
      refine g_iload_n dX10_isSet_7 rfl rfl ?_
      refine g_aload_n dX10_isSet_8 rfl rfl ?_
      refine g_get dX10_isSet_9 fX10_114 rfl rfl ?_
      rw [hR1]
      refine g_icmp_ge (tgt := 101) dX10_isSet_12 rfl (fun h12 => ?_) (fun h12 => ?_)
      · refine g_iconst dX10_isSet_101 ?_
        refine g_zret dX10_isSet_102 rfl ?_
        have hc : Closed D s := fun i hi hb ho => hcl i (by omega) hb ho
        exact ⟨by rw [bi_t hc], i1, i2, i3, fun _ => ⟨i4, i5⟩⟩
      · exfalso; omega
    | succ n ih =>
      intro r hrr M1 x3 hI hcl
      have hr1 := hr.dat hI.1
      have hR1 : M1.1 0 12 = D.1 1 10 := hr1.1.1
      have hrl : (r : Int) < D.1 1 10 := by omega
      have ho1 := (hr1.1.2.2.1 r hrl).2.1
      have hwc := hw.2.2.2.1 r hrl
      obtain ⟨e1, e2⟩ := bg_s hw hrl
      obtain ⟨z1, z2⟩ := bg_m hw hr1 (r := r) (by omega)
      obtain ⟨z3, z4⟩ := bg_m hw hr1 (r := r + 1) (by omega)
      have h0 := hw.2.1.1 r hrl
      have inner : s.testBit r = true → (D.1 4 r ≠ -1 → s.testBit (D.1 4 r).toNat = true) → ∀ m o : Nat, o + m = bg D (r + 1) → bg D r ≤ o → ∀ M2 : Mem, IsI D M M2 s o → G wdM mX10_isSet d (fun v M' => v = some (vi (bi (Closed D s))) ∧ MDat M M' ∧ (∀ k, k ≠ 28 → M'.1 0 k = M.1 0 k) ∧ (∀ p, p ≠ 0 → p ≠ 15 → M'.1 p = M.1 p ∧ M'.2 p = M.2 p) ∧ (Closed D s → M'.1 0 28 = (ordOf D s).length ∧ ∀ j, j < (ordOf D s).length → M'.1 15 j = ((ordOf D s).getD j 0 : Nat))) 57 [some (vr 0), some (vi s), some (vi r), some (vi o)] [] M2 := by
        intro hb hcr m
        induction m with
        | zero =>
          intro o ho hbo M2 hI2
          obtain rfl : o = bg D (r + 1) := by omega
          have z5 := (bg_m hw (hr.dat hI2.1) (r := r + 1) (by omega)).1
          have er : ((r : Int) + 1).toNat = r + 1 := by omega
          refine g_iload_n dX10_isSet_57 rfl rfl ?_
          refine g_aload_n dX10_isSet_58 rfl rfl ?_
          refine g_getr dX10_isSet_59 fX10_13 rfl rfl ?_
          refine g_iload_n dX10_isSet_62 rfl rfl ?_
          refine g_iconst dX10_isSet_63 ?_
          refine g_iadd dX10_isSet_64 ?_
          refine g_iald dX10_isSet_65 rfl (by decide) ?_
          try simp only [Int.toNat_natCast]
          rw [er, z5]
          refine g_icmp_ge (tgt := 95) dX10_isSet_66 rfl (fun h66 => ?_) (fun h66 => ?_)
          · refine g_iinc (ls' := [some _, some _, some _, some _]) dX10_isSet_95 rfl rfl ?_
            refine g_goto (tgt := 7) dX10_isSet_98 rfl ?_
            refine ih (r + 1) (by omega) M2 _ hI2 (fun i hi hbi hoi => ?_)
            by_cases hir : i = r
            · subst hir; exact hcr hoi
            · exact hcl i (by omega) hbi hoi
          · exfalso; omega
        | succ m ihm =>
          intro o ho hbo M2 hI2
          have z5 := (bg_m hw (hr.dat hI2.1) (r := r + 1) (by omega)).1
          have er : ((r : Int) + 1).toNat = r + 1 := by omega
          have hlen := fil_len D s o
          have h28 := hI2.2.2.2.1
          have hrco := bg_rec hw hrl hbo (by omega)
          refine g_iload_n dX10_isSet_57 rfl rfl ?_
          refine g_aload_n dX10_isSet_58 rfl rfl ?_
          refine g_getr dX10_isSet_59 fX10_13 rfl rfl ?_
          refine g_iload_n dX10_isSet_62 rfl rfl ?_
          refine g_iconst dX10_isSet_63 ?_
          refine g_iadd dX10_isSet_64 ?_
          refine g_iald dX10_isSet_65 rfl (by decide) ?_
          try simp only [Int.toNat_natCast]
          rw [er, z5]
          refine g_icmp_ge (tgt := 95) dX10_isSet_66 rfl (fun h66 => ?_) (fun h66 => ?_)
          · exfalso; omega
          · refine g_aload_n dX10_isSet_69 rfl rfl ?_
            refine g_getr dX10_isSet_70 fX10_70 rfl rfl ?_
            refine g_aload_n dX10_isSet_73 rfl rfl ?_
            refine g_get dX10_isSet_74 fX10_173 rfl rfl ?_
            rw [h28]
            refine g_iload_n dX10_isSet_77 rfl rfl ?_
            
            refine g_iast dX10_isSet_78 rfl (by decide) ?_
            try simp only [Int.toNat_natCast]
            refine g_aload_n dX10_isSet_79 rfl rfl ?_
            refine g_dup dX10_isSet_80 rfl ?_
            refine g_get dX10_isSet_81 fX10_173 rfl rfl ?_
            try simp only [sil, sjl, Nat.reduceAdd, Nat.reduceEqDiff, eq_self, false_and, and_false, true_and, and_true, if_false, if_true, reduceIte]
            try rw [h28]
            refine g_iconst dX10_isSet_84 ?_
            refine g_iadd dX10_isSet_85 ?_
            refine g_puti dX10_isSet_86 fX10_173 rfl rfl rfl (tyX10_ok 28 (by decide)) ?_
            refine g_iinc (ls' := [some _, some _, some _, some _]) dX10_isSet_89 rfl rfl ?_
            refine g_goto (tgt := 57) dX10_isSet_92 rfl ?_
            try rw [Int.toNat_natCast]
            exact ihm (o + 1) (by omega) (by omega) _ (hI2.add (by rw [hrco, Int.toNat_natCast]; exact hb))
      refine g_iload_n dX10_isSet_7 rfl rfl ?_
      refine g_aload_n dX10_isSet_8 rfl rfl ?_
      refine g_get dX10_isSet_9 fX10_114 rfl rfl ?_
      rw [hR1]
      refine g_icmp_ge (tgt := 101) dX10_isSet_12 rfl (fun h12 => ?_) (fun h12 => ?_)
      · exfalso; omega
      · refine g_iload_n dX10_isSet_15 rfl rfl ?_
        refine g_iload_n dX10_isSet_16 rfl rfl ?_
        refine g_ishr dX10_isSet_17 ?_
        refine g_iconst dX10_isSet_18 ?_
        refine g_iand dX10_isSet_19 ?_
        rw [bit_1 (by omega) (by omega)]
        have hb01 : (if s.testBit r then (1 : Int) else 0) = 0 ∨ (if s.testBit r then (1 : Int) else 0) = 1 := by split <;> simp
        refine g_if_ne (tgt := 26) dX10_isSet_20 rfl (fun h20 => ?_) (fun h20 => ?_)
        · have hb : s.testBit r = true := by
            cases hx : s.testBit r with
            | true => rfl
            | false => rw [hx] at h20; exact absurd rfl h20
          refine g_aload_n dX10_isSet_26 rfl rfl ?_
          refine g_getr dX10_isSet_27 fX10_16 rfl rfl ?_
          refine g_iload_n dX10_isSet_30 rfl rfl ?_
          refine g_iald dX10_isSet_31 rfl (by decide) ?_
          try simp only [Int.toNat_natCast]
          rw [ho1]
          refine g_if_lt (tgt := 50) dX10_isSet_32 rfl (fun h32 => ?_) (fun h32 => ?_)
          · refine g_aload_n dX10_isSet_50 rfl rfl ?_
            refine g_getr dX10_isSet_51 fX10_13 rfl rfl ?_
            refine g_iload_n dX10_isSet_54 rfl rfl ?_
            refine g_iald dX10_isSet_55 rfl (by decide) ?_
            try simp only [Int.toNat_natCast]
            rw [z1]
            refine g_istore_n (ls' := [some _, some _, some _, some _]) dX10_isSet_56 rfl (by decide) rfl ?_
            refine inner hb (fun z => ?_) (bg D (r + 1) - bg D r) (bg D r) (by omega) (Nat.le_refl _) M1 hI
            first
            | (exfalso; omega)
            | (refine Classical.byContradiction fun q => ?_
               rw [if_neg q] at h45
               exact h45 rfl)
          · refine g_iload_n dX10_isSet_35 rfl rfl ?_
            refine g_aload_n dX10_isSet_36 rfl rfl ?_
            refine g_getr dX10_isSet_37 fX10_16 rfl rfl ?_
            refine g_iload_n dX10_isSet_40 rfl rfl ?_
            refine g_iald dX10_isSet_41 rfl (by decide) ?_
            try simp only [Int.toNat_natCast]
            rw [ho1, show D.1 4 r = ((D.1 4 r).toNat : Int) by omega]
            refine g_ishr dX10_isSet_42 ?_
            refine g_iconst dX10_isSet_43 ?_
            refine g_iand dX10_isSet_44 ?_
            rw [bit_1 (by omega) (by omega)]
            refine g_if_ne (tgt := 50) dX10_isSet_45 rfl (fun h45 => ?_) (fun h45 => ?_)
            · refine g_aload_n dX10_isSet_50 rfl rfl ?_
              refine g_getr dX10_isSet_51 fX10_13 rfl rfl ?_
              refine g_iload_n dX10_isSet_54 rfl rfl ?_
              refine g_iald dX10_isSet_55 rfl (by decide) ?_
              try simp only [Int.toNat_natCast]
              rw [z1]
              refine g_istore_n (ls' := [some _, some _, some _, some _]) dX10_isSet_56 rfl (by decide) rfl ?_
              refine inner hb (fun z => ?_) (bg D (r + 1) - bg D r) (bg D r) (by omega) (Nat.le_refl _) M1 hI
              first
              | (exfalso; omega)
              | (refine Classical.byContradiction fun q => ?_
                 rw [if_neg q] at h45
                 exact h45 rfl)
            · refine g_iconst dX10_isSet_48 ?_
              refine g_zret dX10_isSet_49 rfl ?_
              have hb2 : ¬ s.testBit (D.1 4 r).toNat = true := fun z => by rw [if_pos z] at h45; exact absurd h45 (by decide)
              have hc : ¬ Closed D s := fun z => hb2 (z r (by omega) hb (by omega))
              exact ⟨by rw [bi_f hc], hI.1, hI.2.1, hI.2.2.1, fun z => absurd z hc⟩
        · have hb : ¬ s.testBit r = true := fun z => by rw [z] at h20; exact absurd h20 (by decide)
          refine g_goto (tgt := 95) dX10_isSet_23 rfl ?_
          refine g_iinc (ls' := [some _, some _, some _, _]) dX10_isSet_95 rfl rfl ?_
          refine g_goto (tgt := 7) dX10_isSet_98 rfl ?_
          refine ih (r + 1) (by omega) M1 _ ?_ (fun i hi hbi hoi => ?_)
          · have hz := fil_no D s (bg D r) (bg D (r + 1) - bg D r) (fun o o1 o2 => by rw [bg_rec hw hrl o1 (by omega), Int.toNat_natCast]; exact hb)
            rw [show bg D r + (bg D (r + 1) - bg D r) = bg D (r + 1) by omega] at hz
            unfold IsI at hI ⊢
            rw [hz]; exact hI
          · by_cases hir : i = r
            · subst hir; exact absurd hbi hb
            · exact hcl i (by omega) hbi hoi
  refine g_aload_n dX10_isSet_0 rfl rfl ?_
  refine g_iconst dX10_isSet_1 ?_
  refine g_puti dX10_isSet_2 fX10_173 rfl rfl rfl (tyX10_ok 28 (by decide)) ?_
  refine g_iconst dX10_isSet_5 ?_
  refine g_istore_n (ls' := [some _, some _, some _, _]) dX10_isSet_6 rfl (by decide) rfl ?_
  have hb0 : bg D 0 = 0 := by
    unfold bg nN
    split
    · next h => have := hw.2.1.2.2.1 h; omega
    · next h => have := hw.2.1.2.2.2.1 (by omega); omega
  refine outer (nR D) 0 (by unfold nR; omega) _ _ ?_ (fun i hi => absurd hi (by omega))
  rw [hb0]
  exact ⟨MDat.rf.si _ _ _, fun k hk => by rw [sil, if_neg (by omega)], fun p p1 p2 => ⟨si_1 _ _ _ _ _ p1, rfl⟩, by rw [sil, if_pos ⟨rfl, rfl⟩]; rfl, fun j hj => absurd hj (by show ¬ j < 0; omega)⟩

