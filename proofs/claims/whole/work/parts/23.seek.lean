/-! MODULE 19: seek, of both seekers; what is read of the ways. -/
theorem dig_lt (x : Int64) (r : Nat) : dig x r < 16 := Nat.mod_lt _ (by decide)
def firstB (P : Nat → Bool) : Nat → Nat → Int
  | 0, _ => -1
  | n + 1, k => if P k = true then k else firstB P n (k + 1)
theorem and_bit (s i : Nat) : s &&& 2 ^ i = 0 ↔ ¬ s.testBit i = true := by
  constructor
  · intro h ht
    have := congrArg (fun x => Nat.testBit x i) h
    simp [Nat.testBit_and, Nat.testBit_two_pow, ht] at this
  · intro h
    apply Nat.eq_of_testBit_eq
    intro j
    rw [Nat.testBit_and, Nat.testBit_two_pow, Nat.zero_testBit]
    by_cases hj : i = j
    · subst hj
      simp [Bool.eq_false_iff.mpr h]
    · simp [hj]
theorem bit14 : ∀ c : Fin 14, Nat.testBit 16383 c.val = true := by decide
theorem ordOf_s (D : Mem) (s i : Nat) : (List.range (i + 1)).filter (fun o => s.testBit (D.1 5 o).toNat) = (List.range i).filter (fun o => s.testBit (D.1 5 o).toNat) ++ (if s.testBit (D.1 5 i).toNat = true then [i] else []) := by
  rw [List.range_succ, List.filter_append]
  congr 1
  by_cases h : s.testBit (D.1 5 i).toNat = true <;> simp [h]
theorem getD_app1 {l : List Nat} {x j : Nat} : (l ++ [x]).getD j 0 = if j < l.length then l.getD j 0 else if j = l.length then x else 0 := by
  rw [List.getD_eq_getElem?_getD, List.getD_eq_getElem?_getD]
  by_cases h : j < l.length
  · rw [if_pos h, List.getElem?_append_left h]
  · rw [if_neg h, List.getElem?_append_right (by omega)]
    by_cases h2 : j = l.length
    · subst h2; simp
    · rw [if_neg h2, List.getElem?_eq_none (by simp; omega)]; rfl

theorem w_seek_W {d : Nat} {M : Mem} {s : Nat} (hw : Wf M) (hT : Tab M) (hs : s < 256) (hO : OrdOK M (ordOf M s)) : WP wdC (d + 18) mX6_seek [vr 24, vi s] M (fun v M' => v = none ∧ Fr 24 (24 + 20) M M' ∧ RInv 24 3000 (ordOf M s) M' (seekP M (ordOf M s))) := by
  refine wp_of (by decide +kernel) (Nat.le_of_ble_eq_true rfl) ?_
  have hl14 := ord_len hw hO
  obtain ⟨⟨hR0, hR8, hN0, hN14⟩, hwR, hwO, hwC, hwD, hwV, hwL⟩ := id hw
  have loop : ∀ n i : Nat, i + n = nN M → ∀ M1 : Mem, Fr 24 (24 + 20) M M1 → M1.1 24 9 = ((List.range i).filter (fun o => s.testBit (M.1 5 o).toNat)).length → (∀ j, j < ((List.range i).filter (fun o => s.testBit (M.1 5 o).toNat)).length → M1.1 25 j = (((List.range i).filter (fun o => s.testBit (M.1 5 o).toNat)).getD j 0 : Nat)) → G wdC mX6_seek (d + 18) (fun v M' => v = none ∧ Fr 24 (24 + 20) M M' ∧ RInv 24 3000 (ordOf M s) M' (seekP M (ordOf M s))) 7 [some (vr 24), some (vi s), some (vi i)] [] M1 := by
    intro n
    induction n with
    | zero =>
      intro i hi M1 hF h1 h2
      have hi : i = nN M := by omega
      subst hi
      have hN : M1.1 1 11 = M.1 1 11 := by rw [(hF 1 (Or.inl (by decide))).1]
      unfold nN at *
      refine g_iload_n dX6_seek_7 rfl rfl ?_
      refine g_aload_n dX6_seek_8 rfl rfl ?_
      refine g_getr dX6_seek_9 fX6_50 rfl rfl ?_
      refine g_get dX6_seek_12 fX6_74 rfl rfl ?_
      refine g_icmp_ge (tgt := 63) dX6_seek_15 rfl (fun h15 => ?_) (fun h15 => ?_)
      · refine g_aload_n dX6_seek_63 rfl rfl ?_
        refine g_getr dX6_seek_64 fX6_18 rfl rfl ?_
        refine g_sipush dX6_seek_67 rfl ?_
        refine g_callS dX6_seek_70 lX6_83 (w_fill (p := 27) (n := 14) rfl (by decide)) rfl rfl (Nat.le_of_ble_eq_true rfl) ?_
        rintro v M2 ⟨rfl, q1, q2, q3⟩
        show G _ _ _ _ _ _ [] M2
        refine g_aload_n dX6_seek_73 rfl rfl ?_
        refine g_getr dX6_seek_74 fX6_63 rfl rfl ?_
        refine g_iconst dX6_seek_77 ?_
        refine g_puti dX6_seek_78 fX6_89 rfl rfl rfl (tyX4_ok 13 (by decide)) ?_
        refine g_aload_n dX6_seek_81 rfl rfl ?_
        refine g_iconst dX6_seek_82 ?_
        refine g_puti dX6_seek_83 fX6_28 rfl rfl rfl (tyX6_ok 10 (by decide)) ?_
        refine g_aload_n dX6_seek_86 rfl rfl ?_
        refine g_iconst dX6_seek_87 ?_
        refine g_puti dX6_seek_88 fX6_31 rfl rfl rfl (tyX6_ok 11 (by decide)) ?_
        refine g_aload_n dX6_seek_91 rfl rfl ?_
        refine g_iconst dX6_seek_92 ?_
        refine g_puti dX6_seek_93 fX6_34 rfl rfl rfl (tyX6_ok 12 (by decide)) ?_
        refine g_aload_n dX6_seek_96 rfl rfl ?_
        refine g_iconst dX6_seek_97 ?_
        refine g_putz dX6_seek_98 fX6_37 rfl rfl rfl (tyX6_ok 13 (by decide)) ?_
        have hF3 : Fr 24 (24 + 20) M (si (si (si (si (si M2 29 13 0) 24 10 0) 24 11 0) 24 12 0) 24 13 0) :=
          hF.tr (((((Fr.si (fun p hp => ⟨q2 p (by omega), by rw [q1]⟩) _ _ _).si _ _ _).si _ _ _).si _ _ _).si _ _ _)
        have hS : SInv 24 3000 M (ordOf M s) [] 0 0 (si (si (si (si (si M2 29 13 0) 24 10 0) 24 11 0) 24 12 0) 24 13 0) R0 := by
          refine ⟨hF3.dat (by decide), TabD.fr ⟨hT.1, hT.2.1, hT.2.2⟩ hF3 (by decide), ⟨?_, fun j hj => ?_⟩, rfl, rfl, fun q' hq' => absurd hq' (by omega), fun x hx => (by cases hx), rfl, rfl, rfl, by decide, by decide, fun k hk => absurd hk (by simp [R0]), fun t ht => ?_⟩
          · show M2.1 24 9 = _
            rw [q2 24 (by decide)]; exact h1
          · show M2.1 25 j = _
            rw [q2 25 (by decide)]; exact h2 j hj
          · have ht14 : t < 14 := by have := hO.1 t ht; omega
            have e : (si (si (si (si (si M2 29 13 0) 24 10 0) 24 11 0) 24 12 0) 24 13 0).1 (24 + 3) t = 16383 := q3 t ht14
            rw [e]
            refine ⟨by decide, by decide, fun c hc => ?_⟩
            have hc14 : c < 14 := by have := hO.1 c hc; omega
            exact ⟨fun _ w hw => (by cases hw), fun _ => bit14 ⟨c, hc14⟩⟩
        have hplace := w_place_W hw hO (d + (14 - (ordOf M s).length)) (ordOf M s) [] 0 0 _ R0 ⟨rfl, fun x hx => (by cases hx), Nat.le_refl _, by decide, by have := hwL.2.1; unfold budgetOK at this; omega⟩ hS
        rw [show d + (14 - (ordOf M s).length) + (ordOf M s).length + 3 = d + 17 by omega] at hplace
        refine g_aload_n dX6_seek_101 rfl rfl ?_
        refine g_iconst dX6_seek_102 ?_
        refine g_callS dX6_seek_103 lX6_90 (hplace) rfl rfl (Nat.le_of_ble_eq_true rfl) ?_
        rintro v M5 ⟨rfl, f1, f2, f3⟩
        show G _ _ _ _ _ _ [] M5
        refine g_vret dX6_seek_106 rfl ?_
        obtain ⟨z1, z2, z3, z4, z5, z6, z7, z8⟩ := f3
        exact ⟨rfl, hF3.tr f1, z8⟩
      · exfalso; omega
    | succ n ih =>
      intro i hi M1 hF h1 h2
      have hA : M1.1 1 = M.1 1 := (hF 1 (Or.inl (by decide))).1
      have hRo : M1.1 5 = M.1 5 := (hF 5 (Or.inl (by decide))).1
      have hN : M1.1 1 11 = M.1 1 11 := by rw [hA]
      have hiN : (i : Int) < M.1 1 11 := by unfold nN at hi; omega
      have ho := hwO i hiN
      have hlen : ((List.range i).filter (fun o => s.testBit (M.1 5 o).toNat)).length ≤ i := by
        have := List.length_filter_le (fun o => s.testBit (M.1 5 o).toNat) (List.range i)
        rwa [List.length_range] at this
      have hbit : (if 0 ≤ (i : Int) ∧ (i : Int) < M1.1 1 11 then shl 1 (M1.1 5 (i : Int).toNat) else 0) = ((2 ^ (M.1 5 i).toNat : Nat) : Int) := by
        rw [if_pos ⟨by omega, by omega⟩, Int.toNat_natCast, hRo, ← shl_1 (by omega)]
        congr 1
        omega
      have h2p : (2 : Nat) ^ (M.1 5 i).toNat < 256 := Nat.lt_of_lt_of_le (Nat.pow_lt_pow_right (by decide) (show (M.1 5 i).toNat < 8 by omega)) (by decide)
      have hle : s &&& 2 ^ (M.1 5 i).toNat ≤ s := Nat.and_le_left
      refine g_iload_n dX6_seek_7 rfl rfl ?_
      refine g_aload_n dX6_seek_8 rfl rfl ?_
      refine g_getr dX6_seek_9 fX6_50 rfl rfl ?_
      refine g_get dX6_seek_12 fX6_74 rfl rfl ?_
      refine g_icmp_ge (tgt := 63) dX6_seek_15 rfl (fun h15 => ?_) (fun h15 => ?_)
      · exfalso; omega
      · refine g_iload_n dX6_seek_18 rfl rfl ?_
        refine g_bipush dX6_seek_19 rfl ?_
        refine g_icmp_ge (tgt := 63) dX6_seek_21 rfl (fun h21 => ?_) (fun h21 => ?_)
        · exfalso; omega
        · refine g_iload_n dX6_seek_24 rfl rfl ?_
          refine g_aload_n dX6_seek_25 rfl rfl ?_
          refine g_getr dX6_seek_26 fX6_50 rfl rfl ?_
          refine g_iload_n dX6_seek_29 rfl rfl ?_
          refine g_callVr dX6_seek_30 lX6_79 (w_X0_bitOf (M := M1) (by omega) (by omega) (by rw [hA]; exact hR0) (by rw [hA]; exact hR8) (by rw [hA]; exact hN0) (by rw [hA]; exact hN14)) rfl rfl rfl rfl (Nat.le_of_ble_eq_true rfl) ?_
          rw [hbit]
          refine g_iand dX6_seek_33 ?_
          rw [band_nat (by omega) (by omega)]
          have hr0 : 0 ≤ ((s &&& 2 ^ (M.1 5 i).toNat : Nat) : Int) := by omega
          refine g_if_eq (tgt := 57) dX6_seek_34 rfl (fun h34 => ?_) (fun h34 => ?_)
          · refine g_iinc (ls' := [some _, some _, some _]) dX6_seek_57 rfl rfl ?_
            refine g_goto (tgt := 7) dX6_seek_60 rfl ?_
            have hf := ordOf_s M s i
            have h34 : (s &&& 2 ^ (M.1 5 i).toNat = 0) ∨ ¬ (s &&& 2 ^ (M.1 5 i).toNat = 0) := by omega
            first
              | (have ht : ¬ s.testBit (M.1 5 i).toNat = true := (and_bit _ _).mp (by omega)
                 rw [if_neg ht, List.append_nil] at hf
                 exact ih (i + 1) (by omega) M1 hF (by rw [hf]; exact h1) (by rw [hf]; exact h2))
              | (have ht : s.testBit (M.1 5 i).toNat = true := by
                   by_cases hz : s.testBit (M.1 5 i).toNat = true
                   · exact hz
                   · have := (and_bit _ _).mpr hz
                     omega
                 rw [if_pos ht] at hf
                 rw [h1]
                 simp only [Int.toNat_natCast]
                 refine ih (i + 1) (by omega) _ ((hF.si _ _ _).si _ _ _) ?_ (fun j hj => ?_)
                 · rw [si_eq, hf, List.length_append, List.length_singleton]; omega
                 · rw [hf, List.length_append, List.length_singleton] at hj
                   rw [hf, getD_app1, sil, if_neg (by omega), sil]
                   by_cases hjl : j < ((List.range i).filter (fun o => s.testBit (M.1 5 o).toNat)).length
                   · rw [if_neg (by omega), if_pos hjl]; exact h2 j hjl
                   · rw [if_pos (by omega), if_neg hjl, if_pos (by omega)])
          · refine g_aload_n dX6_seek_37 rfl rfl ?_
            refine g_getr dX6_seek_38 fX6_9 rfl rfl ?_
            refine g_aload_n dX6_seek_41 rfl rfl ?_
            refine g_get dX6_seek_42 fX6_24 rfl rfl ?_
            try simp only [sil, sjl, Nat.reduceAdd, Nat.reduceEqDiff, eq_self, false_and, and_false, true_and, and_true, if_false, if_true, reduceIte]
            refine g_iload_n dX6_seek_45 rfl rfl ?_
            refine g_iast dX6_seek_46 rfl (by decide) ?_
            try simp only [Int.toNat_natCast]
            refine g_aload_n dX6_seek_47 rfl rfl ?_
            refine g_dup dX6_seek_48 rfl ?_
            refine g_get dX6_seek_49 fX6_24 rfl rfl ?_
            try simp only [sil, sjl, Nat.reduceAdd, Nat.reduceEqDiff, eq_self, false_and, and_false, true_and, and_true, if_false, if_true, reduceIte]
            refine g_iconst dX6_seek_52 ?_
            refine g_iadd dX6_seek_53 ?_
            refine g_puti dX6_seek_54 fX6_24 rfl rfl rfl (tyX6_ok 9 (by decide)) ?_
            refine g_iinc (ls' := [some _, some _, some _]) dX6_seek_57 rfl rfl ?_
            refine g_goto (tgt := 7) dX6_seek_60 rfl ?_
            have hf := ordOf_s M s i
            have h34 : (s &&& 2 ^ (M.1 5 i).toNat = 0) ∨ ¬ (s &&& 2 ^ (M.1 5 i).toNat = 0) := by omega
            first
              | (have ht : ¬ s.testBit (M.1 5 i).toNat = true := (and_bit _ _).mp (by omega)
                 rw [if_neg ht, List.append_nil] at hf
                 exact ih (i + 1) (by omega) M1 hF (by rw [hf]; exact h1) (by rw [hf]; exact h2))
              | (have ht : s.testBit (M.1 5 i).toNat = true := by
                   by_cases hz : s.testBit (M.1 5 i).toNat = true
                   · exact hz
                   · have := (and_bit _ _).mpr hz
                     omega
                 rw [if_pos ht] at hf
                 rw [h1]
                 simp only [Int.toNat_natCast]
                 refine ih (i + 1) (by omega) _ ((hF.si _ _ _).si _ _ _) ?_ (fun j hj => ?_)
                 · rw [si_eq, hf, List.length_append, List.length_singleton]; omega
                 · rw [hf, List.length_append, List.length_singleton] at hj
                   rw [hf, getD_app1, sil, if_neg (by omega), sil]
                   by_cases hjl : j < ((List.range i).filter (fun o => s.testBit (M.1 5 o).toNat)).length
                   · rw [if_neg (by omega), if_pos hjl]; exact h2 j hjl
                   · rw [if_pos (by omega), if_neg hjl, if_pos (by omega)])
  refine g_aload_n dX6_seek_0 rfl rfl ?_
  refine g_iconst dX6_seek_1 ?_
  refine g_puti dX6_seek_2 fX6_24 rfl rfl rfl (tyX6_ok 9 (by decide)) ?_
  refine g_iconst dX6_seek_5 ?_
  refine g_istore_n (ls' := [some _, some _, some _]) dX6_seek_6 rfl (by decide) rfl ?_
  exact loop (nN M) 0 (by omega) _ (Fr.rf.si _ _ _) rfl (fun j hj => absurd hj (by simp))

theorem w_seek_V {d : Nat} {M : Mem} {s : Nat} (hw : Wf M) (hT : Tab M) (hs : s < 256) (hO : OrdOK M (ordOf M s)) : WP wdC (d + 18) mX6_seek [vr 45, vi s] M (fun v M' => v = none ∧ Fr 45 (45 + 20) M M' ∧ RInv 45 0 (ordOf M s) M' (seekP M (ordOf M s))) := by
  refine wp_of (by decide +kernel) (Nat.le_of_ble_eq_true rfl) ?_
  have hl14 := ord_len hw hO
  obtain ⟨⟨hR0, hR8, hN0, hN14⟩, hwR, hwO, hwC, hwD, hwV, hwL⟩ := id hw
  have loop : ∀ n i : Nat, i + n = nN M → ∀ M1 : Mem, Fr 45 (45 + 20) M M1 → M1.1 45 9 = ((List.range i).filter (fun o => s.testBit (M.1 5 o).toNat)).length → (∀ j, j < ((List.range i).filter (fun o => s.testBit (M.1 5 o).toNat)).length → M1.1 46 j = (((List.range i).filter (fun o => s.testBit (M.1 5 o).toNat)).getD j 0 : Nat)) → G wdC mX6_seek (d + 18) (fun v M' => v = none ∧ Fr 45 (45 + 20) M M' ∧ RInv 45 0 (ordOf M s) M' (seekP M (ordOf M s))) 7 [some (vr 45), some (vi s), some (vi i)] [] M1 := by
    intro n
    induction n with
    | zero =>
      intro i hi M1 hF h1 h2
      have hi : i = nN M := by omega
      subst hi
      have hN : M1.1 1 11 = M.1 1 11 := by rw [(hF 1 (Or.inl (by decide))).1]
      unfold nN at *
      refine g_iload_n dX6_seek_7 rfl rfl ?_
      refine g_aload_n dX6_seek_8 rfl rfl ?_
      refine g_getr dX6_seek_9 fX6_50 rfl rfl ?_
      refine g_get dX6_seek_12 fX6_74 rfl rfl ?_
      refine g_icmp_ge (tgt := 63) dX6_seek_15 rfl (fun h15 => ?_) (fun h15 => ?_)
      · refine g_aload_n dX6_seek_63 rfl rfl ?_
        refine g_getr dX6_seek_64 fX6_18 rfl rfl ?_
        refine g_sipush dX6_seek_67 rfl ?_
        refine g_callS dX6_seek_70 lX6_83 (w_fill (p := 48) (n := 14) rfl (by decide)) rfl rfl (Nat.le_of_ble_eq_true rfl) ?_
        rintro v M2 ⟨rfl, q1, q2, q3⟩
        show G _ _ _ _ _ _ [] M2
        refine g_aload_n dX6_seek_73 rfl rfl ?_
        refine g_getr dX6_seek_74 fX6_63 rfl rfl ?_
        refine g_iconst dX6_seek_77 ?_
        refine g_puti dX6_seek_78 fX6_89 rfl rfl rfl (tyX4_ok 13 (by decide)) ?_
        refine g_aload_n dX6_seek_81 rfl rfl ?_
        refine g_iconst dX6_seek_82 ?_
        refine g_puti dX6_seek_83 fX6_28 rfl rfl rfl (tyX6_ok 10 (by decide)) ?_
        refine g_aload_n dX6_seek_86 rfl rfl ?_
        refine g_iconst dX6_seek_87 ?_
        refine g_puti dX6_seek_88 fX6_31 rfl rfl rfl (tyX6_ok 11 (by decide)) ?_
        refine g_aload_n dX6_seek_91 rfl rfl ?_
        refine g_iconst dX6_seek_92 ?_
        refine g_puti dX6_seek_93 fX6_34 rfl rfl rfl (tyX6_ok 12 (by decide)) ?_
        refine g_aload_n dX6_seek_96 rfl rfl ?_
        refine g_iconst dX6_seek_97 ?_
        refine g_putz dX6_seek_98 fX6_37 rfl rfl rfl (tyX6_ok 13 (by decide)) ?_
        have hF3 : Fr 45 (45 + 20) M (si (si (si (si (si M2 50 13 0) 45 10 0) 45 11 0) 45 12 0) 45 13 0) :=
          hF.tr (((((Fr.si (fun p hp => ⟨q2 p (by omega), by rw [q1]⟩) _ _ _).si _ _ _).si _ _ _).si _ _ _).si _ _ _)
        have hS : SInv 45 0 M (ordOf M s) [] 0 0 (si (si (si (si (si M2 50 13 0) 45 10 0) 45 11 0) 45 12 0) 45 13 0) R0 := by
          refine ⟨hF3.dat (by decide), TabD.fr ⟨hT.1, hT.2.1, hT.2.2⟩ hF3 (by decide), ⟨?_, fun j hj => ?_⟩, rfl, rfl, fun q' hq' => absurd hq' (by omega), fun x hx => (by cases hx), rfl, rfl, rfl, by decide, by decide, fun k hk => absurd hk (by simp [R0]), fun t ht => ?_⟩
          · show M2.1 45 9 = _
            rw [q2 45 (by decide)]; exact h1
          · show M2.1 46 j = _
            rw [q2 46 (by decide)]; exact h2 j hj
          · have ht14 : t < 14 := by have := hO.1 t ht; omega
            have e : (si (si (si (si (si M2 50 13 0) 45 10 0) 45 11 0) 45 12 0) 45 13 0).1 (45 + 3) t = 16383 := q3 t ht14
            rw [e]
            refine ⟨by decide, by decide, fun c hc => ?_⟩
            have hc14 : c < 14 := by have := hO.1 c hc; omega
            exact ⟨fun _ w hw => (by cases hw), fun _ => bit14 ⟨c, hc14⟩⟩
        have hplace := w_place_V hw hO (d + (14 - (ordOf M s).length)) (ordOf M s) [] 0 0 _ R0 ⟨rfl, fun x hx => (by cases hx), Nat.le_refl _, by decide, by have := hwL.2.1; unfold budgetOK at this; omega⟩ hS
        rw [show d + (14 - (ordOf M s).length) + (ordOf M s).length + 3 = d + 17 by omega] at hplace
        refine g_aload_n dX6_seek_101 rfl rfl ?_
        refine g_iconst dX6_seek_102 ?_
        refine g_callS dX6_seek_103 lX6_90 (hplace) rfl rfl (Nat.le_of_ble_eq_true rfl) ?_
        rintro v M5 ⟨rfl, f1, f2, f3⟩
        show G _ _ _ _ _ _ [] M5
        refine g_vret dX6_seek_106 rfl ?_
        obtain ⟨z1, z2, z3, z4, z5, z6, z7, z8⟩ := f3
        exact ⟨rfl, hF3.tr f1, z8⟩
      · exfalso; omega
    | succ n ih =>
      intro i hi M1 hF h1 h2
      have hA : M1.1 1 = M.1 1 := (hF 1 (Or.inl (by decide))).1
      have hRo : M1.1 5 = M.1 5 := (hF 5 (Or.inl (by decide))).1
      have hN : M1.1 1 11 = M.1 1 11 := by rw [hA]
      have hiN : (i : Int) < M.1 1 11 := by unfold nN at hi; omega
      have ho := hwO i hiN
      have hlen : ((List.range i).filter (fun o => s.testBit (M.1 5 o).toNat)).length ≤ i := by
        have := List.length_filter_le (fun o => s.testBit (M.1 5 o).toNat) (List.range i)
        rwa [List.length_range] at this
      have hbit : (if 0 ≤ (i : Int) ∧ (i : Int) < M1.1 1 11 then shl 1 (M1.1 5 (i : Int).toNat) else 0) = ((2 ^ (M.1 5 i).toNat : Nat) : Int) := by
        rw [if_pos ⟨by omega, by omega⟩, Int.toNat_natCast, hRo, ← shl_1 (by omega)]
        congr 1
        omega
      have h2p : (2 : Nat) ^ (M.1 5 i).toNat < 256 := Nat.lt_of_lt_of_le (Nat.pow_lt_pow_right (by decide) (show (M.1 5 i).toNat < 8 by omega)) (by decide)
      have hle : s &&& 2 ^ (M.1 5 i).toNat ≤ s := Nat.and_le_left
      refine g_iload_n dX6_seek_7 rfl rfl ?_
      refine g_aload_n dX6_seek_8 rfl rfl ?_
      refine g_getr dX6_seek_9 fX6_50 rfl rfl ?_
      refine g_get dX6_seek_12 fX6_74 rfl rfl ?_
      refine g_icmp_ge (tgt := 63) dX6_seek_15 rfl (fun h15 => ?_) (fun h15 => ?_)
      · exfalso; omega
      · refine g_iload_n dX6_seek_18 rfl rfl ?_
        refine g_bipush dX6_seek_19 rfl ?_
        refine g_icmp_ge (tgt := 63) dX6_seek_21 rfl (fun h21 => ?_) (fun h21 => ?_)
        · exfalso; omega
        · refine g_iload_n dX6_seek_24 rfl rfl ?_
          refine g_aload_n dX6_seek_25 rfl rfl ?_
          refine g_getr dX6_seek_26 fX6_50 rfl rfl ?_
          refine g_iload_n dX6_seek_29 rfl rfl ?_
          refine g_callVr dX6_seek_30 lX6_79 (w_X0_bitOf (M := M1) (by omega) (by omega) (by rw [hA]; exact hR0) (by rw [hA]; exact hR8) (by rw [hA]; exact hN0) (by rw [hA]; exact hN14)) rfl rfl rfl rfl (Nat.le_of_ble_eq_true rfl) ?_
          rw [hbit]
          refine g_iand dX6_seek_33 ?_
          rw [band_nat (by omega) (by omega)]
          have hr0 : 0 ≤ ((s &&& 2 ^ (M.1 5 i).toNat : Nat) : Int) := by omega
          refine g_if_eq (tgt := 57) dX6_seek_34 rfl (fun h34 => ?_) (fun h34 => ?_)
          · refine g_iinc (ls' := [some _, some _, some _]) dX6_seek_57 rfl rfl ?_
            refine g_goto (tgt := 7) dX6_seek_60 rfl ?_
            have hf := ordOf_s M s i
            have h34 : (s &&& 2 ^ (M.1 5 i).toNat = 0) ∨ ¬ (s &&& 2 ^ (M.1 5 i).toNat = 0) := by omega
            first
              | (have ht : ¬ s.testBit (M.1 5 i).toNat = true := (and_bit _ _).mp (by omega)
                 rw [if_neg ht, List.append_nil] at hf
                 exact ih (i + 1) (by omega) M1 hF (by rw [hf]; exact h1) (by rw [hf]; exact h2))
              | (have ht : s.testBit (M.1 5 i).toNat = true := by
                   by_cases hz : s.testBit (M.1 5 i).toNat = true
                   · exact hz
                   · have := (and_bit _ _).mpr hz
                     omega
                 rw [if_pos ht] at hf
                 rw [h1]
                 simp only [Int.toNat_natCast]
                 refine ih (i + 1) (by omega) _ ((hF.si _ _ _).si _ _ _) ?_ (fun j hj => ?_)
                 · rw [si_eq, hf, List.length_append, List.length_singleton]; omega
                 · rw [hf, List.length_append, List.length_singleton] at hj
                   rw [hf, getD_app1, sil, if_neg (by omega), sil]
                   by_cases hjl : j < ((List.range i).filter (fun o => s.testBit (M.1 5 o).toNat)).length
                   · rw [if_neg (by omega), if_pos hjl]; exact h2 j hjl
                   · rw [if_pos (by omega), if_neg hjl, if_pos (by omega)])
          · refine g_aload_n dX6_seek_37 rfl rfl ?_
            refine g_getr dX6_seek_38 fX6_9 rfl rfl ?_
            refine g_aload_n dX6_seek_41 rfl rfl ?_
            refine g_get dX6_seek_42 fX6_24 rfl rfl ?_
            try simp only [sil, sjl, Nat.reduceAdd, Nat.reduceEqDiff, eq_self, false_and, and_false, true_and, and_true, if_false, if_true, reduceIte]
            refine g_iload_n dX6_seek_45 rfl rfl ?_
            refine g_iast dX6_seek_46 rfl (by decide) ?_
            try simp only [Int.toNat_natCast]
            refine g_aload_n dX6_seek_47 rfl rfl ?_
            refine g_dup dX6_seek_48 rfl ?_
            refine g_get dX6_seek_49 fX6_24 rfl rfl ?_
            try simp only [sil, sjl, Nat.reduceAdd, Nat.reduceEqDiff, eq_self, false_and, and_false, true_and, and_true, if_false, if_true, reduceIte]
            refine g_iconst dX6_seek_52 ?_
            refine g_iadd dX6_seek_53 ?_
            refine g_puti dX6_seek_54 fX6_24 rfl rfl rfl (tyX6_ok 9 (by decide)) ?_
            refine g_iinc (ls' := [some _, some _, some _]) dX6_seek_57 rfl rfl ?_
            refine g_goto (tgt := 7) dX6_seek_60 rfl ?_
            have hf := ordOf_s M s i
            have h34 : (s &&& 2 ^ (M.1 5 i).toNat = 0) ∨ ¬ (s &&& 2 ^ (M.1 5 i).toNat = 0) := by omega
            first
              | (have ht : ¬ s.testBit (M.1 5 i).toNat = true := (and_bit _ _).mp (by omega)
                 rw [if_neg ht, List.append_nil] at hf
                 exact ih (i + 1) (by omega) M1 hF (by rw [hf]; exact h1) (by rw [hf]; exact h2))
              | (have ht : s.testBit (M.1 5 i).toNat = true := by
                   by_cases hz : s.testBit (M.1 5 i).toNat = true
                   · exact hz
                   · have := (and_bit _ _).mpr hz
                     omega
                 rw [if_pos ht] at hf
                 rw [h1]
                 simp only [Int.toNat_natCast]
                 refine ih (i + 1) (by omega) _ ((hF.si _ _ _).si _ _ _) ?_ (fun j hj => ?_)
                 · rw [si_eq, hf, List.length_append, List.length_singleton]; omega
                 · rw [hf, List.length_append, List.length_singleton] at hj
                   rw [hf, getD_app1, sil, if_neg (by omega), sil]
                   by_cases hjl : j < ((List.range i).filter (fun o => s.testBit (M.1 5 o).toNat)).length
                   · rw [if_neg (by omega), if_pos hjl]; exact h2 j hjl
                   · rw [if_pos (by omega), if_neg hjl, if_pos (by omega)])
  refine g_aload_n dX6_seek_0 rfl rfl ?_
  refine g_iconst dX6_seek_1 ?_
  refine g_puti dX6_seek_2 fX6_24 rfl rfl rfl (tyX6_ok 9 (by decide)) ?_
  refine g_iconst dX6_seek_5 ?_
  refine g_istore_n (ls' := [some _, some _, some _]) dX6_seek_6 rfl (by decide) rfl ?_
  exact loop (nN M) 0 (by omega) _ (Fr.rf.si _ _ _) rfl (fun j hj => absurd hj (by simp))

theorem w_X6_way {d : Nat} {M : Mem} {k : Int} (hk0 : 0 ≤ k) (hk : k < M.1 24 12) (hf : M.1 24 12 ≤ 3000) : WP wdC (d) mX6_way [vr 24, vi k] M (Ret (some (vl (M.2 42 k.toNat))) M) := by
  refine wp_of (by decide +kernel) (Nat.le_of_ble_eq_true rfl) ?_
  refine g_iload_n dX6_way_0 rfl rfl ?_
  refine g_if_lt (tgt := 30) dX6_way_1 rfl (fun h1 => ?_) (fun h1 => ?_)
  · exfalso; omega
  · refine g_iload_n dX6_way_4 rfl rfl ?_
    refine g_aload_n dX6_way_5 rfl rfl ?_
    refine g_get dX6_way_6 fX6_34 rfl rfl ?_
    refine g_icmp_ge (tgt := 30) dX6_way_9 rfl (fun h9 => ?_) (fun h9 => ?_)
    · exfalso; omega
    · refine g_iload_n dX6_way_12 rfl rfl ?_
      refine g_aload_n dX6_way_13 rfl rfl ?_
      refine g_getr dX6_way_14 fX6_67 rfl rfl ?_
      refine g_alen dX6_way_17 rfl (Or.inr rfl) ?_
      refine g_icmp_ge (tgt := 30) dX6_way_18 rfl (fun h18 => ?_) (fun h18 => ?_)
      · exfalso; omega
      · refine g_aload_n dX6_way_21 rfl rfl ?_
        refine g_getr dX6_way_22 fX6_67 rfl rfl ?_
        refine g_iload_n dX6_way_25 rfl rfl ?_
        refine g_lald dX6_way_26 rfl (by decide) ?_
        refine g_goto (tgt := 31) dX6_way_27 rfl ?_
        refine g_lret dX6_way_31 rfl ?_
        exact ⟨rfl, rfl⟩

theorem w_X6_costOf {d : Nat} {M : Mem} {k : Int} (hk0 : 0 ≤ k) (hk : k < M.1 24 12) (hf : M.1 24 12 ≤ 3000) : WP wdC (d) mX6_costOf [vr 24, vi k] M (Ret (some (vi (M.1 43 k.toNat))) M) := by
  refine wp_of (by decide +kernel) (Nat.le_of_ble_eq_true rfl) ?_
  refine g_iload_n dX6_costOf_0 rfl rfl ?_
  refine g_if_lt (tgt := 30) dX6_costOf_1 rfl (fun h1 => ?_) (fun h1 => ?_)
  · exfalso; omega
  · refine g_iload_n dX6_costOf_4 rfl rfl ?_
    refine g_aload_n dX6_costOf_5 rfl rfl ?_
    refine g_get dX6_costOf_6 fX6_34 rfl rfl ?_
    refine g_icmp_ge (tgt := 30) dX6_costOf_9 rfl (fun h9 => ?_) (fun h9 => ?_)
    · exfalso; omega
    · refine g_iload_n dX6_costOf_12 rfl rfl ?_
      refine g_aload_n dX6_costOf_13 rfl rfl ?_
      refine g_getr dX6_costOf_14 fX6_71 rfl rfl ?_
      refine g_alen dX6_costOf_17 rfl (Or.inl rfl) ?_
      refine g_icmp_ge (tgt := 30) dX6_costOf_18 rfl (fun h18 => ?_) (fun h18 => ?_)
      · exfalso; omega
      · refine g_aload_n dX6_costOf_21 rfl rfl ?_
        refine g_getr dX6_costOf_22 fX6_71 rfl rfl ?_
        refine g_iload_n dX6_costOf_25 rfl rfl ?_
        refine g_iald dX6_costOf_26 rfl (by decide) ?_
        refine g_goto (tgt := 31) dX6_costOf_27 rfl ?_
        refine g_iret dX6_costOf_31 rfl ?_
        exact ⟨rfl, rfl⟩

theorem w_X6_joinsAlways {d : Nat} {M : Mem} {a c : Nat} (hR0 : 0 ≤ M.1 1 10) (hR8 : M.1 1 10 ≤ 8) (hN0 : 0 ≤ M.1 1 11) (hN14 : M.1 1 11 ≤ 14) (ha : (a : Int) < M.1 1 11) (hc : (c : Int) < M.1 1 11) (hj : 0 ≤ M.1 27 a ∧ M.1 27 a < 16384) : WP wdC (d + 1) mX6_joinsAlways [vr 24, vi a, vi c] M (Ret (some (vi (bi ((M.1 27 a).toNat.testBit c = true)))) M) := by
  have hbt := bit_1 (m := (M.1 27 a).toNat) (k := c) (by omega) (by omega)
  rw [show (((M.1 27 a).toNat : Nat) : Int) = M.1 27 a by omega] at hbt
  refine wp_of (by decide +kernel) (Nat.le_of_ble_eq_true rfl) ?_
  refine g_aload_n dX6_joinsAlways_0 rfl rfl ?_
  refine g_getr dX6_joinsAlways_1 fX6_50 rfl rfl ?_
  refine g_iload_n dX6_joinsAlways_4 rfl rfl ?_
  refine g_callVr dX6_joinsAlways_5 lX6_135 (w_X0_hasRole (by omega) (by omega) hR0 hR8 hN0 hN14) rfl rfl rfl rfl (Nat.le_of_ble_eq_true rfl) ?_
  refine g_if_eqB (tgt := 39) dX6_joinsAlways_8 rfl (fun h8 => ?_) (fun h8 => ?_)
  · exfalso; omega
  · refine g_aload_n dX6_joinsAlways_11 rfl rfl ?_
    refine g_getr dX6_joinsAlways_12 fX6_50 rfl rfl ?_
    refine g_iload_n dX6_joinsAlways_15 rfl rfl ?_
    refine g_callVr dX6_joinsAlways_16 lX6_135 (w_X0_hasRole (by omega) (by omega) hR0 hR8 hN0 hN14) rfl rfl rfl rfl (Nat.le_of_ble_eq_true rfl) ?_
    refine g_if_eqB (tgt := 39) dX6_joinsAlways_19 rfl (fun h19 => ?_) (fun h19 => ?_)
    · exfalso; omega
    · refine g_aload_n dX6_joinsAlways_22 rfl rfl ?_
      refine g_getr dX6_joinsAlways_23 fX6_18 rfl rfl ?_
      refine g_iload_n dX6_joinsAlways_26 rfl rfl ?_
      refine g_iald dX6_joinsAlways_27 rfl (by decide) ?_
      try simp only [Int.toNat_natCast]
      refine g_iload_n dX6_joinsAlways_28 rfl rfl ?_
      refine g_ishr dX6_joinsAlways_29 ?_
      refine g_iconst dX6_joinsAlways_30 ?_
      refine g_iand dX6_joinsAlways_31 ?_
      rw [hbt]
      have hbr : (if (M.1 27 a).toNat.testBit c = true then (1 : Int) else 0) = 0 ∨ (if (M.1 27 a).toNat.testBit c = true then (1 : Int) else 0) = 1 := by split <;> simp
      refine g_if_eq (tgt := 39) dX6_joinsAlways_32 rfl (fun h32 => ?_) (fun h32 => ?_)
      · refine g_iconst dX6_joinsAlways_39 ?_
        refine g_zret dX6_joinsAlways_40 rfl ?_
        first | exact leafT (by by_cases hz : (M.1 27 a).toNat.testBit c = true; exact hz; exact absurd (if_neg hz) h32) | exact leafF (fun hz => by rw [if_pos hz] at h32; exact absurd h32 (by decide))
      · refine g_iconst dX6_joinsAlways_35 ?_
        refine g_goto (tgt := 40) dX6_joinsAlways_36 rfl ?_
        refine g_zret dX6_joinsAlways_40 rfl ?_
        first | exact leafT (by by_cases hz : (M.1 27 a).toNat.testBit c = true; exact hz; exact absurd (if_neg hz) h32) | exact leafF (fun hz => by rw [if_pos hz] at h32; exact absurd h32 (by decide))

def fstP (M : Mem) (a c : Nat) (z : Int) (k : Nat) : Bool := decide ((dig (M.2 42 k) a = dig (M.2 42 k) c) ↔ z = 1)
theorem w_X6_firstWay {d : Nat} {M : Mem} {a c f : Nat} {z : Int} (ha : a < 14) (hc : c < 14) (hz : z = 0 ∨ z = 1) (hf : M.1 24 12 = f) (hf3 : f ≤ 3000) : WP wdC (d + 1) mX6_firstWay [vr 24, vi a, vi c, vi z] M (Ret (some (vi (firstB (fstP M a c z) f 0))) M) := by
  refine wp_of (by decide +kernel) (Nat.le_of_ble_eq_true rfl) ?_
  have loop : ∀ n k : Nat, k + n = f → firstB (fstP M a c z) n k = firstB (fstP M a c z) f 0 → G wdC mX6_firstWay (d + 1) (Ret (some (vi (firstB (fstP M a c z) f 0))) M) 3 [some (vr 24), some (vi a), some (vi c), some (vi z), some (vi k)] [] M := by
    intro n
    induction n with
    | zero =>
      intro k hk hfin
      refine g_iload dX6_firstWay_3 rfl ?_
      refine g_aload_n dX6_firstWay_5 rfl rfl ?_
      refine g_get dX6_firstWay_6 fX6_34 rfl rfl ?_
      refine g_icmp_ge (tgt := 65) dX6_firstWay_9 rfl (fun h9 => ?_) (fun h9 => ?_)
      · refine g_iconst dX6_firstWay_65 ?_
        refine g_iret dX6_firstWay_66 rfl ?_
        exact ⟨by rw [← hfin]; rfl, rfl⟩
      · exfalso; omega
    | succ n ih =>
      intro k hk hfin
      refine g_iload dX6_firstWay_3 rfl ?_
      refine g_aload_n dX6_firstWay_5 rfl rfl ?_
      refine g_get dX6_firstWay_6 fX6_34 rfl rfl ?_
      refine g_icmp_ge (tgt := 65) dX6_firstWay_9 rfl (fun h9 => ?_) (fun h9 => ?_)
      · exfalso; omega
      · refine g_iload dX6_firstWay_12 rfl ?_
        refine g_aload_n dX6_firstWay_14 rfl rfl ?_
        refine g_getr dX6_firstWay_15 fX6_67 rfl rfl ?_
        refine g_alen dX6_firstWay_18 rfl (Or.inr rfl) ?_
        refine g_icmp_ge (tgt := 65) dX6_firstWay_19 rfl (fun h19 => ?_) (fun h19 => ?_)
        · exfalso; omega
        · refine g_aload_n dX6_firstWay_22 rfl rfl ?_
          refine g_getr dX6_firstWay_23 fX6_67 rfl rfl ?_
          refine g_iload dX6_firstWay_26 rfl ?_
          refine g_lald dX6_firstWay_28 rfl (by decide) ?_
          try simp only [Int.toNat_natCast]
          refine g_iload_n dX6_firstWay_29 rfl rfl ?_
          refine g_callSr dX6_firstWay_30 lX6_138 (w_X9_personIn (by omega)) rfl rfl (Nat.le_of_ble_eq_true rfl) ?_
          refine g_aload_n dX6_firstWay_33 rfl rfl ?_
          refine g_getr dX6_firstWay_34 fX6_67 rfl rfl ?_
          refine g_iload dX6_firstWay_37 rfl ?_
          refine g_lald dX6_firstWay_39 rfl (by decide) ?_
          try simp only [Int.toNat_natCast]
          refine g_iload_n dX6_firstWay_40 rfl rfl ?_
          refine g_callSr dX6_firstWay_41 lX6_138 (w_X9_personIn (by omega)) rfl rfl (Nat.le_of_ble_eq_true rfl) ?_
          have d1 := dig_lt (M.2 42 k) a
          have d2 := dig_lt (M.2 42 k) c
          refine g_icmp_ne (tgt := 51) dX6_firstWay_44 rfl (fun h44 => ?_) (fun h44 => ?_)
          · refine g_iconst dX6_firstWay_51 ?_
            refine g_iload_n dX6_firstWay_52 rfl rfl ?_
            refine g_icmp_ne (tgt := 59) dX6_firstWay_53 rfl (fun h53 => ?_) (fun h53 => ?_)
            · refine g_iinc (ls' := [some _, some _, some _, some _, some _]) dX6_firstWay_59 rfl rfl ?_
              refine g_goto (tgt := 3) dX6_firstWay_62 rfl ?_
              refine ih (k + 1) (by omega) (by rw [← hfin]; show _ = (if decide ((dig (M.2 42 k) a = dig (M.2 42 k) c) ↔ z = 1) = true then _ else _); rw [if_neg (fun hz => by have := of_decide_eq_true hz; omega)])
            · refine g_iload dX6_firstWay_56 rfl ?_
              refine g_iret dX6_firstWay_58 rfl ?_
              refine ⟨?_, rfl⟩
              rw [← hfin]
              have hb : decide ((dig (M.2 42 k) a = dig (M.2 42 k) c) ↔ z = 1) = true := decide_eq_true (by omega)
              show _ = some (vi (if decide ((dig (M.2 42 k) a = dig (M.2 42 k) c) ↔ z = 1) = true then _ else _))
              rw [if_pos hb]
          · refine g_iconst dX6_firstWay_47 ?_
            refine g_goto (tgt := 52) dX6_firstWay_48 rfl ?_
            refine g_iload_n dX6_firstWay_52 rfl rfl ?_
            refine g_icmp_ne (tgt := 59) dX6_firstWay_53 rfl (fun h53 => ?_) (fun h53 => ?_)
            · refine g_iinc (ls' := [some _, some _, some _, some _, some _]) dX6_firstWay_59 rfl rfl ?_
              refine g_goto (tgt := 3) dX6_firstWay_62 rfl ?_
              refine ih (k + 1) (by omega) (by rw [← hfin]; show _ = (if decide ((dig (M.2 42 k) a = dig (M.2 42 k) c) ↔ z = 1) = true then _ else _); rw [if_neg (fun hz => by have := of_decide_eq_true hz; omega)])
            · refine g_iload dX6_firstWay_56 rfl ?_
              refine g_iret dX6_firstWay_58 rfl ?_
              refine ⟨?_, rfl⟩
              rw [← hfin]
              have hb : decide ((dig (M.2 42 k) a = dig (M.2 42 k) c) ↔ z = 1) = true := decide_eq_true (by omega)
              show _ = some (vi (if decide ((dig (M.2 42 k) a = dig (M.2 42 k) c) ↔ z = 1) = true then _ else _))
              rw [if_pos hb]
  refine g_iconst dX6_firstWay_0 ?_
  refine g_istore (ls' := [some _, some _, some _, some _, some _]) dX6_firstWay_1 (by decide) rfl ?_
  exact loop f 0 (by omega) rfl

