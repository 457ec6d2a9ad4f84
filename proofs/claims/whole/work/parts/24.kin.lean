/-! MODULE 20: kinship (the class's). -/
abbrev isB (D : Mem) (r : Nat) : Prop := D.1 4 r = -1 ∧ D.1 3 r = 3 ∧ D.1 6 (D.1 2 r).toNat = 0
/-- the first roles of the births, four at most -/
def brs (D : Mem) (n : Nat) : List Nat := ((List.range n).filter (fun r => decide (isB D r))).map (fun r => (D.1 2 r).toNat)
theorem brs_s (D : Mem) (n : Nat) : brs D (n + 1) = brs D n ++ (if isB D n then [(D.1 2 n).toNat] else []) := by
  unfold brs
  rw [List.range_succ, List.filter_append, List.map_append]
  congr 1
  by_cases h : isB D n
  · rw [if_pos h, List.filter_cons_of_pos (by simpa using h)]; rfl
  · rw [if_neg h, List.filter_cons_of_neg (by simpa using h)]; rfl
theorem brs_pre (D : Mem) : ∀ (m n : Nat), ∃ r, brs D (n + m) = brs D n ++ r
  | 0, n => ⟨[], by simp⟩
  | m + 1, n => by
    obtain ⟨r, hr⟩ := brs_pre D m n
    exact ⟨r ++ (if isB D (n + m) then [(D.1 2 (n + m)).toNat] else []), by rw [← Nat.add_assoc, brs_s, hr, List.append_assoc]⟩
def bl (D : Mem) : List Nat := (brs D (nR D)).take 4
def KinOK (D M : Mem) : Prop := M.1 67 4 = (bl D).length ∧ ∀ i, i < (bl D).length → M.1 68 i = ((bl D).getD i 0 : Nat)
theorem brs_lt {D : Mem} (hw : Wf D) : ∀ n, n ≤ nR D → ∀ x ∈ brs D n, x + 3 ≤ 14 := by
  intro n hn x hx
  obtain ⟨r, hr, rfl⟩ := List.mem_map.mp hx
  obtain ⟨h1, h2⟩ := List.mem_filter.mp hr
  have h3 := of_decide_eq_true h2
  have h4 := List.mem_range.mp h1
  unfold nR at hn
  obtain ⟨hB, hR, -⟩ := hw
  unfold WfB at hB
  have := hR.1 r (by omega)
  omega
theorem bl_lt {D : Mem} (hw : Wf D) {i : Nat} (hi : i < (bl D).length) : (bl D).getD i 0 + 3 ≤ 14 := by
  have h1 := getD_mem hi
  exact brs_lt hw _ (Nat.le_refl _) _ (List.mem_of_mem_take h1)
theorem bl_4 (D : Mem) : (bl D).length ≤ 4 := by unfold bl; rw [List.length_take]; omega
/-- who is a parent of one of these persons (bits), by the births ch -/
def parN (w : Nat → Nat) (ps : Nat) : List Nat → Nat → Nat
  | [], acc => acc
  | ch :: r, acc => parN w ps r (if ps.testBit (w ch) = true then acc ||| (2 ^ (w (ch + 1)) ||| 2 ^ (w (ch + 2))) else acc)
def itN (w : Nat → Nat) (chs : List Nat) (ps : Nat) : Nat → Nat
  | 0 => ps
  | n + 1 => parN w (itN w chs ps n) chs 0
theorem parN_zero (w : Nat → Nat) : ∀ (chs : List Nat) (acc : Nat), parN w 0 chs acc = acc
  | [], _ => rfl
  | ch :: r, acc => by unfold parN; rw [Nat.zero_testBit, if_neg (by decide)]; exact parN_zero w r acc
theorem parN_lt (w : Nat → Nat) (hw : ∀ r, w r < 16) (ps : Nat) : ∀ (chs : List Nat) (acc : Nat), acc < 65536 → parN w ps chs acc < 65536
  | [], acc, h => h
  | ch :: r, acc, h => by
    unfold parN
    refine parN_lt w hw ps r _ ?_
    split
    · have h2 : ∀ k, k < 16 → 2 ^ k < 2 ^ 16 := fun k hk => Nat.pow_lt_pow_right (by decide) hk
      exact Nat.or_lt_two_pow (n := 16) h (Nat.or_lt_two_pow (h2 _ (hw _)) (h2 _ (hw _)))
    · exact h
theorem itN_lt (w : Nat → Nat) (hw : ∀ r, w r < 16) (chs : List Nat) (ps : Nat) (h : ps < 65536) : ∀ n, itN w chs ps n < 65536
  | 0 => h
  | n + 1 => parN_lt w hw _ chs 0 (by decide)
def kinU (U V : Nat → Nat) (sum : Nat) : Nat → Nat → Option Int
  | 0, _ => none
  | n + 1, u => if U u &&& V (sum - u) = 0 then kinU U V sum n (u + 1) else some (100 * u + sum - u)
def kinS (U V : Nat → Nat) : Nat → Nat → Int
  | 0, _ => -1
  | n + 1, sum => match kinU U V sum (min sum 10 + 1 - (sum - 10)) (sum - 10) with
    | some z => z
    | none => kinS U V n (sum + 1)
/-- what b is to a, in the way w -/
def kinC (w : Nat → Nat) (chs : List Nat) (a b : Nat) : Int := kinS (itN w chs (2 ^ w a)) (itN w chs (2 ^ w b)) 21 0

theorem w_X2_prepare {d : Nat} {M : Mem} (hw : Wf M) : WP wdC (d + 3) mX2_prepare [vr 67] M (fun v M' => v = none ∧ Fr 67 (2 + 67) M M' ∧ KinOK M M') := by
  refine wp_of (by decide +kernel) (Nat.le_of_ble_eq_true rfl) ?_
  obtain ⟨⟨hR0, hR8, hN0, hN14⟩, hwR, hwO, hwC, hwD, hwV, hwL⟩ := id hw
  have loop : ∀ n i : Nat, i + n = nR M → ∀ M1 : Mem, Fr 67 (2 + 67) M M1 → M1.1 67 4 = (brs M i).length → (brs M i).length ≤ 4 → (∀ j, j < (brs M i).length → M1.1 68 j = ((brs M i).getD j 0 : Nat)) → G wdC mX2_prepare (d + 3) (fun v M' => v = none ∧ Fr 67 (2 + 67) M M' ∧ KinOK M M') 7 [some (vr 67), some (vi i)] [] M1 := by
    intro n
    induction n with
    | zero =>
      intro i hi M1 hF h1 h2 h3
      have hi : i = nR M := by omega
      subst hi
      have hR : M1.1 1 10 = M.1 1 10 := by rw [(hF 1 (Or.inl (by decide))).1]
      have hbl : bl M = brs M (nR M) := List.take_of_length_le h2
      have hfin : KinOK M M1 := by unfold KinOK; rw [hbl]; exact ⟨h1, h3⟩
      have hR' : ((nR M : Nat) : Int) = M.1 1 10 := by unfold nR; omega
      refine g_iload_n dX2_prepare_7 rfl rfl ?_
      refine g_aload_n dX2_prepare_8 rfl rfl ?_
      refine g_getr dX2_prepare_9 fX2_25 rfl rfl ?_
      refine g_get dX2_prepare_12 fX2_29 rfl rfl ?_
      refine g_icmp_ge (tgt := 70) dX2_prepare_15 rfl (fun h15 => ?_) (fun h15 => ?_)
      · refine g_vret dX2_prepare_70 rfl ?_
        exact ⟨rfl, hF, hfin⟩
      · exfalso; omega
    | succ n ih =>
      intro i hi M1 hF h1 h2 h3
      have hA : M1.1 1 = M.1 1 := (hF 1 (Or.inl (by decide))).1
      have hR : M1.1 1 10 = M.1 1 10 := by rw [hA]
      have hiR : (i : Int) < M.1 1 10 := by unfold nR at hi; omega
      obtain ⟨⟨gR0, gR8, gN0, gN14⟩, gR, gO, gC, gD, gV, gL⟩ := hw.dat (hF.dat (by decide))
      have hgO : ∀ j : Nat, (j : Int) < M1.1 1 10 → -1 ≤ M1.1 4 j ∧ M1.1 4 j < 8 := fun j hj => by have := gC j hj; omega
      have hgR := gR.1 i (by omega)
      have hb : (M1.1 4 i = -1 ∧ M1.1 3 i = 3 ∧ M1.1 6 (M1.1 2 i).toNat = 0) ↔ isB M i := by
        unfold isB
        rw [(hF 4 (Or.inl (by decide))).1, (hF 3 (Or.inl (by decide))).1, (hF 6 (Or.inl (by decide))).1, (hF 2 (Or.inl (by decide))).1]
      have hfi : M1.1 2 i = ((M.1 2 i).toNat : Int) := by
        rw [(hF 2 (Or.inl (by decide))).1]
        have := hwR.1 i hiR
        omega
      have hs := brs_s M i
      refine g_iload_n dX2_prepare_7 rfl rfl ?_
      refine g_aload_n dX2_prepare_8 rfl rfl ?_
      refine g_getr dX2_prepare_9 fX2_25 rfl rfl ?_
      refine g_get dX2_prepare_12 fX2_29 rfl rfl ?_
      refine g_icmp_ge (tgt := 70) dX2_prepare_15 rfl (fun h15 => ?_) (fun h15 => ?_)
      · exfalso; omega
      · refine g_aload_n dX2_prepare_18 rfl rfl ?_
        refine g_get dX2_prepare_19 fX2_21 rfl rfl ?_
        refine g_iconst dX2_prepare_22 ?_
        refine g_icmp_ge (tgt := 70) dX2_prepare_23 rfl (fun h23 => ?_) (fun h23 => ?_)
        · refine g_vret dX2_prepare_70 rfl ?_
          have h4 : (brs M i).length = 4 := by omega
          have hbl : bl M = brs M i := by
            obtain ⟨r, hr⟩ := brs_pre M (n + 1) i
            unfold bl
            rw [← hi, hr, List.take_append_of_le_length (by omega), List.take_of_length_le (by omega)]
          exact ⟨rfl, hF, by unfold KinOK; rw [hbl]; exact ⟨h1, h3⟩⟩
        · refine g_aload_n dX2_prepare_26 rfl rfl ?_
          refine g_getr dX2_prepare_27 fX2_25 rfl rfl ?_
          refine g_iload_n dX2_prepare_30 rfl rfl ?_
          refine g_callVr dX2_prepare_31 lX2_34 (w_X0_isBirth (by omega) gR0 gR8 gN0 gN14 hgO hgR (fun o ho => by have := gV o ho; omega)) rfl rfl rfl rfl (Nat.le_of_ble_eq_true rfl) ?_
          refine g_if_eqB (tgt := 64) dX2_prepare_34 rfl (fun h34 => ?_) (fun h34 => ?_)
          · refine g_iinc (ls' := [some _, some _]) dX2_prepare_64 rfl rfl ?_
            refine g_goto (tgt := 7) dX2_prepare_67 rfl ?_
            first
              | (have hnb : ¬ isB M i := fun z => h34 (hb.mpr z)
                 rw [if_neg hnb, List.append_nil] at hs
                 exact ih (i + 1) (by omega) M1 hF (by rw [hs]; exact h1) (by rw [hs]; exact h2) (by rw [hs]; exact h3))
              | (rw [if_pos (hb.mp h34)] at hs
                 refine ih (i + 1) (by omega) _ ((hF.si _ _ _).si _ _ _) ?_ ?_ (fun j hj => ?_)
                 · rw [si_eq, hs, List.length_append, List.length_singleton]; omega
                 · rw [hs, List.length_append, List.length_singleton]; omega
                 · rw [hs, List.length_append, List.length_singleton] at hj
                   rw [hs, getD_app1, sil, if_neg (by omega), sil]
                   by_cases hjl : j < (brs M i).length
                   · rw [if_neg (by omega), if_pos hjl]; exact h3 j hjl
                   · rw [if_pos (by omega), if_neg hjl, if_pos (by omega)])
          · refine g_aload_n dX2_prepare_37 rfl rfl ?_
            refine g_getr dX2_prepare_38 fX2_9 rfl rfl ?_
            refine g_aload_n dX2_prepare_41 rfl rfl ?_
            refine g_get dX2_prepare_42 fX2_21 rfl rfl ?_
            refine g_aload_n dX2_prepare_45 rfl rfl ?_
            refine g_getr dX2_prepare_46 fX2_25 rfl rfl ?_
            refine g_iload_n dX2_prepare_49 rfl rfl ?_
            refine g_callVr dX2_prepare_50 lX2_38 (w_X0_firstOf (M := M1) (by omega) (by omega) gR0 gR8 gN0 gN14) rfl rfl rfl rfl (Nat.le_of_ble_eq_true rfl) ?_
            rw [if_pos ⟨by omega, by omega⟩]
            simp only [Int.toNat_natCast]
            rw [h1, hfi]
            refine g_iast dX2_prepare_53 rfl (by decide) ?_
            try simp only [Int.toNat_natCast]
            refine g_aload_n dX2_prepare_54 rfl rfl ?_
            refine g_dup dX2_prepare_55 rfl ?_
            refine g_get dX2_prepare_56 fX2_21 rfl rfl ?_
            try simp only [sil, sjl, Nat.reduceAdd, Nat.reduceEqDiff, eq_self, false_and, and_false, true_and, and_true, if_false, if_true, reduceIte]
            refine g_iconst dX2_prepare_59 ?_
            refine g_iadd dX2_prepare_60 ?_
            refine g_puti dX2_prepare_61 fX2_21 rfl rfl rfl (tyX2_ok 4 (by decide)) ?_
            refine g_iinc (ls' := [some _, some _]) dX2_prepare_64 rfl rfl ?_
            refine g_goto (tgt := 7) dX2_prepare_67 rfl ?_
            first
              | (have hnb : ¬ isB M i := fun z => h34 (hb.mpr z)
                 rw [if_neg hnb, List.append_nil] at hs
                 exact ih (i + 1) (by omega) M1 hF (by rw [hs]; exact h1) (by rw [hs]; exact h2) (by rw [hs]; exact h3))
              | (rw [if_pos (hb.mp h34)] at hs
                 refine ih (i + 1) (by omega) _ ((hF.si _ _ _).si _ _ _) ?_ ?_ (fun j hj => ?_)
                 · rw [si_eq, hs, List.length_append, List.length_singleton]; omega
                 · rw [hs, List.length_append, List.length_singleton]; omega
                 · rw [hs, List.length_append, List.length_singleton] at hj
                   rw [hs, getD_app1, sil, if_neg (by omega), sil]
                   by_cases hjl : j < (brs M i).length
                   · rw [if_neg (by omega), if_pos hjl]; exact h3 j hjl
                   · rw [if_pos (by omega), if_neg hjl, if_pos (by omega)])
  refine g_aload_n dX2_prepare_0 rfl rfl ?_
  refine g_iconst dX2_prepare_1 ?_
  refine g_puti dX2_prepare_2 fX2_21 rfl rfl rfl (tyX2_ok 4 (by decide)) ?_
  refine g_iconst dX2_prepare_5 ?_
  refine g_istore_n (ls' := [some _, some _]) dX2_prepare_6 rfl (by decide) rfl ?_
  exact loop (nR M) 0 (by omega) _ (Fr.rf.si _ _ _) rfl (by show 0 ≤ 4; decide) (fun j hj => absurd hj (by simp [brs]))

theorem parN_drop (w : Nat → Nat) (ps : Nat) (l : List Nat) (i acc : Nat) (h : i < l.length) : parN w ps (l.drop i) acc = parN w ps (l.drop (i + 1)) (if ps.testBit (w (l.getD i 0)) = true then acc ||| (2 ^ (w (l.getD i 0 + 1)) ||| 2 ^ (w (l.getD i 0 + 2))) else acc) := by
  rw [List.drop_eq_getElem_cons h]
  rw [List.getD_eq_getElem?_getD, List.getElem?_eq_getElem h]
  rfl
theorem w_X2_parentsOf {d : Nat} {D M : Mem} {x : Int64} {ps : Nat} (hw : Wf D) (hK : KinOK D M) (hps : ps < 65536) : WP wdC (d + 1) mX2_parentsOf [vr 67, vl x, vi ps] M (Ret (some (vi (parN (dig x) ps (bl D) 0))) M) := by
  refine wp_of (by decide +kernel) (Nat.le_of_ble_eq_true rfl) ?_
  obtain ⟨hK1, hK2⟩ := hK
  have h4 := bl_4 D
  have loop : ∀ n i : Nat, i + n = (bl D).length → ∀ acc : Nat, acc < 65536 → parN (dig x) ps ((bl D).drop i) acc = parN (dig x) ps (bl D) 0 → G wdC mX2_parentsOf (d + 1) (Ret (some (vi (parN (dig x) ps (bl D) 0))) M) 6 [some (vr 67), some (vl x), none, some (vi ps), some (vi acc), some (vi i)] [] M := by
    intro n
    induction n with
    | zero =>
      intro i hi acc hacc hfin
      refine g_iload dX2_parentsOf_6 rfl ?_
      refine g_aload_n dX2_parentsOf_8 rfl rfl ?_
      refine g_get dX2_parentsOf_9 fX2_21 rfl rfl ?_
      refine g_icmp_ge (tgt := 85) dX2_parentsOf_12 rfl (fun h12 => ?_) (fun h12 => ?_)
      · refine g_iload dX2_parentsOf_85 rfl ?_
        refine g_iret dX2_parentsOf_87 rfl ?_
        rw [List.drop_of_length_le (by omega)] at hfin
        exact ⟨by rw [← hfin]; rfl, rfl⟩
      · exfalso; omega
    | succ n ih =>
      intro i hi acc hacc hfin
      have hi' : i < (bl D).length := by omega
      have hb := bl_lt hw hi'
      have hKi := hK2 i hi'
      have d0 := dig_lt x ((bl D).getD i 0)
      have d1 := dig_lt x ((bl D).getD i 0 + 1)
      have d2 := dig_lt x ((bl D).getD i 0 + 2)
      rw [parN_drop _ _ _ _ _ hi'] at hfin
      have hbt := bit_1 (m := ps) (k := dig x ((bl D).getD i 0)) (by omega) (by omega)
      have h2 : ∀ k, k < 16 → 2 ^ k < 2 ^ 16 := fun k hk => Nat.pow_lt_pow_right (by decide) hk
      have o1 : 2 ^ dig x ((bl D).getD i 0 + 1) ||| 2 ^ dig x ((bl D).getD i 0 + 2) < 2 ^ 16 := Nat.or_lt_two_pow (h2 _ d1) (h2 _ d2)
      have o2 : acc ||| (2 ^ dig x ((bl D).getD i 0 + 1) ||| 2 ^ dig x ((bl D).getD i 0 + 2)) < 2 ^ 16 := Nat.or_lt_two_pow hacc o1
      have q1 := h2 _ d1
      have q2 := h2 _ d2
      refine g_iload dX2_parentsOf_6 rfl ?_
      refine g_aload_n dX2_parentsOf_8 rfl rfl ?_
      refine g_get dX2_parentsOf_9 fX2_21 rfl rfl ?_
      refine g_icmp_ge (tgt := 85) dX2_parentsOf_12 rfl (fun h12 => ?_) (fun h12 => ?_)
      · exfalso; omega
      · refine g_iload dX2_parentsOf_15 rfl ?_
        refine g_iconst dX2_parentsOf_17 ?_
        refine g_icmp_ge (tgt := 85) dX2_parentsOf_18 rfl (fun h18 => ?_) (fun h18 => ?_)
        · exfalso; omega
        · refine g_iload_n dX2_parentsOf_21 rfl rfl ?_
          refine g_if_eq (tgt := 85) dX2_parentsOf_22 rfl (fun h22 => ?_) (fun h22 => ?_)
          · refine g_iload dX2_parentsOf_85 rfl ?_
            refine g_iret dX2_parentsOf_87 rfl ?_
            have hz : ps = 0 := by omega
            subst hz
            rw [parN_zero, Nat.zero_testBit, if_neg (by decide)] at hfin
            rw [parN_zero]
            exact ⟨by rw [parN_zero] at hfin; rw [hfin], rfl⟩
          · refine g_iload_n dX2_parentsOf_25 rfl rfl ?_
            refine g_lload_n dX2_parentsOf_26 rfl rfl ?_
            refine g_aload_n dX2_parentsOf_27 rfl rfl ?_
            refine g_getr dX2_parentsOf_28 fX2_9 rfl rfl ?_
            refine g_iload dX2_parentsOf_31 rfl ?_
            refine g_iald dX2_parentsOf_33 rfl (by decide) ?_
            try simp only [Int.toNat_natCast]
            rw [hKi]
            refine g_callSr dX2_parentsOf_34 lX2_42 (w_X9_personIn (by omega)) rfl rfl (Nat.le_of_ble_eq_true rfl) ?_
            refine g_ishr dX2_parentsOf_37 ?_
            refine g_iconst dX2_parentsOf_38 ?_
            refine g_iand dX2_parentsOf_39 ?_
            rw [hbt]
            have hbr : (if ps.testBit (dig x ((bl D).getD i 0)) = true then (1 : Int) else 0) = 0 ∨ (if ps.testBit (dig x ((bl D).getD i 0)) = true then (1 : Int) else 0) = 1 := by split <;> simp
            refine g_if_eq (tgt := 79) dX2_parentsOf_40 rfl (fun h40 => ?_) (fun h40 => ?_)
            · refine g_iinc (ls' := [some _, some _, _, some _, some _, some _]) dX2_parentsOf_79 rfl rfl ?_
              refine g_goto (tgt := 6) dX2_parentsOf_82 rfl ?_
              first
                | (have hnt : ¬ ps.testBit (dig x ((bl D).getD i 0)) = true := fun z => by rw [if_pos z] at h40; exact absurd h40 (by decide)
                   rw [if_neg hnt] at hfin
                   exact ih (i + 1) (by omega) acc hacc hfin)
                | (have ht : ps.testBit (dig x ((bl D).getD i 0)) = true := by
                     by_cases hz : ps.testBit (dig x ((bl D).getD i 0)) = true
                     · exact hz
                     · rw [if_neg hz] at h40; exact absurd rfl h40
                   rw [if_pos ht] at hfin
                   exact ih (i + 1) (by omega) _ o2 hfin)
            · refine g_iload dX2_parentsOf_43 rfl ?_
              refine g_iconst dX2_parentsOf_45 ?_
              refine g_lload_n dX2_parentsOf_46 rfl rfl ?_
              refine g_aload_n dX2_parentsOf_47 rfl rfl ?_
              refine g_getr dX2_parentsOf_48 fX2_9 rfl rfl ?_
              refine g_iload dX2_parentsOf_51 rfl ?_
              refine g_iald dX2_parentsOf_53 rfl (by decide) ?_
              try simp only [Int.toNat_natCast]
              rw [hKi]
              refine g_iconst dX2_parentsOf_54 ?_
              refine g_iadd dX2_parentsOf_55 ?_
              refine g_callSr dX2_parentsOf_56 lX2_42 (w_X9_personIn (r := (bl D).getD i 0 + 1) (by omega)) rfl rfl (Nat.le_of_ble_eq_true rfl) ?_
              refine g_ishl dX2_parentsOf_59 ?_
              rw [shl_1 (by omega)]
              refine g_iconst dX2_parentsOf_60 ?_
              refine g_lload_n dX2_parentsOf_61 rfl rfl ?_
              refine g_aload_n dX2_parentsOf_62 rfl rfl ?_
              refine g_getr dX2_parentsOf_63 fX2_9 rfl rfl ?_
              refine g_iload dX2_parentsOf_66 rfl ?_
              refine g_iald dX2_parentsOf_68 rfl (by decide) ?_
              try simp only [Int.toNat_natCast]
              rw [hKi]
              refine g_iconst dX2_parentsOf_69 ?_
              refine g_iadd dX2_parentsOf_70 ?_
              refine g_callSr dX2_parentsOf_71 lX2_42 (w_X9_personIn (r := (bl D).getD i 0 + 2) (by omega)) rfl rfl (Nat.le_of_ble_eq_true rfl) ?_
              refine g_ishl dX2_parentsOf_74 ?_
              rw [shl_1 (by omega)]
              refine g_ior dX2_parentsOf_75 ?_
              rw [bor_nat (by omega) (by omega)]
              refine g_ior dX2_parentsOf_76 ?_
              rw [bor_nat (by omega) (by omega)]
              refine g_istore (ls' := [some _, some _, _, some _, some _, some _]) dX2_parentsOf_77 (by decide) rfl ?_
              refine g_iinc (ls' := [some _, some _, _, some _, some _, some _]) dX2_parentsOf_79 rfl rfl ?_
              refine g_goto (tgt := 6) dX2_parentsOf_82 rfl ?_
              first
                | (have hnt : ¬ ps.testBit (dig x ((bl D).getD i 0)) = true := fun z => by rw [if_pos z] at h40; exact absurd h40 (by decide)
                   rw [if_neg hnt] at hfin
                   exact ih (i + 1) (by omega) acc hacc hfin)
                | (have ht : ps.testBit (dig x ((bl D).getD i 0)) = true := by
                     by_cases hz : ps.testBit (dig x ((bl D).getD i 0)) = true
                     · exact hz
                     · rw [if_neg hz] at h40; exact absurd rfl h40
                   rw [if_pos ht] at hfin
                   exact ih (i + 1) (by omega) _ o2 hfin)
  refine g_iconst dX2_parentsOf_0 ?_
  refine g_istore (ls' := [some _, some _, _, some _, some _, _]) dX2_parentsOf_1 (by decide) rfl ?_
  refine g_iconst dX2_parentsOf_3 ?_
  refine g_istore (ls' := [some _, some _, _, some _, some _, some _]) dX2_parentsOf_4 (by decide) rfl ?_
  exact loop (bl D).length 0 (by omega) 0 (by decide) rfl

theorem w_X2_climb_up {d : Nat} {D M : Mem} {x : Int64} {p0 : Nat} (hw : Wf D) (hK : KinOK D M) (hp0 : p0 < 16) : WP wdC (d + 2) mX2_climb [vr 67, vl x, vi p0, vr 69] M (fun v M' => v = none ∧ (∀ p, p ≠ 69 → M'.1 p = M.1 p) ∧ M'.2 = M.2 ∧ ∀ i, i < 11 → M'.1 69 i = (itN (dig x) (bl D) (2 ^ p0) i : Nat)) := by
  refine wp_of (by decide +kernel) (Nat.le_of_ble_eq_true rfl) ?_
  have h20 : (2 : Nat) ^ p0 < 65536 := Nat.lt_of_lt_of_le (Nat.pow_lt_pow_right (by decide) hp0) (by decide)
  have loop : ∀ n i : Nat, i + n = 11 → ∀ M1 : Mem, (∀ p, p ≠ 69 → M1.1 p = M.1 p) → M1.2 = M.2 → (∀ j, j < i → M1.1 69 j = (itN (dig x) (bl D) (2 ^ p0) j : Nat)) → G wdC mX2_climb (d + 2) (fun v M' => v = none ∧ (∀ p, p ≠ 69 → M'.1 p = M.1 p) ∧ M'.2 = M.2 ∧ ∀ i, i < 11 → M'.1 69 i = (itN (dig x) (bl D) (2 ^ p0) i : Nat)) 8 ([some (vr 67), some (vl x), none, some (vi p0), some (vr 69),  some (vi (itN (dig x) (bl D) (2 ^ p0) i : Nat)), some (vi i)]) [] M1 := by
    intro n
    induction n with
    | zero =>
      intro i hi M1 h1 h2 h3
      refine g_iload dX2_climb_8 rfl ?_
      refine g_aload dX2_climb_10 rfl ?_
      refine g_alen dX2_climb_12 rfl (Or.inl rfl) ?_
      refine g_icmp_ge (tgt := 38) dX2_climb_13 rfl (fun h13 => ?_) (fun h13 => ?_)
      · refine g_vret dX2_climb_38 rfl ?_
        exact ⟨rfl, h1, h2, fun j hj => h3 j (by omega)⟩
      · exfalso; omega
    | succ n ih =>
      intro i hi M1 h1 h2 h3
      have hlt := itN_lt (dig x) (dig_lt x) (bl D) (2 ^ p0) h20 i
      refine g_iload dX2_climb_8 rfl ?_
      refine g_aload dX2_climb_10 rfl ?_
      refine g_alen dX2_climb_12 rfl (Or.inl rfl) ?_
      refine g_icmp_ge (tgt := 38) dX2_climb_13 rfl (fun h13 => ?_) (fun h13 => ?_)
      · exfalso; omega
      · refine g_aload dX2_climb_16 rfl ?_
        refine g_iload dX2_climb_18 rfl ?_
        refine g_iload dX2_climb_20 rfl ?_
        refine g_iast dX2_climb_22 rfl (by decide) ?_
        try simp only [Int.toNat_natCast]
        refine g_aload_n dX2_climb_23 rfl rfl ?_
        refine g_lload_n dX2_climb_24 rfl rfl ?_
        refine g_iload dX2_climb_25 rfl ?_
        refine g_callVr dX2_climb_27 lX2_56 (w_X2_parentsOf (D := D) hw (M := si M1 69 i (itN (dig x) (bl D) (2 ^ p0) i : Nat)) ⟨by rw [si_1 _ _ _ _ _ (by decide), h1 _ (by decide)]; exact hK.1, fun j hj => by rw [si_1 _ _ _ _ _ (by decide), h1 _ (by decide)]; exact hK.2 j hj⟩ hlt) rfl rfl rfl rfl (Nat.le_of_ble_eq_true rfl) ?_
        refine g_istore (ls' := [some _, some _, _, some _, some _, some _, some _]) dX2_climb_30 (by decide) rfl ?_
        refine g_iinc (ls' := [some _, some _, _, some _, some _, some _, some _]) dX2_climb_32 rfl rfl ?_
        refine g_goto (tgt := 8) dX2_climb_35 rfl ?_
        refine ih (i + 1) (by omega) _ (fun p hp => by rw [si_1 _ _ _ _ _ hp]; exact h1 p hp) h2 (fun j hj => ?_)
        rw [sil]
        by_cases hji : j = i
        · subst hji; rw [if_pos ⟨rfl, rfl⟩]
        · rw [if_neg (by omega)]; exact h3 j (by omega)
  refine g_iconst dX2_climb_0 ?_
  refine g_iload_n dX2_climb_1 rfl rfl ?_
  refine g_ishl dX2_climb_2 ?_
  rw [shl_1 (by omega)]
  refine g_istore (ls' := [some _, some _, _, some _, some _, some _, _]) dX2_climb_3 (by decide) rfl ?_
  refine g_iconst dX2_climb_5 ?_
  refine g_istore (ls' := [some _, some _, _, some _, some _, some _, some _]) dX2_climb_6 (by decide) rfl ?_
  exact loop 11 0 (by omega) M (fun _ _ => rfl) rfl (fun j hj => absurd hj (by omega))

theorem w_X2_climb_back {d : Nat} {D M : Mem} {x : Int64} {p0 : Nat} (hw : Wf D) (hK : KinOK D M) (hp0 : p0 < 16) : WP wdC (d + 2) mX2_climb [vr 67, vl x, vi p0, vr 70] M (fun v M' => v = none ∧ (∀ p, p ≠ 70 → M'.1 p = M.1 p) ∧ M'.2 = M.2 ∧ ∀ i, i < 11 → M'.1 70 i = (itN (dig x) (bl D) (2 ^ p0) i : Nat)) := by
  refine wp_of (by decide +kernel) (Nat.le_of_ble_eq_true rfl) ?_
  have h20 : (2 : Nat) ^ p0 < 65536 := Nat.lt_of_lt_of_le (Nat.pow_lt_pow_right (by decide) hp0) (by decide)
  have loop : ∀ n i : Nat, i + n = 11 → ∀ M1 : Mem, (∀ p, p ≠ 70 → M1.1 p = M.1 p) → M1.2 = M.2 → (∀ j, j < i → M1.1 70 j = (itN (dig x) (bl D) (2 ^ p0) j : Nat)) → G wdC mX2_climb (d + 2) (fun v M' => v = none ∧ (∀ p, p ≠ 70 → M'.1 p = M.1 p) ∧ M'.2 = M.2 ∧ ∀ i, i < 11 → M'.1 70 i = (itN (dig x) (bl D) (2 ^ p0) i : Nat)) 8 ([some (vr 67), some (vl x), none, some (vi p0), some (vr 70),  some (vi (itN (dig x) (bl D) (2 ^ p0) i : Nat)), some (vi i)]) [] M1 := by
    intro n
    induction n with
    | zero =>
      intro i hi M1 h1 h2 h3
      refine g_iload dX2_climb_8 rfl ?_
      refine g_aload dX2_climb_10 rfl ?_
      refine g_alen dX2_climb_12 rfl (Or.inl rfl) ?_
      refine g_icmp_ge (tgt := 38) dX2_climb_13 rfl (fun h13 => ?_) (fun h13 => ?_)
      · refine g_vret dX2_climb_38 rfl ?_
        exact ⟨rfl, h1, h2, fun j hj => h3 j (by omega)⟩
      · exfalso; omega
    | succ n ih =>
      intro i hi M1 h1 h2 h3
      have hlt := itN_lt (dig x) (dig_lt x) (bl D) (2 ^ p0) h20 i
      refine g_iload dX2_climb_8 rfl ?_
      refine g_aload dX2_climb_10 rfl ?_
      refine g_alen dX2_climb_12 rfl (Or.inl rfl) ?_
      refine g_icmp_ge (tgt := 38) dX2_climb_13 rfl (fun h13 => ?_) (fun h13 => ?_)
      · exfalso; omega
      · refine g_aload dX2_climb_16 rfl ?_
        refine g_iload dX2_climb_18 rfl ?_
        refine g_iload dX2_climb_20 rfl ?_
        refine g_iast dX2_climb_22 rfl (by decide) ?_
        try simp only [Int.toNat_natCast]
        refine g_aload_n dX2_climb_23 rfl rfl ?_
        refine g_lload_n dX2_climb_24 rfl rfl ?_
        refine g_iload dX2_climb_25 rfl ?_
        refine g_callVr dX2_climb_27 lX2_56 (w_X2_parentsOf (D := D) hw (M := si M1 70 i (itN (dig x) (bl D) (2 ^ p0) i : Nat)) ⟨by rw [si_1 _ _ _ _ _ (by decide), h1 _ (by decide)]; exact hK.1, fun j hj => by rw [si_1 _ _ _ _ _ (by decide), h1 _ (by decide)]; exact hK.2 j hj⟩ hlt) rfl rfl rfl rfl (Nat.le_of_ble_eq_true rfl) ?_
        refine g_istore (ls' := [some _, some _, _, some _, some _, some _, some _]) dX2_climb_30 (by decide) rfl ?_
        refine g_iinc (ls' := [some _, some _, _, some _, some _, some _, some _]) dX2_climb_32 rfl rfl ?_
        refine g_goto (tgt := 8) dX2_climb_35 rfl ?_
        refine ih (i + 1) (by omega) _ (fun p hp => by rw [si_1 _ _ _ _ _ hp]; exact h1 p hp) h2 (fun j hj => ?_)
        rw [sil]
        by_cases hji : j = i
        · subst hji; rw [if_pos ⟨rfl, rfl⟩]
        · rw [if_neg (by omega)]; exact h3 j (by omega)
  refine g_iconst dX2_climb_0 ?_
  refine g_iload_n dX2_climb_1 rfl rfl ?_
  refine g_ishl dX2_climb_2 ?_
  rw [shl_1 (by omega)]
  refine g_istore (ls' := [some _, some _, _, some _, some _, some _, _]) dX2_climb_3 (by decide) rfl ?_
  refine g_iconst dX2_climb_5 ?_
  refine g_istore (ls' := [some _, some _, _, some _, some _, some _, some _]) dX2_climb_6 (by decide) rfl ?_
  exact loop 11 0 (by omega) M (fun _ _ => rfl) rfl (fun j hj => absurd hj (by omega))

theorem w_X2_tell {d : Nat} {D M : Mem} {x : Int64} {a c : Nat} (hw : Wf D) (hK : KinOK D M) (ha : a < 14) (hc : c < 14) : WP wdC (d + 3) mX2_tell [vr 67, vl x, vi a, vi c] M (fun v M' => v = some (vi (kinC (dig x) (bl D) a c)) ∧ ∀ p, p ≠ 69 → p ≠ 70 → M'.1 p = M.1 p ∧ M'.2 p = M.2 p) := by
  refine wp_of (by decide +kernel) (Nat.le_of_ble_eq_true rfl) ?_
  have dp := dig_lt x a
  have dc := dig_lt x c
  have loop : ∀ M1 : Mem, (∀ p, p ≠ 69 → p ≠ 70 → M1.1 p = M.1 p ∧ M1.2 p = M.2 p) → (∀ i, i < 11 → M1.1 69 i = (itN (dig x) (bl D) (2 ^ dig x a) i : Nat)) → (∀ i, i < 11 → M1.1 70 i = (itN (dig x) (bl D) (2 ^ dig x c) i : Nat)) → ∀ n s : Nat, s + n = 21 → ∀ x6 x7 : Option AV, kinS (itN (dig x) (bl D) (2 ^ dig x a)) (itN (dig x) (bl D) (2 ^ dig x c)) n s = kinC (dig x) (bl D) a c → G wdC mX2_tell (d + 3) (fun v M' => v = some (vi (kinC (dig x) (bl D) a c)) ∧ ∀ p, p ≠ 69 → p ≠ 70 → M'.1 p = M.1 p ∧ M'.2 p = M.2 p) 32 [some (vr 67), some (vl x), none, some (vi a), some (vi c), some (vi s), x6, x7] [] M1 := by
    intro M1 hF hu hv n
    have u1 := itN_lt (dig x) (dig_lt x) (bl D) (2 ^ dig x a) (Nat.lt_of_lt_of_le (Nat.pow_lt_pow_right (by decide) dp) (by decide))
    have v1 := itN_lt (dig x) (dig_lt x) (bl D) (2 ^ dig x c) (Nat.lt_of_lt_of_le (Nat.pow_lt_pow_right (by decide) dc) (by decide))
    induction n with
    | zero =>
      intro s hs x6 x7 hfin
      refine g_iload dX2_tell_32 rfl ?_
      refine g_bipush dX2_tell_34 rfl ?_
      refine g_icmp_gt (tgt := 113) dX2_tell_36 rfl (fun h36 => ?_) (fun h36 => ?_)
      · refine g_iconst dX2_tell_113 ?_
        refine g_iret dX2_tell_114 rfl ?_
        exact ⟨by rw [← hfin]; rfl, hF⟩
      · exfalso; omega
    | succ n ih =>
      intro s hs x6 x7 hfin
      have inner : ∀ m u : Nat, (u + m = min s 10 + 1) → s - 10 ≤ u → ∀ x6 : Option AV, (match kinU (itN (dig x) (bl D) (2 ^ dig x a)) (itN (dig x) (bl D) (2 ^ dig x c)) s m u with | some z => z | none => kinS (itN (dig x) (bl D) (2 ^ dig x a)) (itN (dig x) (bl D) (2 ^ dig x c)) n (s + 1)) = kinC (dig x) (bl D) a c → G wdC mX2_tell (d + 3) (fun v M' => v = some (vi (kinC (dig x) (bl D) a c)) ∧ ∀ p, p ≠ 69 → p ≠ 70 → M'.1 p = M.1 p ∧ M'.2 p = M.2 p) 54 [some (vr 67), some (vl x), none, some (vi a), some (vi c), some (vi s), x6, some (vi u)] [] M1 := by
        intro m
        induction m with
        | zero =>
          intro u hu1 hu2 x6 hfin2
          refine g_iload dX2_tell_54 rfl ?_
          refine g_iload dX2_tell_56 rfl ?_
          refine g_icmp_gt (tgt := 107) dX2_tell_58 rfl (fun h58 => ?_) (fun h58 => ?_)
          · refine g_iinc (ls' := [some _, some _, _, some _, some _, some _, _, some _]) dX2_tell_107 rfl rfl ?_
            refine g_goto (tgt := 32) dX2_tell_110 rfl ?_
            exact ih (s + 1) (by omega) _ _ hfin2
          · refine g_iload dX2_tell_61 rfl ?_
            refine g_bipush dX2_tell_63 rfl ?_
            refine g_icmp_gt (tgt := 107) dX2_tell_65 rfl (fun h65 => ?_) (fun h65 => ?_)
            · refine g_iinc (ls' := [some _, some _, _, some _, some _, some _, _, some _]) dX2_tell_107 rfl rfl ?_
              refine g_goto (tgt := 32) dX2_tell_110 rfl ?_
              exact ih (s + 1) (by omega) _ _ hfin2
            · exfalso; omega
        | succ m ihm =>
          intro u hu1 hu2 x6 hfin2
          have e1 : ((s : Int) - u).toNat = s - u := by omega
          have ha1 := u1 u
          have hv1 := v1 (s - u)
          have hand : itN (dig x) (bl D) (2 ^ dig x a) u &&& itN (dig x) (bl D) (2 ^ dig x c) (s - u) ≤ itN (dig x) (bl D) (2 ^ dig x a) u := Nat.and_le_left
          refine g_iload dX2_tell_54 rfl ?_
          refine g_iload dX2_tell_56 rfl ?_
          refine g_icmp_gt (tgt := 107) dX2_tell_58 rfl (fun h58 => ?_) (fun h58 => ?_)
          · exfalso; omega
          · refine g_iload dX2_tell_61 rfl ?_
            refine g_bipush dX2_tell_63 rfl ?_
            refine g_icmp_gt (tgt := 107) dX2_tell_65 rfl (fun h65 => ?_) (fun h65 => ?_)
            · exfalso; omega
            · refine g_aload_n dX2_tell_68 rfl rfl ?_
              refine g_getr dX2_tell_69 fX2_15 rfl rfl ?_
              refine g_iload dX2_tell_72 rfl ?_
              refine g_iald dX2_tell_74 rfl (by decide) ?_
              try simp only [Int.toNat_natCast]
              rw [hu u (by omega)]
              refine g_aload_n dX2_tell_75 rfl rfl ?_
              refine g_getr dX2_tell_76 fX2_18 rfl rfl ?_
              refine g_iload dX2_tell_79 rfl ?_
              refine g_iload dX2_tell_81 rfl ?_
              refine g_isub dX2_tell_83 ?_
              refine g_iald dX2_tell_84 rfl (by decide) ?_
              try simp only [Int.toNat_natCast]
              rw [e1, hv (s - u) (by omega)]
              refine g_iand dX2_tell_85 ?_
              rw [band_nat (by omega) (by omega)]
              refine g_if_eq (tgt := 101) dX2_tell_86 rfl (fun h86 => ?_) (fun h86 => ?_)
              · refine g_iinc (ls' := [some _, some _, _, some _, some _, some _, _, some _]) dX2_tell_101 rfl rfl ?_
                refine g_goto (tgt := 54) dX2_tell_104 rfl ?_
                unfold kinU at hfin2
                rw [if_pos (by omega)] at hfin2
                exact ihm (u + 1) (by omega) (by omega) _ hfin2
              · refine g_bipush dX2_tell_89 rfl ?_
                refine g_iload dX2_tell_91 rfl ?_
                refine g_imul dX2_tell_93 ?_
                refine g_iload dX2_tell_94 rfl ?_
                refine g_iadd dX2_tell_96 ?_
                refine g_iload dX2_tell_97 rfl ?_
                refine g_isub dX2_tell_99 ?_
                refine g_iret dX2_tell_100 rfl ?_
                unfold kinU at hfin2
                rw [if_neg (by omega)] at hfin2
                exact ⟨by rw [← hfin2], hF⟩
      refine g_iload dX2_tell_32 rfl ?_
      refine g_bipush dX2_tell_34 rfl ?_
      refine g_icmp_gt (tgt := 113) dX2_tell_36 rfl (fun h36 => ?_) (fun h36 => ?_)
      · exfalso; omega
      · refine g_iconst dX2_tell_39 ?_
        refine g_iload dX2_tell_40 rfl ?_
        refine g_bipush dX2_tell_42 rfl ?_
        refine g_isub dX2_tell_44 ?_
        refine g_max dX2_tell_45 lX2_50 (Nat.le_of_ble_eq_true rfl) ?_
        rw [show max (0 : Int) ((s : Int) - 10) = ((s - 10 : Nat) : Int) by omega]
        refine g_istore (ls' := [some _, some _, _, some _, some _, some _, some _, _]) dX2_tell_48 (by decide) rfl ?_
        refine g_iload dX2_tell_50 rfl ?_
        refine g_istore (ls' := [some _, some _, _, some _, some _, some _, some _, some _]) dX2_tell_52 (by decide) rfl ?_
        exact inner _ (s - 10) (by omega) (Nat.le_refl _) _ hfin
  refine g_aload_n dX2_tell_0 rfl rfl ?_
  refine g_lload_n dX2_tell_1 rfl rfl ?_
  refine g_lload_n dX2_tell_2 rfl rfl ?_
  refine g_iload_n dX2_tell_3 rfl rfl ?_
  refine g_callSr dX2_tell_4 lX2_42 (w_X9_personIn (by omega)) rfl rfl (Nat.le_of_ble_eq_true rfl) ?_
  refine g_aload_n dX2_tell_7 rfl rfl ?_
  refine g_getr dX2_tell_8 fX2_15 rfl rfl ?_
  refine g_callV dX2_tell_11 lX2_46 (w_X2_climb_up hw hK dp) rfl rfl rfl rfl (Nat.le_of_ble_eq_true rfl) ?_
  rintro v M2 ⟨rfl, f1, f2, f3⟩
  show G _ _ _ _ _ _ [] M2
  refine g_aload_n dX2_tell_14 rfl rfl ?_
  refine g_lload_n dX2_tell_15 rfl rfl ?_
  refine g_lload_n dX2_tell_16 rfl rfl ?_
  refine g_iload dX2_tell_17 rfl ?_
  refine g_callSr dX2_tell_19 lX2_42 (w_X9_personIn (by omega)) rfl rfl (Nat.le_of_ble_eq_true rfl) ?_
  refine g_aload_n dX2_tell_22 rfl rfl ?_
  refine g_getr dX2_tell_23 fX2_18 rfl rfl ?_
  refine g_callV dX2_tell_26 lX2_46 (w_X2_climb_back (M := M2) hw ⟨by rw [f1 _ (by decide)]; exact hK.1, fun j hj => by rw [f1 _ (by decide)]; exact hK.2 j hj⟩ dc) rfl rfl rfl rfl (Nat.le_of_ble_eq_true rfl) ?_
  rintro v M3 ⟨rfl, k1, k2, k3⟩
  show G _ _ _ _ _ _ [] M3
  refine g_iconst dX2_tell_29 ?_
  refine g_istore (ls' := [some _, some _, _, some _, some _, some _, _, _]) dX2_tell_30 (by decide) rfl ?_
  exact loop M3 (fun p h1 h2 => ⟨by rw [k1 p h2, f1 p h1], by rw [k2, f2]⟩) (fun i hi => by rw [k1 _ (by decide)]; exact f3 i hi) k3 21 0 (by omega) _ _ rfl

