/-! MODULE 21: rows of roles of closed sets; the sets of records (the class's). -/
theorem first_mono {M : Mem} (hw : Wf M) : ∀ (k r : Nat), (r : Int) + 1 + k < M.1 1 10 → M.1 2 r + M.1 3 r ≤ M.1 2 (r + 1 + k)
  | 0, r, h => by rw [Nat.add_zero, hw.2.1.2.1 r (by omega)]; omega
  | k + 1, r, h => by
    have h1 := first_mono hw k r (by omega)
    have h2 := hw.2.1.2.1 (r + 1 + k) (by omega)
    have h3 := hw.2.1.1 (r + 1 + k) (by omega)
    rw [show r + 1 + (k + 1) = r + 1 + k + 1 by omega, h2]
    omega
theorem rec_uniq {M : Mem} (hw : Wf M) {r c : Nat} (hr : (r : Int) < M.1 1 10) (h1 : M.1 2 r ≤ c) (h2 : (c : Int) < M.1 2 r + M.1 3 r) (hc : (c : Int) < M.1 1 11) : M.1 5 c = r := by
  obtain ⟨g1, g2, g3, g4⟩ := hw.2.2.1 c hc
  rcases Int.lt_trichotomy (M.1 5 c) r with h | h | h
  · have := first_mono hw (r - (M.1 5 c).toNat - 1) (M.1 5 c).toNat (by omega)
    rw [show (M.1 5 c).toNat + 1 + (r - (M.1 5 c).toNat - 1) = r by omega] at this
    omega
  · exact h
  · have := first_mono hw ((M.1 5 c).toNat - r - 1) r (by omega)
    rw [show r + 1 + ((M.1 5 c).toNat - r - 1) = (M.1 5 c).toNat by omega] at this
    omega
theorem mem_ordOf {M : Mem} {s o : Nat} : o ∈ ordOf M s ↔ o < nN M ∧ s.testBit (M.1 5 o).toNat = true := by
  unfold ordOf
  rw [List.mem_filter, List.mem_range]
theorem ordOK_of {M : Mem} (hw : Wf M) {s : Nat} (hc : Closed M s) : OrdOK M (ordOf M s) := by
  have hB := hw.1
  unfold WfB at hB
  refine ⟨fun o ho => ?_, List.Pairwise.filter _ List.pairwise_lt_range, fun o ho hcp => ?_⟩
  · have := (mem_ordOf.mp ho).1
    unfold nN at this
    omega
  · obtain ⟨h1, h2⟩ := mem_ordOf.mp ho
    have hN : (o : Int) < M.1 1 11 := by unfold nN at h1; omega
    obtain ⟨g1, g2, g3, g4⟩ := hw.2.2.1 o hN
    obtain ⟨d1, d2⟩ := hw.2.2.2.2.1 o hN
    have hno : M.1 4 (M.1 5 o).toNat ≠ -1 := fun z => hcp (d1 z)
    have hC := hw.2.2.2.1 (M.1 5 o).toNat (by omega)
    obtain ⟨c1, c2, c3, c4⟩ := hC.resolve_left hno
    obtain ⟨e1, -⟩ := d2 c1
    have hR0 := hw.2.1.1 (M.1 4 (M.1 5 o).toNat).toNat (by omega)
    have hfm := first_mono hw ((M.1 5 o).toNat - (M.1 4 (M.1 5 o).toNat).toNat - 1) (M.1 4 (M.1 5 o).toNat).toNat (by omega)
    rw [show (M.1 4 (M.1 5 o).toNat).toNat + 1 + ((M.1 5 o).toNat - (M.1 4 (M.1 5 o).toNat).toNat - 1) = (M.1 5 o).toNat by omega] at hfm
    have hp0 : 0 ≤ M.1 10 o := by omega
    have hrec := rec_uniq hw (r := (M.1 4 (M.1 5 o).toNat).toNat) (c := (M.1 10 o).toNat) (by omega) (by omega) (by omega) (by omega)
    refine ⟨hp0, mem_ordOf.mpr ⟨by unfold nN; omega, ?_⟩, by omega, ?_⟩
    · rw [hrec, Int.toNat_natCast]
      exact hc _ (by omega) h2 hno
    · refine (hw.2.2.2.2.1 (M.1 10 o).toNat (by omega)).1 ?_
      rw [hrec, Int.toNat_natCast]
      exact c3
def stP (R : Res) : Int := if R.2.2 = true then 3 else if R.2.1.length = 0 then 1 else 2
def SetOK (D M : Mem) (s : Nat) : Prop := s < 256 → M.1 65 s = 0 ∨ (M.1 65 s = stP (seekP D (ordOf D s)) ∧ ∀ t ∈ ordOf D s, 0 ≤ M.1 66 (s * 14 + t) ∧ M.1 66 (s * 14 + t) < 16384 ∧ ∀ c ∈ ordOf D s, ((M.1 66 (s * 14 + t)).toNat.testBit c = true ↔ ∀ w ∈ (seekP D (ordOf D s)).2.1, per w.1 t = per w.1 c))
theorem stP_r (R : Res) : stP R = 1 ∨ stP R = 2 ∨ stP R = 3 := by unfold stP; split; simp; split <;> simp
theorem ordOf_dat {D M : Mem} (h : Dat D M) (s : Nat) : ordOf M s = ordOf D s := by
  unfold ordOf nN
  rw [(h 1 (by decide) (by decide)).1, (h 5 (by decide) (by decide)).1]
theorem mems_dat {D M : Mem} (h : Dat D M) (q : Nat) : ∀ a : Asg, mems M a q = mems D a q
  | [] => rfl
  | x :: r => by
    unfold mems
    rw [(h 10 (by decide) (by decide)).1, mems_dat h q r]
theorem feC_dat {D M : Mem} (h : Dat D M) (o : Nat) (ms : List Nat) : feC M o ms = feC D o ms := by
  have e := fun o => F_dat h o 0
  have f1 : eF M = eF D := funext fun o => (e o).1
  have f2 : lF M = lF D := funext fun o => (e o).2.1
  have f3 : mF M = mF D := funext fun o => (e o).2.2.1
  have f4 : cF M = cF D := funext fun o => (e o).2.2.2.1
  have f5 : alF M = alF D := funext fun o => (e o).2.2.2.2.1
  have f6 : deF M = deF D := funext fun o => (e o).2.2.2.2.2.1
  cases ms with
  | nil => unfold feC; rw [f1, f2]
  | cons p r => unfold feC; rw [f1, f2, f3, f4, f5, f6]
theorem addC_dat {D M : Mem} (h : Dat D M) (o : Nat) (ms : List Nat) : addC M o ms = addC D o ms := by
  have f7 : apF M o = apF D o := funext fun p => (F_dat h o p).2.2.2.2.2.2
  cases ms with
  | nil => unfold addC; rw [(h 12 (by decide) (by decide)).1]
  | cons p r => unfold addC; rw [f7]
theorem placeP_dat {D M : Mem} (h : Dat D M) : ∀ (rem : List Nat) (a : Asg) (ppl : Nat) (c : Int) (R : Res), placeP M rem a ppl c R = placeP D rem a ppl c R
  | [], a, ppl, c, R => rfl
  | o :: rem, a, ppl, c, R => by
    have e10 : M.1 10 = D.1 10 := (h 10 (by decide) (by decide)).1
    by_cases hc : D.1 10 o = -1
    · rw [placeP_o hc, placeP_o (by rw [e10]; exact hc)]
      congr 1
      funext q R
      unfold stepP
      rw [mems_dat h, feC_dat h, addC_dat h, (h 12 (by decide) (by decide)).1, placeP_dat h rem]
    · rw [placeP_c hc, placeP_c (by rw [e10]; exact hc), e10, placeP_dat h rem]
theorem seekP_dat {D M : Mem} (h : Dat D M) (s : Nat) : seekP M (ordOf M s) = seekP D (ordOf D s) := by
  unfold seekP
  rw [ordOf_dat h, placeP_dat h]
theorem Tab_D {D M : Mem} (h : Dat D M) (hT : TabD D M) : Tab M := by
  obtain ⟨h1, h2, h3⟩ := hT
  refine ⟨fun o ho => ?_, by rw [h2, (h 12 (by decide) (by decide)).1], by rw [h3, (h 12 (by decide) (by decide)).1]⟩
  rw [(h 1 (by decide) (by decide)).1] at ho
  obtain ⟨a1, a2, a3, a4, a5, a6, a7⟩ := h1 o ho
  have e := fun p => F_dat h o p
  exact ⟨by rw [a1, (e 0).1], by rw [a2, (e 0).2.1], by rw [a3, (e 0).2.2.1], by rw [a4, (e 0).2.2.2.1], by rw [a5, (e 0).2.2.2.2.1], by rw [a6, (e 0).2.2.2.2.2.1], fun p hp => by rw [a7 p hp, (e p).2.2.2.2.2.2]⟩
theorem Closed_dat {D M : Mem} (h : Dat D M) (s : Nat) : Closed M s ↔ Closed D s := by
  unfold Closed
  rw [(h 1 (by decide) (by decide)).1, (h 4 (by decide) (by decide)).1]

theorem w_X7_lookAt {d : Nat} {D M : Mem} {s : Nat} (hw : Wf D) (hD : Dat D M) (hT : TabD D M) (hS : ∀ s', SetOK D M s') (hs : s < 256) (hc : Closed D s) : WP wdC (d + 19) mX7_lookAt [vr 44, vi s] M (fun v M' => v = some (vi (stP (seekP D (ordOf D s)))) ∧ Fr 45 67 M M' ∧ M'.1 65 s = stP (seekP D (ordOf D s)) ∧ ∀ s', SetOK D M' s') := by
  refine wp_of (by decide +kernel) (Nat.le_of_ble_eq_true rfl) ?_
  have hst := hS s hs
  have hsr := stP_r (seekP D (ordOf D s))
  have hB := hw.1
  unfold WfB at hB
  have hrange : -2147483648 ≤ M.1 65 s ∧ M.1 65 s < 2147483648 := by rcases hst with h | h; omega; rw [h.1]; omega
  refine g_iload_n dX7_lookAt_0 rfl rfl ?_
  refine g_if_lt (tgt := 11) dX7_lookAt_1 rfl (fun h1 => ?_) (fun h1 => ?_)
  · exfalso; omega
  · refine g_iload_n dX7_lookAt_4 rfl rfl ?_
    refine g_sipush dX7_lookAt_5 rfl ?_
    refine g_icmp_lt (tgt := 13) dX7_lookAt_8 rfl (fun h8 => ?_) (fun h8 => ?_)
    · refine g_aload_n dX7_lookAt_13 rfl rfl ?_
      refine g_getr dX7_lookAt_14 fX7_9 rfl rfl ?_
      refine g_iload_n dX7_lookAt_17 rfl rfl ?_
      refine g_iald dX7_lookAt_18 rfl (by decide) ?_
      try simp only [Int.toNat_natCast]
      refine g_if_ne (tgt := 86) dX7_lookAt_19 rfl (fun h19 => ?_) (fun h19 => ?_)
      · refine g_aload_n dX7_lookAt_86 rfl rfl ?_
        refine g_getr dX7_lookAt_87 fX7_9 rfl rfl ?_
        refine g_iload_n dX7_lookAt_90 rfl rfl ?_
        refine g_iald dX7_lookAt_91 rfl (by decide) ?_
        try simp only [Int.toNat_natCast]
        refine g_iret dX7_lookAt_92 rfl ?_
        first
          | (have h := hst.resolve_left h19
             exact ⟨by rw [h.1], Fr.rf, h.1, hS⟩)
          | (have hst : (si M3 65 s 3).1 65 s = stP (seekP D (ordOf D s)) := by
               rw [si_eq]
               unfold stP
               first
                 | (rw [if_pos (by by_cases hz : (seekP D (ordOf D s)).2.2 = true; exact hz; rw [if_neg hz] at h63; exact absurd rfl h63)]; done)
                 | (rw [if_neg (fun hz => by rw [if_pos hz] at h63; exact absurd h63 (by decide)), if_pos (by omega)]; done)
                 | (rw [if_neg (fun hz => by rw [if_pos hz] at h63; exact absurd h63 (by decide)), if_neg (by omega)]; done)
             have hF3 : Fr 45 67 M (si M3 65 s 3) := (Fr.tr (f1.mono (Nat.le_refl _) (by decide)) (Fr.tr (fun p hp => ⟨hco p (by omega), by rw [hcJ]⟩) (Fr.si Fr.rf _ _ _)))
             refine ⟨by rw [← hst, si_eq]; simp, hF3, hst, fun s' => ?_⟩
             by_cases hss : s' = s
             · subst hss
               refine fun _ => Or.inr ⟨hst, fun t ht => ?_⟩
               have ht14 : t < 14 := by have := (mem_ordOf.mp ht).1; unfold nN at this; omega
               rw [si_1 _ _ _ _ _ (by decide), hcp, if_pos (by omega), show s' * 14 + t - s' * 14 = t by omega]
               exact hrj t ht
             · have h6 : ∀ t, t < 14 → (si M3 65 s 3).1 66 (s' * 14 + t) = M.1 66 (s' * 14 + t) := fun t ht => by
                 rw [si_1 _ _ _ _ _ (by decide), hcp, if_neg (by omega), (f1 66 (Or.inr (by decide))).1]
               have h5 : (si M3 65 s 3).1 65 s' = M.1 65 s' := by
                 rw [si_ne _ _ _ _ _ _ (fun z => hss z.2), hco _ (by decide), (f1 65 (Or.inr (by decide))).1]
               unfold SetOK
               rw [h5]
               refine fun h256 => (hS s' h256).imp id (fun h => ⟨h.1, fun t ht => ?_⟩)
               have ht14 : t < 14 := by have := (mem_ordOf.mp ht).1; unfold nN at this; omega
               rw [h6 t ht14]
               exact h.2 t ht)
          | (have hst : (si M3 65 s 1).1 65 s = stP (seekP D (ordOf D s)) := by
               rw [si_eq]
               unfold stP
               first
                 | (rw [if_pos (by by_cases hz : (seekP D (ordOf D s)).2.2 = true; exact hz; rw [if_neg hz] at h63; exact absurd rfl h63)]; done)
                 | (rw [if_neg (fun hz => by rw [if_pos hz] at h63; exact absurd h63 (by decide)), if_pos (by omega)]; done)
                 | (rw [if_neg (fun hz => by rw [if_pos hz] at h63; exact absurd h63 (by decide)), if_neg (by omega)]; done)
             have hF3 : Fr 45 67 M (si M3 65 s 1) := (Fr.tr (f1.mono (Nat.le_refl _) (by decide)) (Fr.tr (fun p hp => ⟨hco p (by omega), by rw [hcJ]⟩) (Fr.si Fr.rf _ _ _)))
             refine ⟨by rw [← hst, si_eq]; simp, hF3, hst, fun s' => ?_⟩
             by_cases hss : s' = s
             · subst hss
               refine fun _ => Or.inr ⟨hst, fun t ht => ?_⟩
               have ht14 : t < 14 := by have := (mem_ordOf.mp ht).1; unfold nN at this; omega
               rw [si_1 _ _ _ _ _ (by decide), hcp, if_pos (by omega), show s' * 14 + t - s' * 14 = t by omega]
               exact hrj t ht
             · have h6 : ∀ t, t < 14 → (si M3 65 s 1).1 66 (s' * 14 + t) = M.1 66 (s' * 14 + t) := fun t ht => by
                 rw [si_1 _ _ _ _ _ (by decide), hcp, if_neg (by omega), (f1 66 (Or.inr (by decide))).1]
               have h5 : (si M3 65 s 1).1 65 s' = M.1 65 s' := by
                 rw [si_ne _ _ _ _ _ _ (fun z => hss z.2), hco _ (by decide), (f1 65 (Or.inr (by decide))).1]
               unfold SetOK
               rw [h5]
               refine fun h256 => (hS s' h256).imp id (fun h => ⟨h.1, fun t ht => ?_⟩)
               have ht14 : t < 14 := by have := (mem_ordOf.mp ht).1; unfold nN at this; omega
               rw [h6 t ht14]
               exact h.2 t ht)
          | (have hst : (si M3 65 s 2).1 65 s = stP (seekP D (ordOf D s)) := by
               rw [si_eq]
               unfold stP
               first
                 | (rw [if_pos (by by_cases hz : (seekP D (ordOf D s)).2.2 = true; exact hz; rw [if_neg hz] at h63; exact absurd rfl h63)]; done)
                 | (rw [if_neg (fun hz => by rw [if_pos hz] at h63; exact absurd h63 (by decide)), if_pos (by omega)]; done)
                 | (rw [if_neg (fun hz => by rw [if_pos hz] at h63; exact absurd h63 (by decide)), if_neg (by omega)]; done)
             have hF3 : Fr 45 67 M (si M3 65 s 2) := (Fr.tr (f1.mono (Nat.le_refl _) (by decide)) (Fr.tr (fun p hp => ⟨hco p (by omega), by rw [hcJ]⟩) (Fr.si Fr.rf _ _ _)))
             refine ⟨by rw [← hst, si_eq]; simp, hF3, hst, fun s' => ?_⟩
             by_cases hss : s' = s
             · subst hss
               refine fun _ => Or.inr ⟨hst, fun t ht => ?_⟩
               have ht14 : t < 14 := by have := (mem_ordOf.mp ht).1; unfold nN at this; omega
               rw [si_1 _ _ _ _ _ (by decide), hcp, if_pos (by omega), show s' * 14 + t - s' * 14 = t by omega]
               exact hrj t ht
             · have h6 : ∀ t, t < 14 → (si M3 65 s 2).1 66 (s' * 14 + t) = M.1 66 (s' * 14 + t) := fun t ht => by
                 rw [si_1 _ _ _ _ _ (by decide), hcp, if_neg (by omega), (f1 66 (Or.inr (by decide))).1]
               have h5 : (si M3 65 s 2).1 65 s' = M.1 65 s' := by
                 rw [si_ne _ _ _ _ _ _ (fun z => hss z.2), hco _ (by decide), (f1 65 (Or.inr (by decide))).1]
               unfold SetOK
               rw [h5]
               refine fun h256 => (hS s' h256).imp id (fun h => ⟨h.1, fun t ht => ?_⟩)
               have ht14 : t < 14 := by have := (mem_ordOf.mp ht).1; unfold nN at this; omega
               rw [h6 t ht14]
               exact h.2 t ht)
      · refine g_aload_n dX7_lookAt_22 rfl rfl ?_
        refine g_getr dX7_lookAt_23 fX7_22 rfl rfl ?_
        refine g_iload_n dX7_lookAt_26 rfl rfl ?_
        refine g_callV dX7_lookAt_27 lX7_68 (w_seek_V (d := d) (M := M) (hw.dat hD) (Tab_D hD hT) hs (ordOK_of (hw.dat hD) ((Closed_dat hD s).mpr hc))) rfl rfl rfl rfl (Nat.le_of_ble_eq_true rfl) ?_
        rintro v M2 ⟨rfl, f1, f2⟩
        show G _ _ _ _ _ _ [] M2
        rw [seekP_dat hD, ordOf_dat hD] at f2
        refine g_aload_n dX7_lookAt_30 rfl rfl ?_
        refine g_getr dX7_lookAt_31 fX7_22 rfl rfl ?_
        refine g_getr dX7_lookAt_34 fX7_74 rfl rfl ?_
        refine g_iconst dX7_lookAt_37 ?_
        refine g_aload_n dX7_lookAt_38 rfl rfl ?_
        refine g_getr dX7_lookAt_39 fX7_15 rfl rfl ?_
        refine g_iload_n dX7_lookAt_42 rfl rfl ?_
        refine g_bipush dX7_lookAt_43 rfl ?_
        refine g_imul dX7_lookAt_45 ?_
        refine g_bipush dX7_lookAt_46 rfl ?_
        refine g_acopy dX7_lookAt_48 lX7_75 rfl rfl (by decide) (by decide) ?_
        have e14 : ((s : Int) * 14).toNat = s * 14 := by omega
        rw [e14]
        have hrj := f2.2.2.2.2.2.2
        have r12 : M2.1 45 12 = (seekP D (ordOf D s)).2.1.length := f2.2.1
        have r13 : M2.1 45 13 = (if (seekP D (ordOf D s)).2.2 = true then 1 else 0) := f2.2.2.1
        have hcp : ∀ k, (cpM M2 48 (0 : Int).toNat 66 (s * 14) (14 : Int).toNat).1 66 k = if s * 14 ≤ k ∧ k < s * 14 + 14 then M2.1 48 (k - s * 14) else M2.1 66 k := fun k => by
          show (if 66 = 66 ∧ s * 14 ≤ k ∧ k < s * 14 + 14 then M2.1 48 (0 + (k - s * 14)) else M2.1 66 k) = _
          by_cases hz : s * 14 ≤ k ∧ k < s * 14 + 14
          · rw [if_pos ⟨rfl, hz⟩, if_pos hz, Nat.zero_add]
          · rw [if_neg (fun z => hz z.2), if_neg hz]
        have hco : ∀ p, p ≠ 66 → (cpM M2 48 (0 : Int).toNat 66 (s * 14) (14 : Int).toNat).1 p = M2.1 p := fun p hp => by
          funext k
          show (if p = 66 ∧ _ then _ else _) = _
          rw [if_neg (fun z => hp z.1)]
        have hcJ : (cpM M2 48 (0 : Int).toNat 66 (s * 14) (14 : Int).toNat).2 = M2.2 := rfl
        generalize cpM M2 48 (0 : Int).toNat 66 (s * 14) (14 : Int).toNat = M3 at *
        refine g_aload_n dX7_lookAt_51 rfl rfl ?_
        refine g_getr dX7_lookAt_52 fX7_9 rfl rfl ?_
        refine g_iload_n dX7_lookAt_55 rfl rfl ?_
        refine g_aload_n dX7_lookAt_56 rfl rfl ?_
        refine g_getr dX7_lookAt_57 fX7_22 rfl rfl ?_
        refine g_get dX7_lookAt_60 fX7_81 rfl rfl ?_
        try simp only [sil, sjl, Nat.reduceAdd, Nat.reduceEqDiff, eq_self, false_and, and_false, true_and, and_true, if_false, if_true, reduceIte]
        rw [show M3.1 45 13 = M2.1 45 13 by rw [hco _ (by decide)], r13]
        have hbb : (if (seekP D (ordOf D s)).2.2 = true then (1 : Int) else 0) = 0 ∨ (if (seekP D (ordOf D s)).2.2 = true then (1 : Int) else 0) = 1 := by split <;> simp
        refine g_if_eq (tgt := 70) dX7_lookAt_63 rfl (fun h63 => ?_) (fun h63 => ?_)
        · refine g_aload_n dX7_lookAt_70 rfl rfl ?_
          refine g_getr dX7_lookAt_71 fX7_22 rfl rfl ?_
          refine g_get dX7_lookAt_74 fX7_85 rfl rfl ?_
          try simp only [sil, sjl, Nat.reduceAdd, Nat.reduceEqDiff, eq_self, false_and, and_false, true_and, and_true, if_false, if_true, reduceIte]
          rw [show M3.1 45 12 = M2.1 45 12 by rw [hco _ (by decide)], r12]
          have hfl := f2.2.2.2.2.1
          refine g_if_ne (tgt := 84) dX7_lookAt_77 rfl (fun h77 => ?_) (fun h77 => ?_)
          · refine g_iconst dX7_lookAt_84 ?_
            refine g_iast dX7_lookAt_85 rfl (by decide) ?_
            try simp only [Int.toNat_natCast]
            refine g_aload_n dX7_lookAt_86 rfl rfl ?_
            refine g_getr dX7_lookAt_87 fX7_9 rfl rfl ?_
            refine g_iload_n dX7_lookAt_90 rfl rfl ?_
            refine g_iald dX7_lookAt_91 rfl (by decide) ?_
            try simp only [sil, sjl, Nat.reduceAdd, Nat.reduceEqDiff, eq_self, false_and, and_false, true_and, and_true, if_false, if_true, reduceIte]
            try simp only [Int.toNat_natCast]
            refine g_iret dX7_lookAt_92 rfl ?_
            first
              | (have h := hst.resolve_left h19
                 exact ⟨by rw [h.1], Fr.rf, h.1, hS⟩)
              | (have hst : (si M3 65 s 3).1 65 s = stP (seekP D (ordOf D s)) := by
                   rw [si_eq]
                   unfold stP
                   first
                     | (rw [if_pos (by by_cases hz : (seekP D (ordOf D s)).2.2 = true; exact hz; rw [if_neg hz] at h63; exact absurd rfl h63)]; done)
                     | (rw [if_neg (fun hz => by rw [if_pos hz] at h63; exact absurd h63 (by decide)), if_pos (by omega)]; done)
                     | (rw [if_neg (fun hz => by rw [if_pos hz] at h63; exact absurd h63 (by decide)), if_neg (by omega)]; done)
                 have hF3 : Fr 45 67 M (si M3 65 s 3) := (Fr.tr (f1.mono (Nat.le_refl _) (by decide)) (Fr.tr (fun p hp => ⟨hco p (by omega), by rw [hcJ]⟩) (Fr.si Fr.rf _ _ _)))
                 refine ⟨by rw [← hst, si_eq]; simp, hF3, hst, fun s' => ?_⟩
                 by_cases hss : s' = s
                 · subst hss
                   refine fun _ => Or.inr ⟨hst, fun t ht => ?_⟩
                   have ht14 : t < 14 := by have := (mem_ordOf.mp ht).1; unfold nN at this; omega
                   rw [si_1 _ _ _ _ _ (by decide), hcp, if_pos (by omega), show s' * 14 + t - s' * 14 = t by omega]
                   exact hrj t ht
                 · have h6 : ∀ t, t < 14 → (si M3 65 s 3).1 66 (s' * 14 + t) = M.1 66 (s' * 14 + t) := fun t ht => by
                     rw [si_1 _ _ _ _ _ (by decide), hcp, if_neg (by omega), (f1 66 (Or.inr (by decide))).1]
                   have h5 : (si M3 65 s 3).1 65 s' = M.1 65 s' := by
                     rw [si_ne _ _ _ _ _ _ (fun z => hss z.2), hco _ (by decide), (f1 65 (Or.inr (by decide))).1]
                   unfold SetOK
                   rw [h5]
                   refine fun h256 => (hS s' h256).imp id (fun h => ⟨h.1, fun t ht => ?_⟩)
                   have ht14 : t < 14 := by have := (mem_ordOf.mp ht).1; unfold nN at this; omega
                   rw [h6 t ht14]
                   exact h.2 t ht)
              | (have hst : (si M3 65 s 1).1 65 s = stP (seekP D (ordOf D s)) := by
                   rw [si_eq]
                   unfold stP
                   first
                     | (rw [if_pos (by by_cases hz : (seekP D (ordOf D s)).2.2 = true; exact hz; rw [if_neg hz] at h63; exact absurd rfl h63)]; done)
                     | (rw [if_neg (fun hz => by rw [if_pos hz] at h63; exact absurd h63 (by decide)), if_pos (by omega)]; done)
                     | (rw [if_neg (fun hz => by rw [if_pos hz] at h63; exact absurd h63 (by decide)), if_neg (by omega)]; done)
                 have hF3 : Fr 45 67 M (si M3 65 s 1) := (Fr.tr (f1.mono (Nat.le_refl _) (by decide)) (Fr.tr (fun p hp => ⟨hco p (by omega), by rw [hcJ]⟩) (Fr.si Fr.rf _ _ _)))
                 refine ⟨by rw [← hst, si_eq]; simp, hF3, hst, fun s' => ?_⟩
                 by_cases hss : s' = s
                 · subst hss
                   refine fun _ => Or.inr ⟨hst, fun t ht => ?_⟩
                   have ht14 : t < 14 := by have := (mem_ordOf.mp ht).1; unfold nN at this; omega
                   rw [si_1 _ _ _ _ _ (by decide), hcp, if_pos (by omega), show s' * 14 + t - s' * 14 = t by omega]
                   exact hrj t ht
                 · have h6 : ∀ t, t < 14 → (si M3 65 s 1).1 66 (s' * 14 + t) = M.1 66 (s' * 14 + t) := fun t ht => by
                     rw [si_1 _ _ _ _ _ (by decide), hcp, if_neg (by omega), (f1 66 (Or.inr (by decide))).1]
                   have h5 : (si M3 65 s 1).1 65 s' = M.1 65 s' := by
                     rw [si_ne _ _ _ _ _ _ (fun z => hss z.2), hco _ (by decide), (f1 65 (Or.inr (by decide))).1]
                   unfold SetOK
                   rw [h5]
                   refine fun h256 => (hS s' h256).imp id (fun h => ⟨h.1, fun t ht => ?_⟩)
                   have ht14 : t < 14 := by have := (mem_ordOf.mp ht).1; unfold nN at this; omega
                   rw [h6 t ht14]
                   exact h.2 t ht)
              | (have hst : (si M3 65 s 2).1 65 s = stP (seekP D (ordOf D s)) := by
                   rw [si_eq]
                   unfold stP
                   first
                     | (rw [if_pos (by by_cases hz : (seekP D (ordOf D s)).2.2 = true; exact hz; rw [if_neg hz] at h63; exact absurd rfl h63)]; done)
                     | (rw [if_neg (fun hz => by rw [if_pos hz] at h63; exact absurd h63 (by decide)), if_pos (by omega)]; done)
                     | (rw [if_neg (fun hz => by rw [if_pos hz] at h63; exact absurd h63 (by decide)), if_neg (by omega)]; done)
                 have hF3 : Fr 45 67 M (si M3 65 s 2) := (Fr.tr (f1.mono (Nat.le_refl _) (by decide)) (Fr.tr (fun p hp => ⟨hco p (by omega), by rw [hcJ]⟩) (Fr.si Fr.rf _ _ _)))
                 refine ⟨by rw [← hst, si_eq]; simp, hF3, hst, fun s' => ?_⟩
                 by_cases hss : s' = s
                 · subst hss
                   refine fun _ => Or.inr ⟨hst, fun t ht => ?_⟩
                   have ht14 : t < 14 := by have := (mem_ordOf.mp ht).1; unfold nN at this; omega
                   rw [si_1 _ _ _ _ _ (by decide), hcp, if_pos (by omega), show s' * 14 + t - s' * 14 = t by omega]
                   exact hrj t ht
                 · have h6 : ∀ t, t < 14 → (si M3 65 s 2).1 66 (s' * 14 + t) = M.1 66 (s' * 14 + t) := fun t ht => by
                     rw [si_1 _ _ _ _ _ (by decide), hcp, if_neg (by omega), (f1 66 (Or.inr (by decide))).1]
                   have h5 : (si M3 65 s 2).1 65 s' = M.1 65 s' := by
                     rw [si_ne _ _ _ _ _ _ (fun z => hss z.2), hco _ (by decide), (f1 65 (Or.inr (by decide))).1]
                   unfold SetOK
                   rw [h5]
                   refine fun h256 => (hS s' h256).imp id (fun h => ⟨h.1, fun t ht => ?_⟩)
                   have ht14 : t < 14 := by have := (mem_ordOf.mp ht).1; unfold nN at this; omega
                   rw [h6 t ht14]
                   exact h.2 t ht)
          · refine g_iconst dX7_lookAt_80 ?_
            refine g_goto (tgt := 85) dX7_lookAt_81 rfl ?_
            refine g_iast dX7_lookAt_85 rfl (by decide) ?_
            try simp only [Int.toNat_natCast]
            refine g_aload_n dX7_lookAt_86 rfl rfl ?_
            refine g_getr dX7_lookAt_87 fX7_9 rfl rfl ?_
            refine g_iload_n dX7_lookAt_90 rfl rfl ?_
            refine g_iald dX7_lookAt_91 rfl (by decide) ?_
            try simp only [sil, sjl, Nat.reduceAdd, Nat.reduceEqDiff, eq_self, false_and, and_false, true_and, and_true, if_false, if_true, reduceIte]
            try simp only [Int.toNat_natCast]
            refine g_iret dX7_lookAt_92 rfl ?_
            first
              | (have h := hst.resolve_left h19
                 exact ⟨by rw [h.1], Fr.rf, h.1, hS⟩)
              | (have hst : (si M3 65 s 3).1 65 s = stP (seekP D (ordOf D s)) := by
                   rw [si_eq]
                   unfold stP
                   first
                     | (rw [if_pos (by by_cases hz : (seekP D (ordOf D s)).2.2 = true; exact hz; rw [if_neg hz] at h63; exact absurd rfl h63)]; done)
                     | (rw [if_neg (fun hz => by rw [if_pos hz] at h63; exact absurd h63 (by decide)), if_pos (by omega)]; done)
                     | (rw [if_neg (fun hz => by rw [if_pos hz] at h63; exact absurd h63 (by decide)), if_neg (by omega)]; done)
                 have hF3 : Fr 45 67 M (si M3 65 s 3) := (Fr.tr (f1.mono (Nat.le_refl _) (by decide)) (Fr.tr (fun p hp => ⟨hco p (by omega), by rw [hcJ]⟩) (Fr.si Fr.rf _ _ _)))
                 refine ⟨by rw [← hst, si_eq]; simp, hF3, hst, fun s' => ?_⟩
                 by_cases hss : s' = s
                 · subst hss
                   refine fun _ => Or.inr ⟨hst, fun t ht => ?_⟩
                   have ht14 : t < 14 := by have := (mem_ordOf.mp ht).1; unfold nN at this; omega
                   rw [si_1 _ _ _ _ _ (by decide), hcp, if_pos (by omega), show s' * 14 + t - s' * 14 = t by omega]
                   exact hrj t ht
                 · have h6 : ∀ t, t < 14 → (si M3 65 s 3).1 66 (s' * 14 + t) = M.1 66 (s' * 14 + t) := fun t ht => by
                     rw [si_1 _ _ _ _ _ (by decide), hcp, if_neg (by omega), (f1 66 (Or.inr (by decide))).1]
                   have h5 : (si M3 65 s 3).1 65 s' = M.1 65 s' := by
                     rw [si_ne _ _ _ _ _ _ (fun z => hss z.2), hco _ (by decide), (f1 65 (Or.inr (by decide))).1]
                   unfold SetOK
                   rw [h5]
                   refine fun h256 => (hS s' h256).imp id (fun h => ⟨h.1, fun t ht => ?_⟩)
                   have ht14 : t < 14 := by have := (mem_ordOf.mp ht).1; unfold nN at this; omega
                   rw [h6 t ht14]
                   exact h.2 t ht)
              | (have hst : (si M3 65 s 1).1 65 s = stP (seekP D (ordOf D s)) := by
                   rw [si_eq]
                   unfold stP
                   first
                     | (rw [if_pos (by by_cases hz : (seekP D (ordOf D s)).2.2 = true; exact hz; rw [if_neg hz] at h63; exact absurd rfl h63)]; done)
                     | (rw [if_neg (fun hz => by rw [if_pos hz] at h63; exact absurd h63 (by decide)), if_pos (by omega)]; done)
                     | (rw [if_neg (fun hz => by rw [if_pos hz] at h63; exact absurd h63 (by decide)), if_neg (by omega)]; done)
                 have hF3 : Fr 45 67 M (si M3 65 s 1) := (Fr.tr (f1.mono (Nat.le_refl _) (by decide)) (Fr.tr (fun p hp => ⟨hco p (by omega), by rw [hcJ]⟩) (Fr.si Fr.rf _ _ _)))
                 refine ⟨by rw [← hst, si_eq]; simp, hF3, hst, fun s' => ?_⟩
                 by_cases hss : s' = s
                 · subst hss
                   refine fun _ => Or.inr ⟨hst, fun t ht => ?_⟩
                   have ht14 : t < 14 := by have := (mem_ordOf.mp ht).1; unfold nN at this; omega
                   rw [si_1 _ _ _ _ _ (by decide), hcp, if_pos (by omega), show s' * 14 + t - s' * 14 = t by omega]
                   exact hrj t ht
                 · have h6 : ∀ t, t < 14 → (si M3 65 s 1).1 66 (s' * 14 + t) = M.1 66 (s' * 14 + t) := fun t ht => by
                     rw [si_1 _ _ _ _ _ (by decide), hcp, if_neg (by omega), (f1 66 (Or.inr (by decide))).1]
                   have h5 : (si M3 65 s 1).1 65 s' = M.1 65 s' := by
                     rw [si_ne _ _ _ _ _ _ (fun z => hss z.2), hco _ (by decide), (f1 65 (Or.inr (by decide))).1]
                   unfold SetOK
                   rw [h5]
                   refine fun h256 => (hS s' h256).imp id (fun h => ⟨h.1, fun t ht => ?_⟩)
                   have ht14 : t < 14 := by have := (mem_ordOf.mp ht).1; unfold nN at this; omega
                   rw [h6 t ht14]
                   exact h.2 t ht)
              | (have hst : (si M3 65 s 2).1 65 s = stP (seekP D (ordOf D s)) := by
                   rw [si_eq]
                   unfold stP
                   first
                     | (rw [if_pos (by by_cases hz : (seekP D (ordOf D s)).2.2 = true; exact hz; rw [if_neg hz] at h63; exact absurd rfl h63)]; done)
                     | (rw [if_neg (fun hz => by rw [if_pos hz] at h63; exact absurd h63 (by decide)), if_pos (by omega)]; done)
                     | (rw [if_neg (fun hz => by rw [if_pos hz] at h63; exact absurd h63 (by decide)), if_neg (by omega)]; done)
                 have hF3 : Fr 45 67 M (si M3 65 s 2) := (Fr.tr (f1.mono (Nat.le_refl _) (by decide)) (Fr.tr (fun p hp => ⟨hco p (by omega), by rw [hcJ]⟩) (Fr.si Fr.rf _ _ _)))
                 refine ⟨by rw [← hst, si_eq]; simp, hF3, hst, fun s' => ?_⟩
                 by_cases hss : s' = s
                 · subst hss
                   refine fun _ => Or.inr ⟨hst, fun t ht => ?_⟩
                   have ht14 : t < 14 := by have := (mem_ordOf.mp ht).1; unfold nN at this; omega
                   rw [si_1 _ _ _ _ _ (by decide), hcp, if_pos (by omega), show s' * 14 + t - s' * 14 = t by omega]
                   exact hrj t ht
                 · have h6 : ∀ t, t < 14 → (si M3 65 s 2).1 66 (s' * 14 + t) = M.1 66 (s' * 14 + t) := fun t ht => by
                     rw [si_1 _ _ _ _ _ (by decide), hcp, if_neg (by omega), (f1 66 (Or.inr (by decide))).1]
                   have h5 : (si M3 65 s 2).1 65 s' = M.1 65 s' := by
                     rw [si_ne _ _ _ _ _ _ (fun z => hss z.2), hco _ (by decide), (f1 65 (Or.inr (by decide))).1]
                   unfold SetOK
                   rw [h5]
                   refine fun h256 => (hS s' h256).imp id (fun h => ⟨h.1, fun t ht => ?_⟩)
                   have ht14 : t < 14 := by have := (mem_ordOf.mp ht).1; unfold nN at this; omega
                   rw [h6 t ht14]
                   exact h.2 t ht)
        · refine g_iconst dX7_lookAt_66 ?_
          refine g_goto (tgt := 85) dX7_lookAt_67 rfl ?_
          refine g_iast dX7_lookAt_85 rfl (by decide) ?_
          try simp only [Int.toNat_natCast]
          refine g_aload_n dX7_lookAt_86 rfl rfl ?_
          refine g_getr dX7_lookAt_87 fX7_9 rfl rfl ?_
          refine g_iload_n dX7_lookAt_90 rfl rfl ?_
          refine g_iald dX7_lookAt_91 rfl (by decide) ?_
          try simp only [sil, sjl, Nat.reduceAdd, Nat.reduceEqDiff, eq_self, false_and, and_false, true_and, and_true, if_false, if_true, reduceIte]
          try simp only [Int.toNat_natCast]
          refine g_iret dX7_lookAt_92 rfl ?_
          first
            | (have h := hst.resolve_left h19
               exact ⟨by rw [h.1], Fr.rf, h.1, hS⟩)
            | (have hst : (si M3 65 s 3).1 65 s = stP (seekP D (ordOf D s)) := by
                 rw [si_eq]
                 unfold stP
                 first
                   | (rw [if_pos (by by_cases hz : (seekP D (ordOf D s)).2.2 = true; exact hz; rw [if_neg hz] at h63; exact absurd rfl h63)]; done)
                   | (rw [if_neg (fun hz => by rw [if_pos hz] at h63; exact absurd h63 (by decide)), if_pos (by omega)]; done)
                   | (rw [if_neg (fun hz => by rw [if_pos hz] at h63; exact absurd h63 (by decide)), if_neg (by omega)]; done)
               have hF3 : Fr 45 67 M (si M3 65 s 3) := (Fr.tr (f1.mono (Nat.le_refl _) (by decide)) (Fr.tr (fun p hp => ⟨hco p (by omega), by rw [hcJ]⟩) (Fr.si Fr.rf _ _ _)))
               refine ⟨by rw [← hst, si_eq]; simp, hF3, hst, fun s' => ?_⟩
               by_cases hss : s' = s
               · subst hss
                 refine fun _ => Or.inr ⟨hst, fun t ht => ?_⟩
                 have ht14 : t < 14 := by have := (mem_ordOf.mp ht).1; unfold nN at this; omega
                 rw [si_1 _ _ _ _ _ (by decide), hcp, if_pos (by omega), show s' * 14 + t - s' * 14 = t by omega]
                 exact hrj t ht
               · have h6 : ∀ t, t < 14 → (si M3 65 s 3).1 66 (s' * 14 + t) = M.1 66 (s' * 14 + t) := fun t ht => by
                   rw [si_1 _ _ _ _ _ (by decide), hcp, if_neg (by omega), (f1 66 (Or.inr (by decide))).1]
                 have h5 : (si M3 65 s 3).1 65 s' = M.1 65 s' := by
                   rw [si_ne _ _ _ _ _ _ (fun z => hss z.2), hco _ (by decide), (f1 65 (Or.inr (by decide))).1]
                 unfold SetOK
                 rw [h5]
                 refine fun h256 => (hS s' h256).imp id (fun h => ⟨h.1, fun t ht => ?_⟩)
                 have ht14 : t < 14 := by have := (mem_ordOf.mp ht).1; unfold nN at this; omega
                 rw [h6 t ht14]
                 exact h.2 t ht)
            | (have hst : (si M3 65 s 1).1 65 s = stP (seekP D (ordOf D s)) := by
                 rw [si_eq]
                 unfold stP
                 first
                   | (rw [if_pos (by by_cases hz : (seekP D (ordOf D s)).2.2 = true; exact hz; rw [if_neg hz] at h63; exact absurd rfl h63)]; done)
                   | (rw [if_neg (fun hz => by rw [if_pos hz] at h63; exact absurd h63 (by decide)), if_pos (by omega)]; done)
                   | (rw [if_neg (fun hz => by rw [if_pos hz] at h63; exact absurd h63 (by decide)), if_neg (by omega)]; done)
               have hF3 : Fr 45 67 M (si M3 65 s 1) := (Fr.tr (f1.mono (Nat.le_refl _) (by decide)) (Fr.tr (fun p hp => ⟨hco p (by omega), by rw [hcJ]⟩) (Fr.si Fr.rf _ _ _)))
               refine ⟨by rw [← hst, si_eq]; simp, hF3, hst, fun s' => ?_⟩
               by_cases hss : s' = s
               · subst hss
                 refine fun _ => Or.inr ⟨hst, fun t ht => ?_⟩
                 have ht14 : t < 14 := by have := (mem_ordOf.mp ht).1; unfold nN at this; omega
                 rw [si_1 _ _ _ _ _ (by decide), hcp, if_pos (by omega), show s' * 14 + t - s' * 14 = t by omega]
                 exact hrj t ht
               · have h6 : ∀ t, t < 14 → (si M3 65 s 1).1 66 (s' * 14 + t) = M.1 66 (s' * 14 + t) := fun t ht => by
                   rw [si_1 _ _ _ _ _ (by decide), hcp, if_neg (by omega), (f1 66 (Or.inr (by decide))).1]
                 have h5 : (si M3 65 s 1).1 65 s' = M.1 65 s' := by
                   rw [si_ne _ _ _ _ _ _ (fun z => hss z.2), hco _ (by decide), (f1 65 (Or.inr (by decide))).1]
                 unfold SetOK
                 rw [h5]
                 refine fun h256 => (hS s' h256).imp id (fun h => ⟨h.1, fun t ht => ?_⟩)
                 have ht14 : t < 14 := by have := (mem_ordOf.mp ht).1; unfold nN at this; omega
                 rw [h6 t ht14]
                 exact h.2 t ht)
            | (have hst : (si M3 65 s 2).1 65 s = stP (seekP D (ordOf D s)) := by
                 rw [si_eq]
                 unfold stP
                 first
                   | (rw [if_pos (by by_cases hz : (seekP D (ordOf D s)).2.2 = true; exact hz; rw [if_neg hz] at h63; exact absurd rfl h63)]; done)
                   | (rw [if_neg (fun hz => by rw [if_pos hz] at h63; exact absurd h63 (by decide)), if_pos (by omega)]; done)
                   | (rw [if_neg (fun hz => by rw [if_pos hz] at h63; exact absurd h63 (by decide)), if_neg (by omega)]; done)
               have hF3 : Fr 45 67 M (si M3 65 s 2) := (Fr.tr (f1.mono (Nat.le_refl _) (by decide)) (Fr.tr (fun p hp => ⟨hco p (by omega), by rw [hcJ]⟩) (Fr.si Fr.rf _ _ _)))
               refine ⟨by rw [← hst, si_eq]; simp, hF3, hst, fun s' => ?_⟩
               by_cases hss : s' = s
               · subst hss
                 refine fun _ => Or.inr ⟨hst, fun t ht => ?_⟩
                 have ht14 : t < 14 := by have := (mem_ordOf.mp ht).1; unfold nN at this; omega
                 rw [si_1 _ _ _ _ _ (by decide), hcp, if_pos (by omega), show s' * 14 + t - s' * 14 = t by omega]
                 exact hrj t ht
               · have h6 : ∀ t, t < 14 → (si M3 65 s 2).1 66 (s' * 14 + t) = M.1 66 (s' * 14 + t) := fun t ht => by
                   rw [si_1 _ _ _ _ _ (by decide), hcp, if_neg (by omega), (f1 66 (Or.inr (by decide))).1]
                 have h5 : (si M3 65 s 2).1 65 s' = M.1 65 s' := by
                   rw [si_ne _ _ _ _ _ _ (fun z => hss z.2), hco _ (by decide), (f1 65 (Or.inr (by decide))).1]
                 unfold SetOK
                 rw [h5]
                 refine fun h256 => (hS s' h256).imp id (fun h => ⟨h.1, fun t ht => ?_⟩)
                 have ht14 : t < 14 := by have := (mem_ordOf.mp ht).1; unfold nN at this; omega
                 rw [h6 t ht14]
                 exact h.2 t ht)
    · exfalso; omega

