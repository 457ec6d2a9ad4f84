/-! MODULE 22: least sets (the class's). -/
def scanP (f : Nat → Option Int) : Nat → Nat → Option Int
  | 0, _ => none
  | n + 1, k => match f k with
    | some z => some z
    | none => scanP f n (k + 1)
/-- all ways of these records have the link -/
def joinsP (D : Mem) (s a c : Nat) : Prop := ∀ w ∈ (seekP D (ordOf D s)).2.1, per w.1 a = per w.1 c
abbrev lookP (D : Mem) (s many need : Nat) : Prop := pop8 s = many ∧ s &&& need = need ∧ Closed D s
def qStep (D : Mem) (many s : Nat) : Option Int := if lookP D s many 0 then (if stP (seekP D (ordOf D s)) = 1 then some (s : Int) else if stP (seekP D (ordOf D s)) = 3 then some (-1) else none) else none
def allS (D : Mem) : Nat := 2 ^ (nR D) - 1
def quarrelC (D : Mem) : Int := (scanP (fun many => scanP (qStep D many) (allS D - 1) 1) (nR D - 1) 1).getD (allS D)
noncomputable def pStep (D : Mem) (a c : Nat) (many s : Nat) : Option Int := if lookP D s many (2 ^ (D.1 5 a).toNat ||| 2 ^ (D.1 5 c).toNat) then (if stP (seekP D (ordOf D s)) = 3 then some (-1) else if stP (seekP D (ordOf D s)) = 2 ∧ @decide (joinsP D s a c) (Classical.propDecidable _) = true then some (s : Int) else none) else none
noncomputable def proofC (D : Mem) (a c : Nat) : Int := (scanP (fun many => scanP (pStep D a c many) (allS D - 1) 1) (nR D - 1) 1).getD (allS D)
theorem allS_lt {D : Mem} (h : D.1 1 10 ≤ 8) : allS D < 256 := by
  unfold allS
  have : 2 ^ nR D ≤ 2 ^ 8 := Nat.pow_le_pow_right (by decide) (by unfold nR; omega)
  omega
theorem scan_out {f : Nat → Option Int} {n k : Nat} {z : Int} (h : f k = some z) : scanP f (n + 1) k = some z := by unfold scanP; rw [h]
theorem scan_next {f : Nat → Option Int} {n k : Nat} (h : f k = none) : scanP f (n + 1) k = scanP f n (k + 1) := by
  show (match f k with | some z => some z | none => scanP f n (k + 1)) = _
  rw [h]
theorem w_X7_isLookedAt {d : Nat} {D M : Mem} {s many need : Nat} (hw : Wf D) (hD : Dat D M) (hs : s < 256) (hm : many < 100) (hn : need < 256) : WP wdC (d + 1) mX7_isLookedAt [vr 44, vi s, vi many, vi need] M (Ret (some (vi (bi (lookP D s many need)))) M) := by
  obtain ⟨⟨hR0, hR8, hN0, hN14⟩, hwR, hwO, hwC, hwD, hwV, hwL⟩ := hw.dat hD
  have hO : ∀ j : Nat, (j : Int) < M.1 1 10 → M.1 4 j = -1 ∨ (0 ≤ M.1 4 j ∧ M.1 4 j < 8) := fun j hj => (hwC j hj).imp id (fun h => by omega)
  have hp8 : pop8 s < 100 := by have : ∀ x : Fin 256, pop8 x.val < 100 := by decide +kernel
                                exact this ⟨s, hs⟩
  have hle : s &&& need ≤ s := Nat.and_le_left
  have hcl := Closed_dat hD s
  refine wp_of (by decide +kernel) (Nat.le_of_ble_eq_true rfl) ?_
  refine g_iload_n dX7_isLookedAt_0 rfl rfl ?_
  refine g_callSr dX7_isLookedAt_1 lX7_56 (w_J6_bitCount hs) rfl rfl (Nat.le_of_ble_eq_true rfl) ?_
  refine g_iload_n dX7_isLookedAt_4 rfl rfl ?_
  refine g_icmp_ne (tgt := 30) dX7_isLookedAt_5 rfl (fun h5 => ?_) (fun h5 => ?_)
  · refine g_iconst dX7_isLookedAt_30 ?_
    refine g_zret dX7_isLookedAt_31 rfl ?_
    first
      | exact leafT ⟨by omega, by omega, hcl.mp h23⟩
      | exact leafF (fun z => h23 (hcl.mpr z.2.2))
      | exact leafF (fun z => by have := z.1; have := z.2.1; omega)
  · refine g_iload_n dX7_isLookedAt_8 rfl rfl ?_
    refine g_iload_n dX7_isLookedAt_9 rfl rfl ?_
    refine g_iand dX7_isLookedAt_10 ?_
    rw [band_nat (by omega) (by omega)]
    refine g_iload_n dX7_isLookedAt_11 rfl rfl ?_
    refine g_icmp_ne (tgt := 30) dX7_isLookedAt_12 rfl (fun h12 => ?_) (fun h12 => ?_)
    · refine g_iconst dX7_isLookedAt_30 ?_
      refine g_zret dX7_isLookedAt_31 rfl ?_
      first
        | exact leafT ⟨by omega, by omega, hcl.mp h23⟩
        | exact leafF (fun z => h23 (hcl.mpr z.2.2))
        | exact leafF (fun z => by have := z.1; have := z.2.1; omega)
    · refine g_aload_n dX7_isLookedAt_15 rfl rfl ?_
      refine g_getr dX7_isLookedAt_16 fX7_18 rfl rfl ?_
      refine g_iload_n dX7_isLookedAt_19 rfl rfl ?_
      refine g_callVr dX7_isLookedAt_20 lX7_61 (w_X0_holdsOriginals hs hR0 hR8 hN0 hN14 hO) rfl rfl rfl rfl (Nat.le_of_ble_eq_true rfl) ?_
      refine g_if_eqB (tgt := 30) dX7_isLookedAt_23 rfl (fun h23 => ?_) (fun h23 => ?_)
      · refine g_iconst dX7_isLookedAt_30 ?_
        refine g_zret dX7_isLookedAt_31 rfl ?_
        first
          | exact leafT ⟨by omega, by omega, hcl.mp h23⟩
          | exact leafF (fun z => h23 (hcl.mpr z.2.2))
          | exact leafF (fun z => by have := z.1; have := z.2.1; omega)
      · refine g_iconst dX7_isLookedAt_26 ?_
        refine g_goto (tgt := 31) dX7_isLookedAt_27 rfl ?_
        refine g_zret dX7_isLookedAt_31 rfl ?_
        first
          | exact leafT ⟨by omega, by omega, hcl.mp h23⟩
          | exact leafF (fun z => h23 (hcl.mpr z.2.2))
          | exact leafF (fun z => by have := z.1; have := z.2.1; omega)

theorem w_X7_joins {d : Nat} {M : Mem} {s a c : Nat} (hR0 : 0 ≤ M.1 1 10) (hR8 : M.1 1 10 ≤ 8) (hN0 : 0 ≤ M.1 1 11) (hN14 : M.1 1 11 ≤ 14) (hs : s < 256) (ha : (a : Int) < M.1 1 11) (hc : (c : Int) < M.1 1 11) (hj : 0 ≤ M.1 66 (s * 14 + a) ∧ M.1 66 (s * 14 + a) < 16384) : WP wdC (d + 1) mX7_joins [vr 44, vi s, vi a, vi c] M (Ret (some (vi (bi ((M.1 66 (s * 14 + a)).toNat.testBit c = true)))) M) := by
  refine wp_of (by decide +kernel) (Nat.le_of_ble_eq_true rfl) ?_
  have e1 : ((s : Int) * 14 + a).toNat = s * 14 + a := by omega
  have hbt := bit_1 (m := (M.1 66 (s * 14 + a)).toNat) (k := c) (by omega) (by omega)
  rw [show (((M.1 66 (s * 14 + a)).toNat : Nat) : Int) = M.1 66 (s * 14 + a) by omega] at hbt
  refine g_iload_n dX7_joins_0 rfl rfl ?_
  refine g_if_lt (tgt := 37) dX7_joins_1 rfl (fun h1 => ?_) (fun h1 => ?_)
  · exfalso; omega
  · refine g_iload_n dX7_joins_4 rfl rfl ?_
    refine g_sipush dX7_joins_5 rfl ?_
    refine g_icmp_ge (tgt := 37) dX7_joins_8 rfl (fun h8 => ?_) (fun h8 => ?_)
    · exfalso; omega
    · refine g_aload_n dX7_joins_11 rfl rfl ?_
      refine g_getr dX7_joins_12 fX7_18 rfl rfl ?_
      refine g_iload_n dX7_joins_15 rfl rfl ?_
      refine g_callVr dX7_joins_16 lX7_65 (w_X0_hasRole (by omega) (by omega) hR0 hR8 hN0 hN14) rfl rfl rfl rfl (Nat.le_of_ble_eq_true rfl) ?_
      refine g_if_eqB (tgt := 37) dX7_joins_19 rfl (fun h19 => ?_) (fun h19 => ?_)
      · exfalso; omega
      · refine g_aload_n dX7_joins_22 rfl rfl ?_
        refine g_getr dX7_joins_23 fX7_18 rfl rfl ?_
        refine g_iload_n dX7_joins_26 rfl rfl ?_
        refine g_callVr dX7_joins_27 lX7_65 (w_X0_hasRole (by omega) (by omega) hR0 hR8 hN0 hN14) rfl rfl rfl rfl (Nat.le_of_ble_eq_true rfl) ?_
        refine g_if_eqB (tgt := 37) dX7_joins_30 rfl (fun h30 => ?_) (fun h30 => ?_)
        · exfalso; omega
        · refine g_iconst dX7_joins_33 ?_
          refine g_goto (tgt := 38) dX7_joins_34 rfl ?_
          refine g_istore (ls' := [some _, some _, some _, some _, some _]) dX7_joins_38 (by decide) rfl ?_
          refine g_iload dX7_joins_40 rfl ?_
          refine g_if_eq (tgt := 67) dX7_joins_42 rfl (fun h42 => absurd h42 (by decide)) (fun _ => ?_)
          refine g_aload_n dX7_joins_45 rfl rfl ?_
          refine g_getr dX7_joins_46 fX7_15 rfl rfl ?_
          refine g_iload_n dX7_joins_49 rfl rfl ?_
          refine g_bipush dX7_joins_50 rfl ?_
          refine g_imul dX7_joins_52 ?_
          refine g_iload_n dX7_joins_53 rfl rfl ?_
          refine g_iadd dX7_joins_54 ?_
          refine g_iald dX7_joins_55 rfl (by decide) ?_
          try simp only [Int.toNat_natCast]
          rw [e1]
          refine g_iload_n dX7_joins_56 rfl rfl ?_
          refine g_ishr dX7_joins_57 ?_
          refine g_iconst dX7_joins_58 ?_
          refine g_iand dX7_joins_59 ?_
          rw [hbt]
          have hbr : (if (M.1 66 (s * 14 + a)).toNat.testBit c = true then (1 : Int) else 0) = 0 ∨ (if (M.1 66 (s * 14 + a)).toNat.testBit c = true then (1 : Int) else 0) = 1 := by split <;> simp
          refine g_if_eq (tgt := 67) dX7_joins_60 rfl (fun h60 => ?_) (fun h60 => ?_)
          · refine g_iconst dX7_joins_67 ?_
            refine g_zret dX7_joins_68 rfl ?_
            first | exact leafT (by by_cases hz : (M.1 66 (s * 14 + a)).toNat.testBit c = true; exact hz; exact absurd (if_neg hz) h60) | exact leafF (fun hz => by rw [if_pos hz] at h60; exact absurd h60 (by decide))
          · refine g_iconst dX7_joins_63 ?_
            refine g_goto (tgt := 68) dX7_joins_64 rfl ?_
            refine g_zret dX7_joins_68 rfl ?_
            first | exact leafT (by by_cases hz : (M.1 66 (s * 14 + a)).toNat.testBit c = true; exact hz; exact absurd (if_neg hz) h60) | exact leafF (fun hz => by rw [if_pos hz] at h60; exact absurd h60 (by decide))

theorem w_X7_forget {d : Nat} {M : Mem} : WP wdC (d + 1) mX7_forget [vr 44] M (fun v M' => v = none ∧ Fr 65 (1 + 65) M M' ∧ ∀ s, s < 256 → M'.1 65 s = 0) := by
  refine wp_of (by decide +kernel) (Nat.le_of_ble_eq_true rfl) ?_
  refine g_aload_n dX7_forget_0 rfl rfl ?_
  refine g_getr dX7_forget_1 fX7_9 rfl rfl ?_
  refine g_iconst dX7_forget_4 ?_
  refine g_callS dX7_forget_5 lX7_26 (w_fill (p := 65) (n := 256) rfl (by decide)) rfl rfl (Nat.le_of_ble_eq_true rfl) ?_
  rintro v M2 ⟨rfl, q1, q2, q3⟩
  show G _ _ _ _ _ _ [] M2
  refine g_vret dX7_forget_8 rfl ?_
  exact ⟨rfl, fun p hp => ⟨q2 p (by omega), by rw [q1]⟩, q3⟩

theorem w_X7_leastQuarrel {d : Nat} {D M : Mem} (hw : Wf D) (hD : Dat D M) (hT : TabD D M) (hS : ∀ s', SetOK D M s') : WP wdC (d + 20) mX7_leastQuarrel [vr 44] M (fun v M' => v = some (vi (quarrelC D)) ∧ Fr 45 67 M M' ∧ ∀ s', SetOK D M' s') := by
  have hB := hw.1
  unfold WfB at hB
  have hall := allS_lt hB.2.1
  have hR' : ((nR D : Nat) : Int) = D.1 1 10 := by unfold nR; omega
  have hshl : ∀ M1 : Mem, Dat D M1 → shl 1 (M1.1 1 10) - 1 = ((allS D : Nat) : Int) := fun M1 hD1 => by
    rw [(hD1 1 (by decide) (by decide)).1, ← hR', shl_1 (by omega)]
    have := Nat.two_pow_pos (nR D)
    unfold allS
    omega

  refine wp_of (by decide +kernel) (Nat.le_of_ble_eq_true rfl) ?_
  have outer : ∀ n k : Nat, k + n = max 1 (nR D) → ∀ (M1 : Mem) (x3 x4 : Option AV), Fr 45 67 M M1 → (∀ s', SetOK D M1 s') → (scanP (fun many => scanP (qStep D many) (allS D - 1) 1) n k).getD (allS D) = quarrelC D → 1 ≤ k → G wdC mX7_leastQuarrel (d + 20) (fun v M' => v = some (vi (quarrelC D)) ∧ Fr 45 67 M M' ∧ ∀ s', SetOK D M' s') 10 [some (vr 44), some (vi (allS D)), some (vi k), x3, x4] [] M1 := by
    intro n
    induction n with
    | zero =>
      intro k hk M1 x3 x4 hF hS1 hfin hk1
      have hD1 : Dat D M1 := hD.tr (hF.dat (by decide))
      have hR1 : M1.1 1 10 = nR D := by rw [(hD1 1 (by decide) (by decide)).1, hR']
      refine g_iload_n dX7_leastQuarrel_10 rfl rfl ?_
      refine g_aload_n dX7_leastQuarrel_11 rfl rfl ?_
      refine g_getr dX7_leastQuarrel_12 fX7_18 rfl rfl ?_
      refine g_get dX7_leastQuarrel_15 fX7_38 rfl rfl ?_
      refine g_icmp_ge (tgt := 81) dX7_leastQuarrel_18 rfl (fun h18 => ?_) (fun h18 => ?_)
      · refine g_iload_n dX7_leastQuarrel_81 rfl rfl ?_
        refine g_iret dX7_leastQuarrel_82 rfl ?_
        exact ⟨by rw [← hfin]; rfl, hF, hS1⟩
      · exfalso; omega
    | succ n ih =>
      intro k hk M1 x3 x4 hF hS1 hfin hk1
      have inner : ∀ m s : Nat, s + m = max 1 (allS D) → 1 ≤ s → ∀ (M2 : Mem) (x4 : Option AV), Fr 45 67 M M2 → (∀ s', SetOK D M2 s') → scanP (qStep D k) m s = scanP (qStep D k) (allS D - 1) 1 → G wdC mX7_leastQuarrel (d + 20) (fun v M' => v = some (vi (quarrelC D)) ∧ Fr 45 67 M M' ∧ ∀ s', SetOK D M' s') 23 [some (vr 44), some (vi (allS D)), some (vi k), some (vi s), x4] [] M2 := by
        intro m
        induction m with
        | zero =>
          intro s hs hs1 M2 x4 hF2 hS2 hsc
          have hnone : scanP (qStep D k) (allS D - 1) 1 = none := hsc.symm
          rw [scan_next (f := fun many => scanP (qStep D many) (allS D - 1) 1) hnone] at hfin
          refine g_iload_n dX7_leastQuarrel_23 rfl rfl ?_
          refine g_iload_n dX7_leastQuarrel_24 rfl rfl ?_
          refine g_icmp_ge (tgt := 75) dX7_leastQuarrel_25 rfl (fun h25 => ?_) (fun h25 => ?_)
          · refine g_iinc (ls' := [some _, some _, some _, some _, _]) dX7_leastQuarrel_75 rfl rfl ?_
            refine g_goto (tgt := 10) dX7_leastQuarrel_78 rfl ?_
            exact ih (k + 1) (by omega) M2 _ _ hF2 hS2 hfin (by omega)
          · exfalso; omega
        | succ m ihm =>
          intro s hs hs1 M2 x4 hF2 hS2 hsc
          have hD2 : Dat D M2 := hD.tr (hF2.dat (by decide))
          have hT2 : TabD D M2 := hT.fr hF2 (by decide)
          have hst := stP_r (seekP D (ordOf D s))
          refine g_iload_n dX7_leastQuarrel_23 rfl rfl ?_
          refine g_iload_n dX7_leastQuarrel_24 rfl rfl ?_
          refine g_icmp_ge (tgt := 75) dX7_leastQuarrel_25 rfl (fun h25 => ?_) (fun h25 => ?_)
          · exfalso; omega
          · refine g_aload_n dX7_leastQuarrel_28 rfl rfl ?_
            refine g_iload_n dX7_leastQuarrel_29 rfl rfl ?_
            refine g_iload_n dX7_leastQuarrel_30 rfl rfl ?_
            refine g_iconst dX7_leastQuarrel_31 ?_
            refine g_callVr dX7_leastQuarrel_32 lX7_42 (w_X7_isLookedAt (many := k) (need := 0) hw hD2 (by omega) (by omega) (by decide)) rfl rfl rfl rfl (Nat.le_of_ble_eq_true rfl) ?_
            refine g_if_eqB (tgt := 69) dX7_leastQuarrel_35 rfl (fun h35 => ?_) (fun h35 => ?_)
            · refine g_iinc (ls' := [some _, some _, some _, some _, _]) dX7_leastQuarrel_69 rfl rfl ?_
              refine g_goto (tgt := 23) dX7_leastQuarrel_72 rfl ?_
              first
                | (have hq : qStep D k s = none := by unfold qStep; rw [if_neg h35]
                   rw [scan_next hq] at hsc
                   exact ihm (s + 1) (by omega) (by omega) M2 _ hF2 hS2 hsc)
                | (have hq : qStep D k s = none := by unfold qStep; rw [if_pos h35, if_neg (by omega), if_neg (by omega)]
                   rw [scan_next hq] at hsc
                   exact ihm (s + 1) (by omega) (by omega) M3 _ hF3 f3 hsc)
            · refine g_aload_n dX7_leastQuarrel_38 rfl rfl ?_
              refine g_iload_n dX7_leastQuarrel_39 rfl rfl ?_
              refine g_callV dX7_leastQuarrel_40 lX7_46 (w_X7_lookAt (d := d) hw hD2 hT2 hS2 (by omega) h35.2.2) rfl rfl rfl rfl (Nat.le_of_ble_eq_true rfl) ?_
              rintro v M3 ⟨rfl, f1, f2, f3⟩
              show G _ _ _ _ _ _ [vi _] M3
              have hF3 := hF2.tr f1
              refine g_istore (ls' := [some _, some _, some _, some _, some _]) dX7_leastQuarrel_43 (by decide) rfl ?_
              refine g_iload dX7_leastQuarrel_45 rfl ?_
              refine g_iconst dX7_leastQuarrel_47 ?_
              refine g_icmp_eq (tgt := 57) dX7_leastQuarrel_48 rfl (fun h48 => ?_) (fun h48 => ?_)
              · refine g_iload dX7_leastQuarrel_57 rfl ?_
                refine g_iconst dX7_leastQuarrel_59 ?_
                refine g_icmp_ne (tgt := 67) dX7_leastQuarrel_60 rfl (fun h60 => ?_) (fun h60 => ?_)
                · refine g_iconst dX7_leastQuarrel_67 ?_
                  refine g_iret dX7_leastQuarrel_68 rfl ?_
                  first
                    | (exfalso; omega)
                    | (have hq : qStep D k s = some (s : Int) := by
                         unfold qStep
                         rw [if_pos h35, if_pos (by omega)]
                       have h1 : scanP (qStep D k) (allS D - 1) 1 = some (s : Int) := by rw [← hsc]; exact scan_out hq
                       rw [scan_out (f := fun many => scanP (qStep D many) (allS D - 1) 1) h1] at hfin
                       exact ⟨by rw [← hfin]; rfl, hF3, f3⟩)
                    | (have hq : qStep D k s = some (-1) := by
                         unfold qStep
                         rw [if_pos h35, if_neg (by omega), if_pos (by omega)]
                       have h1 : scanP (qStep D k) (allS D - 1) 1 = some (-1) := by rw [← hsc]; exact scan_out hq
                       rw [scan_out (f := fun many => scanP (qStep D many) (allS D - 1) 1) h1] at hfin
                       exact ⟨by rw [← hfin]; rfl, hF3, f3⟩)
                · refine g_iload_n dX7_leastQuarrel_63 rfl rfl ?_
                  refine g_goto (tgt := 68) dX7_leastQuarrel_64 rfl ?_
                  refine g_iret dX7_leastQuarrel_68 rfl ?_
                  first
                    | (exfalso; omega)
                    | (have hq : qStep D k s = some (s : Int) := by
                         unfold qStep
                         rw [if_pos h35, if_pos (by omega)]
                       have h1 : scanP (qStep D k) (allS D - 1) 1 = some (s : Int) := by rw [← hsc]; exact scan_out hq
                       rw [scan_out (f := fun many => scanP (qStep D many) (allS D - 1) 1) h1] at hfin
                       exact ⟨by rw [← hfin]; rfl, hF3, f3⟩)
                    | (have hq : qStep D k s = some (-1) := by
                         unfold qStep
                         rw [if_pos h35, if_neg (by omega), if_pos (by omega)]
                       have h1 : scanP (qStep D k) (allS D - 1) 1 = some (-1) := by rw [← hsc]; exact scan_out hq
                       rw [scan_out (f := fun many => scanP (qStep D many) (allS D - 1) 1) h1] at hfin
                       exact ⟨by rw [← hfin]; rfl, hF3, f3⟩)
              · refine g_iload dX7_leastQuarrel_51 rfl ?_
                refine g_iconst dX7_leastQuarrel_53 ?_
                refine g_icmp_ne (tgt := 69) dX7_leastQuarrel_54 rfl (fun h54 => ?_) (fun h54 => ?_)
                · refine g_iinc (ls' := [some _, some _, some _, some _, some _]) dX7_leastQuarrel_69 rfl rfl ?_
                  refine g_goto (tgt := 23) dX7_leastQuarrel_72 rfl ?_
                  first
                    | (have hq : qStep D k s = none := by unfold qStep; rw [if_neg h35]
                       rw [scan_next hq] at hsc
                       exact ihm (s + 1) (by omega) (by omega) M2 _ hF2 hS2 hsc)
                    | (have hq : qStep D k s = none := by unfold qStep; rw [if_pos h35, if_neg (by omega), if_neg (by omega)]
                       rw [scan_next hq] at hsc
                       exact ihm (s + 1) (by omega) (by omega) M3 _ hF3 f3 hsc)
                · refine g_iload dX7_leastQuarrel_57 rfl ?_
                  refine g_iconst dX7_leastQuarrel_59 ?_
                  refine g_icmp_ne (tgt := 67) dX7_leastQuarrel_60 rfl (fun h60 => ?_) (fun h60 => ?_)
                  · refine g_iconst dX7_leastQuarrel_67 ?_
                    refine g_iret dX7_leastQuarrel_68 rfl ?_
                    first
                      | (exfalso; omega)
                      | (have hq : qStep D k s = some (s : Int) := by
                           unfold qStep
                           rw [if_pos h35, if_pos (by omega)]
                         have h1 : scanP (qStep D k) (allS D - 1) 1 = some (s : Int) := by rw [← hsc]; exact scan_out hq
                         rw [scan_out (f := fun many => scanP (qStep D many) (allS D - 1) 1) h1] at hfin
                         exact ⟨by rw [← hfin]; rfl, hF3, f3⟩)
                      | (have hq : qStep D k s = some (-1) := by
                           unfold qStep
                           rw [if_pos h35, if_neg (by omega), if_pos (by omega)]
                         have h1 : scanP (qStep D k) (allS D - 1) 1 = some (-1) := by rw [← hsc]; exact scan_out hq
                         rw [scan_out (f := fun many => scanP (qStep D many) (allS D - 1) 1) h1] at hfin
                         exact ⟨by rw [← hfin]; rfl, hF3, f3⟩)
                  · refine g_iload_n dX7_leastQuarrel_63 rfl rfl ?_
                    refine g_goto (tgt := 68) dX7_leastQuarrel_64 rfl ?_
                    refine g_iret dX7_leastQuarrel_68 rfl ?_
                    first
                      | (exfalso; omega)
                      | (have hq : qStep D k s = some (s : Int) := by
                           unfold qStep
                           rw [if_pos h35, if_pos (by omega)]
                         have h1 : scanP (qStep D k) (allS D - 1) 1 = some (s : Int) := by rw [← hsc]; exact scan_out hq
                         rw [scan_out (f := fun many => scanP (qStep D many) (allS D - 1) 1) h1] at hfin
                         exact ⟨by rw [← hfin]; rfl, hF3, f3⟩)
                      | (have hq : qStep D k s = some (-1) := by
                           unfold qStep
                           rw [if_pos h35, if_neg (by omega), if_pos (by omega)]
                         have h1 : scanP (qStep D k) (allS D - 1) 1 = some (-1) := by rw [← hsc]; exact scan_out hq
                         rw [scan_out (f := fun many => scanP (qStep D many) (allS D - 1) 1) h1] at hfin
                         exact ⟨by rw [← hfin]; rfl, hF3, f3⟩)
      have hD1 : Dat D M1 := hD.tr (hF.dat (by decide))
      have hR1 : M1.1 1 10 = nR D := by rw [(hD1 1 (by decide) (by decide)).1, hR']
      refine g_iload_n dX7_leastQuarrel_10 rfl rfl ?_
      refine g_aload_n dX7_leastQuarrel_11 rfl rfl ?_
      refine g_getr dX7_leastQuarrel_12 fX7_18 rfl rfl ?_
      refine g_get dX7_leastQuarrel_15 fX7_38 rfl rfl ?_
      refine g_icmp_ge (tgt := 81) dX7_leastQuarrel_18 rfl (fun h18 => ?_) (fun h18 => ?_)
      · exfalso; omega
      · refine g_iconst dX7_leastQuarrel_21 ?_
        refine g_istore_n (ls' := [some _, some _, some _, some _, _]) dX7_leastQuarrel_22 rfl (by decide) rfl ?_
        by_cases h0 : 1 ≤ allS D
        · exact inner (allS D - 1) 1 (by omega) (by omega) M1 _ hF hS1 rfl
        · exact inner 0 1 (by omega) (by omega) M1 _ hF hS1 (by rw [show allS D - 1 = 0 by omega])
  refine g_aload_n dX7_leastQuarrel_0 rfl rfl ?_
  refine g_getr dX7_leastQuarrel_1 fX7_18 rfl rfl ?_
  refine g_callVr dX7_leastQuarrel_4 lX7_32 (w_X0_allRecords) rfl rfl rfl rfl (Nat.le_of_ble_eq_true rfl) ?_
  rw [hshl M hD]
  refine g_istore_n (ls' := [some _, some _, _, _, _]) dX7_leastQuarrel_7 rfl (by decide) rfl ?_
  refine g_iconst dX7_leastQuarrel_8 ?_
  refine g_istore_n (ls' := [some _, some _, some _, _, _]) dX7_leastQuarrel_9 rfl (by decide) rfl ?_
  by_cases h0 : 1 ≤ nR D
  · exact outer (nR D - 1) 1 (by omega) M _ _ Fr.rf hS rfl (by omega)
  · exact outer 0 1 (by omega) M _ _ Fr.rf hS (by unfold quarrelC; rw [show nR D - 1 = 0 by omega]) (by omega)

theorem need_bits {s x y : Nat} (h : s &&& (2 ^ x ||| 2 ^ y) = 2 ^ x ||| 2 ^ y) : s.testBit x = true ∧ s.testBit y = true := by
  constructor
  · have := congrArg (fun z => Nat.testBit z x) h
    simpa [Nat.testBit_and, Nat.testBit_or, Nat.testBit_two_pow] using this
  · have := congrArg (fun z => Nat.testBit z y) h
    simpa [Nat.testBit_and, Nat.testBit_or, Nat.testBit_two_pow] using this
theorem w_X7_leastProof {d : Nat} {D M : Mem} {a c : Nat} (hw : Wf D) (hD : Dat D M) (hT : TabD D M) (hS : ∀ s', SetOK D M s') (ha : (a : Int) < D.1 1 11) (hc : (c : Int) < D.1 1 11) : WP wdC (d + 20) mX7_leastProof [vr 44, vi a, vi c] M (fun v M' => v = some (vi (proofC D a c)) ∧ Fr 45 67 M M' ∧ ∀ s', SetOK D M' s') := by
  have hB := hw.1
  unfold WfB at hB
  have hall := allS_lt hB.2.1
  have hR' : ((nR D : Nat) : Int) = D.1 1 10 := by unfold nR; omega
  have hshl : ∀ M1 : Mem, Dat D M1 → shl 1 (M1.1 1 10) - 1 = ((allS D : Nat) : Int) := fun M1 hD1 => by
    rw [(hD1 1 (by decide) (by decide)).1, ← hR', shl_1 (by omega)]
    have := Nat.two_pow_pos (nR D)
    unfold allS
    omega

  have hra := hw.2.2.1 a ha
  have hrc := hw.2.2.1 c hc
  have hp2 : ∀ k, k < 8 → 2 ^ k < 2 ^ 8 := fun k hk => Nat.pow_lt_pow_right (by decide) hk
  have hneed : (2 ^ (D.1 5 a).toNat ||| 2 ^ (D.1 5 c).toNat) < 2 ^ 8 := Nat.or_lt_two_pow (hp2 _ (by omega)) (hp2 _ (by omega))
  have hpa := hp2 (D.1 5 a).toNat (by omega)
  have hpc := hp2 (D.1 5 c).toNat (by omega)
  have hbit : ∀ x : Nat, (x : Int) < D.1 1 11 → (if 0 ≤ (x : Int) ∧ (x : Int) < M.1 1 11 then shl 1 (M.1 5 (x : Int).toNat) else 0) = ((2 ^ (D.1 5 x).toNat : Nat) : Int) := fun x hx => by
    have := hw.2.2.1 x hx
    rw [(hD 1 (by decide) (by decide)).1, (hD 5 (by decide) (by decide)).1, if_pos ⟨by omega, hx⟩, Int.toNat_natCast, ← shl_1 (by omega)]
    congr 1
    omega
  refine wp_of (by decide +kernel) (Nat.le_of_ble_eq_true rfl) ?_
  have outer : ∀ n k : Nat, k + n = max 1 (nR D) → ∀ (M1 : Mem) (x6 x7 : Option AV), Fr 45 67 M M1 → (∀ s', SetOK D M1 s') → (scanP (fun many => scanP (pStep D a c many) (allS D - 1) 1) n k).getD (allS D) = proofC D a c → 1 ≤ k → G wdC mX7_leastProof (d + 20) (fun v M' => v = some (vi (proofC D a c)) ∧ Fr 45 67 M M' ∧ ∀ s', SetOK D M' s') 30 [some (vr 44), some (vi a), some (vi c), some (vi (2 ^ (D.1 5 a).toNat ||| 2 ^ (D.1 5 c).toNat : Nat)), some (vi (allS D)), some (vi k),  x6, x7] [] M1 := by
    intro n
    induction n with
    | zero =>
      intro k hk M1 x6 x7 hF hS1 hfin hk1
      have hD1 : Dat D M1 := hD.tr (hF.dat (by decide))
      have hR1 : M1.1 1 10 = nR D := by rw [(hD1 1 (by decide) (by decide)).1, hR']
      refine g_iload dX7_leastProof_30 rfl ?_
      refine g_aload_n dX7_leastProof_32 rfl rfl ?_
      refine g_getr dX7_leastProof_33 fX7_18 rfl rfl ?_
      refine g_get dX7_leastProof_36 fX7_38 rfl rfl ?_
      refine g_icmp_ge (tgt := 112) dX7_leastProof_39 rfl (fun h39 => ?_) (fun h39 => ?_)
      · refine g_iload dX7_leastProof_112 rfl ?_
        refine g_iret dX7_leastProof_114 rfl ?_
        exact ⟨by rw [← hfin]; rfl, hF, hS1⟩
      · exfalso; omega
    | succ n ih =>
      intro k hk M1 x6 x7 hF hS1 hfin hk1
      have inner : ∀ m s : Nat, s + m = max 1 (allS D) → 1 ≤ s → ∀ (M2 : Mem) (x7 : Option AV), Fr 45 67 M M2 → (∀ s', SetOK D M2 s') → scanP (pStep D a c k) m s = scanP (pStep D a c k) (allS D - 1) 1 → G wdC mX7_leastProof (d + 20) (fun v M' => v = some (vi (proofC D a c)) ∧ Fr 45 67 M M' ∧ ∀ s', SetOK D M' s') 45 [some (vr 44), some (vi a), some (vi c), some (vi (2 ^ (D.1 5 a).toNat ||| 2 ^ (D.1 5 c).toNat : Nat)), some (vi (allS D)), some (vi k),  some (vi s), x7] [] M2 := by
        intro m
        induction m with
        | zero =>
          intro s hs hs1 M2 x7 hF2 hS2 hsc
          have hnone : scanP (pStep D a c k) (allS D - 1) 1 = none := hsc.symm
          rw [scan_next (f := fun many => scanP (pStep D a c many) (allS D - 1) 1) hnone] at hfin
          refine g_iload dX7_leastProof_45 rfl ?_
          refine g_iload dX7_leastProof_47 rfl ?_
          refine g_icmp_ge (tgt := 106) dX7_leastProof_49 rfl (fun h49 => ?_) (fun h49 => ?_)
          · refine g_iinc (ls' := [some _, some _, some _, some _, some _, some _, some _, _]) dX7_leastProof_106 rfl rfl ?_
            refine g_goto (tgt := 30) dX7_leastProof_109 rfl ?_
            exact ih (k + 1) (by omega) M2 _ _ hF2 hS2 hfin (by omega)
          · exfalso; omega
        | succ m ihm =>
          intro s hs hs1 M2 x7 hF2 hS2 hsc
          have hD2 : Dat D M2 := hD.tr (hF2.dat (by decide))
          have hT2 : TabD D M2 := hT.fr hF2 (by decide)
          have hst := stP_r (seekP D (ordOf D s))
          refine g_iload dX7_leastProof_45 rfl ?_
          refine g_iload dX7_leastProof_47 rfl ?_
          refine g_icmp_ge (tgt := 106) dX7_leastProof_49 rfl (fun h49 => ?_) (fun h49 => ?_)
          · exfalso; omega
          · refine g_aload_n dX7_leastProof_52 rfl rfl ?_
            refine g_iload dX7_leastProof_53 rfl ?_
            refine g_iload dX7_leastProof_55 rfl ?_
            refine g_iload_n dX7_leastProof_57 rfl rfl ?_
            refine g_callVr dX7_leastProof_58 lX7_42 (w_X7_isLookedAt (many := k) hw hD2 (by omega) (by omega) (by omega)) rfl rfl rfl rfl (Nat.le_of_ble_eq_true rfl) ?_
            refine g_if_eqB (tgt := 100) dX7_leastProof_61 rfl (fun h61 => ?_) (fun h61 => ?_)
            · refine g_iinc (ls' := [some _, some _, some _, some _, some _, some _, some _, _]) dX7_leastProof_100 rfl rfl ?_
              refine g_goto (tgt := 45) dX7_leastProof_103 rfl ?_
              first
                | (have hq : pStep D a c k s = none := by unfold pStep; rw [if_neg h61]
                   rw [scan_next hq] at hsc
                   exact ihm (s + 1) (by omega) (by omega) M2 _ hF2 hS2 hsc)
                | (have hq : pStep D a c k s = none := by
                     unfold pStep
                     rw [if_pos h61, if_neg (by omega)]
                     first
                       | rw [if_neg (fun z => by have := z.1; omega)]
                       | rw [if_neg (fun z => h94 ((j3 c hco).mpr (@of_decide_eq_true _ (Classical.propDecidable _) z.2)))]
                   rw [scan_next hq] at hsc
                   exact ihm (s + 1) (by omega) (by omega) M3 _ hF3 f3 hsc)
            · refine g_aload_n dX7_leastProof_64 rfl rfl ?_
              refine g_iload dX7_leastProof_65 rfl ?_
              refine g_callV dX7_leastProof_67 lX7_46 (w_X7_lookAt (d := d) hw hD2 hT2 hS2 (by omega) h61.2.2) rfl rfl rfl rfl (Nat.le_of_ble_eq_true rfl) ?_
              rintro v M3 ⟨rfl, f1, f2, f3⟩
              show G _ _ _ _ _ _ [vi _] M3
              have hF3 := hF2.tr f1
              have hD3 : Dat D M3 := hD.tr (hF3.dat (by decide))
              have g3 := (hw.dat hD3).1
              unfold WfB at g3
              have hso := (f3 s (by omega)).resolve_left (by omega)
              have hnb := need_bits h61.2.1
              have hao : a ∈ ordOf D s := mem_ordOf.mpr ⟨by unfold nN; omega, hnb.1⟩
              have hco : c ∈ ordOf D s := mem_ordOf.mpr ⟨by unfold nN; omega, hnb.2⟩
              obtain ⟨j1, j2, j3⟩ := hso.2 a hao
              refine g_istore (ls' := [some _, some _, some _, some _, some _, some _, some _, some _]) dX7_leastProof_70 (by decide) rfl ?_
              refine g_iload dX7_leastProof_72 rfl ?_
              refine g_iconst dX7_leastProof_74 ?_
              refine g_icmp_ne (tgt := 80) dX7_leastProof_75 rfl (fun h75 => ?_) (fun h75 => ?_)
              · refine g_iload dX7_leastProof_80 rfl ?_
                refine g_iconst dX7_leastProof_82 ?_
                refine g_icmp_ne (tgt := 100) dX7_leastProof_83 rfl (fun h83 => ?_) (fun h83 => ?_)
                · refine g_iinc (ls' := [some _, some _, some _, some _, some _, some _, some _, some _]) dX7_leastProof_100 rfl rfl ?_
                  refine g_goto (tgt := 45) dX7_leastProof_103 rfl ?_
                  first
                    | (have hq : pStep D a c k s = none := by unfold pStep; rw [if_neg h61]
                       rw [scan_next hq] at hsc
                       exact ihm (s + 1) (by omega) (by omega) M2 _ hF2 hS2 hsc)
                    | (have hq : pStep D a c k s = none := by
                         unfold pStep
                         rw [if_pos h61, if_neg (by omega)]
                         first
                           | rw [if_neg (fun z => by have := z.1; omega)]
                           | rw [if_neg (fun z => h94 ((j3 c hco).mpr (@of_decide_eq_true _ (Classical.propDecidable _) z.2)))]
                       rw [scan_next hq] at hsc
                       exact ihm (s + 1) (by omega) (by omega) M3 _ hF3 f3 hsc)
                · refine g_aload_n dX7_leastProof_86 rfl rfl ?_
                  refine g_iload dX7_leastProof_87 rfl ?_
                  refine g_iload_n dX7_leastProof_89 rfl rfl ?_
                  refine g_iload_n dX7_leastProof_90 rfl rfl ?_
                  refine g_callVr dX7_leastProof_91 lX7_53 (w_X7_joins (M := M3) g3.1 g3.2.1 g3.2.2.1 g3.2.2.2 (by omega) (by rw [(hD3 1 (by decide) (by decide)).1]; exact ha) (by rw [(hD3 1 (by decide) (by decide)).1]; exact hc) ⟨j1, j2⟩) rfl rfl rfl rfl (Nat.le_of_ble_eq_true rfl) ?_
                  refine g_if_eqB (tgt := 100) dX7_leastProof_94 rfl (fun h94 => ?_) (fun h94 => ?_)
                  · refine g_iinc (ls' := [some _, some _, some _, some _, some _, some _, some _, some _]) dX7_leastProof_100 rfl rfl ?_
                    refine g_goto (tgt := 45) dX7_leastProof_103 rfl ?_
                    first
                      | (have hq : pStep D a c k s = none := by unfold pStep; rw [if_neg h61]
                         rw [scan_next hq] at hsc
                         exact ihm (s + 1) (by omega) (by omega) M2 _ hF2 hS2 hsc)
                      | (have hq : pStep D a c k s = none := by
                           unfold pStep
                           rw [if_pos h61, if_neg (by omega)]
                           first
                             | rw [if_neg (fun z => by have := z.1; omega)]
                             | rw [if_neg (fun z => h94 ((j3 c hco).mpr (@of_decide_eq_true _ (Classical.propDecidable _) z.2)))]
                         rw [scan_next hq] at hsc
                         exact ihm (s + 1) (by omega) (by omega) M3 _ hF3 f3 hsc)
                  · refine g_iload dX7_leastProof_97 rfl ?_
                    refine g_iret dX7_leastProof_99 rfl ?_
                    first
                      | (have hq : pStep D a c k s = some (-1) := by
                           unfold pStep
                           rw [if_pos h61, if_pos (by omega)]
                         have h1 : scanP (pStep D a c k) (allS D - 1) 1 = some (-1) := by rw [← hsc]; exact scan_out hq
                         rw [scan_out (f := fun many => scanP (pStep D a c many) (allS D - 1) 1) h1] at hfin
                         exact ⟨by rw [← hfin]; rfl, hF3, f3⟩)
                      | (have hq : pStep D a c k s = some (s : Int) := by
                           unfold pStep
                           rw [if_pos h61, if_neg (by omega), if_pos ⟨by omega, @decide_eq_true _ (Classical.propDecidable _) ((j3 c hco).mp h94)⟩]
                         have h1 : scanP (pStep D a c k) (allS D - 1) 1 = some (s : Int) := by rw [← hsc]; exact scan_out hq
                         rw [scan_out (f := fun many => scanP (pStep D a c many) (allS D - 1) 1) h1] at hfin
                         exact ⟨by rw [← hfin]; rfl, hF3, f3⟩)
              · refine g_iconst dX7_leastProof_78 ?_
                refine g_iret dX7_leastProof_79 rfl ?_
                first
                  | (have hq : pStep D a c k s = some (-1) := by
                       unfold pStep
                       rw [if_pos h61, if_pos (by omega)]
                     have h1 : scanP (pStep D a c k) (allS D - 1) 1 = some (-1) := by rw [← hsc]; exact scan_out hq
                     rw [scan_out (f := fun many => scanP (pStep D a c many) (allS D - 1) 1) h1] at hfin
                     exact ⟨by rw [← hfin]; rfl, hF3, f3⟩)
                  | (have hq : pStep D a c k s = some (s : Int) := by
                       unfold pStep
                       rw [if_pos h61, if_neg (by omega), if_pos ⟨by omega, @decide_eq_true _ (Classical.propDecidable _) ((j3 c hco).mp h94)⟩]
                     have h1 : scanP (pStep D a c k) (allS D - 1) 1 = some (s : Int) := by rw [← hsc]; exact scan_out hq
                     rw [scan_out (f := fun many => scanP (pStep D a c many) (allS D - 1) 1) h1] at hfin
                     exact ⟨by rw [← hfin]; rfl, hF3, f3⟩)
      have hD1 : Dat D M1 := hD.tr (hF.dat (by decide))
      have hR1 : M1.1 1 10 = nR D := by rw [(hD1 1 (by decide) (by decide)).1, hR']
      refine g_iload dX7_leastProof_30 rfl ?_
      refine g_aload_n dX7_leastProof_32 rfl rfl ?_
      refine g_getr dX7_leastProof_33 fX7_18 rfl rfl ?_
      refine g_get dX7_leastProof_36 fX7_38 rfl rfl ?_
      refine g_icmp_ge (tgt := 112) dX7_leastProof_39 rfl (fun h39 => ?_) (fun h39 => ?_)
      · exfalso; omega
      · refine g_iconst dX7_leastProof_42 ?_
        refine g_istore (ls' := [some _, some _, some _, some _, some _, some _, some _, _]) dX7_leastProof_43 (by decide) rfl ?_
        by_cases h0 : 1 ≤ allS D
        · exact inner (allS D - 1) 1 (by omega) (by omega) M1 _ hF hS1 rfl
        · exact inner 0 1 (by omega) (by omega) M1 _ hF hS1 (by rw [show allS D - 1 = 0 by omega])
  have g := (hw.dat hD).1
  unfold WfB at g
  refine g_aload_n dX7_leastProof_0 rfl rfl ?_
  refine g_getr dX7_leastProof_1 fX7_18 rfl rfl ?_
  refine g_iload_n dX7_leastProof_4 rfl rfl ?_
  refine g_callVr dX7_leastProof_5 lX7_50 (w_X0_bitOf (by omega) (by omega) g.1 g.2.1 g.2.2.1 g.2.2.2) rfl rfl rfl rfl (Nat.le_of_ble_eq_true rfl) ?_
  rw [hbit a ha]
  refine g_aload_n dX7_leastProof_8 rfl rfl ?_
  refine g_getr dX7_leastProof_9 fX7_18 rfl rfl ?_
  refine g_iload_n dX7_leastProof_12 rfl rfl ?_
  refine g_callVr dX7_leastProof_13 lX7_50 (w_X0_bitOf (by omega) (by omega) g.1 g.2.1 g.2.2.1 g.2.2.2) rfl rfl rfl rfl (Nat.le_of_ble_eq_true rfl) ?_
  rw [hbit c hc]
  refine g_ior dX7_leastProof_16 ?_
  rw [bor_nat (by omega) (by omega)]
  refine g_istore_n (ls' := [some _, some _, some _, some _, _, _, _, _]) dX7_leastProof_17 rfl (by decide) rfl ?_
  refine g_aload_n dX7_leastProof_18 rfl rfl ?_
  refine g_getr dX7_leastProof_19 fX7_18 rfl rfl ?_
  refine g_callVr dX7_leastProof_22 lX7_32 (w_X0_allRecords) rfl rfl rfl rfl (Nat.le_of_ble_eq_true rfl) ?_
  rw [hshl M hD]
  refine g_istore (ls' := [some _, some _, some _, some _, some _, _, _, _]) dX7_leastProof_25 (by decide) rfl ?_
  refine g_iconst dX7_leastProof_27 ?_
  refine g_istore (ls' := [some _, some _, some _, some _, some _, some _, _, _]) dX7_leastProof_28 (by decide) rfl ?_
  by_cases h0 : 1 ≤ nR D
  · exact outer (nR D - 1) 1 (by omega) M _ _ Fr.rf hS rfl (by omega)
  · exact outer 0 1 (by omega) M _ _ Fr.rf hS (by unfold proofC; rw [show nR D - 1 = 0 by omega]) (by omega)

