/-! MODULE 51: least (reference). -/
/-- what least keeps -/
def Kp (M M1 : Mem) : Prop := MDat M M1 ∧ (∀ k, k ≠ 28 → k ≠ 29 → k ≠ 30 → k ≠ 31 → k ≠ 34 → M1.1 0 k = M.1 0 k) ∧ M1.1 19 = M.1 19 ∧ M1.1 20 = M.1 20
theorem Kp.rf {M : Mem} : Kp M M := ⟨MDat.rf, fun _ _ _ _ _ _ => rfl, rfl, rfl⟩
theorem two_bits {s a b : Nat} (hs : s < 256) (ha : a < 8) (hb : b < 8) : band (band (shr s a) (shr s b)) 1 = if s.testBit a = true ∧ s.testBit b = true then 1 else 0 := by
  have h1 : s >>> a < 2147483648 := Nat.lt_of_le_of_lt (Nat.shiftRight_le _ _) (by omega)
  have h2 : s >>> b < 2147483648 := Nat.lt_of_le_of_lt (Nat.shiftRight_le _ _) (by omega)
  rw [shr_nat (by omega) (by omega), shr_nat (by omega) (by omega), band_nat h1 h2]
  have h3 : (s >>> a) &&& (s >>> b) < 2147483648 := Nat.lt_of_le_of_lt Nat.and_le_left h1
  have h4 := band_nat h3 (n := 1) (by decide)
  rw [show (1 : Int) = ((1 : Nat) : Int) from rfl, h4]
  have : ∀ x : Fin 256, ∀ y z : Fin 8, ((x.val >>> y.val) &&& (x.val >>> z.val)) &&& 1 = if x.val.testBit y.val = true ∧ x.val.testBit z.val = true then 1 else 0 := by decide +kernel
  have h := this ⟨s, hs⟩ ⟨a, ha⟩ ⟨b, hb⟩
  simp only at h
  rw [h]
  split <;> rfl

theorem w_X10_least_q {d : Nat} {D M : Mem}  (hw : Wf D) (hD : DR D M) (hqA : M.1 0 32 = -1) (hqB : M.1 0 33 = -1) : WP wdM (d + 4) mX10_least [vr 0, vi 1] M (fun v M' => v = some (vi (leastR (qStep D) D)) ∧ Kp M M') := by
  refine wp_of (by decide +kernel) (Nat.le_of_ble_eq_true rfl) ?_
  obtain ⟨b1, b2, b3, b4⟩ := id hw.1
  have h8 := nR_8 hw
  have h2p : 2 ^ nR D ≤ 2 ^ 8 := Nat.pow_le_pow_right (by decide) h8
  have outer : ∀ n k : Nat, k + n = nR D + 1 → ∀ (M1 : Mem) (x3 : Option AV), Kp M M1 → (scanP (fun n => scanP (qStep D n) (2 ^ nR D) 0) n k).getD (-1) = leastR (qStep D) D → G wdM mX10_least (d + 4) (fun v M' => v = some (vi (leastR (qStep D) D)) ∧ Kp M M') 2 [some (vr 0), some (vi 1), some (vi k), x3] [] M1 := by
    intro n
    induction n with
    | zero =>
      intro k hk M1 x3 hK1 hfin
      have hRn : M1.1 0 12 = ((nR D : Nat) : Int) := by rw [hK1.2.1 12 (by decide) (by decide) (by decide) (by decide) (by decide), hD.1.1]; unfold nR; omega
      refine g_iload_n dX10_least_2 rfl rfl ?_
      refine g_aload_n dX10_least_3 rfl rfl ?_
      refine g_get dX10_least_4 fX10_114 rfl rfl ?_
      rw [hRn]
      refine g_icmp_gt (tgt := 134) dX10_least_7 rfl (fun h7 => ?_) (fun h7 => ?_)
      · refine g_iconst dX10_least_134 ?_
        refine g_iret dX10_least_135 rfl ?_
        exact ⟨by rw [← hfin]; rfl, hK1⟩
      · exfalso; omega
    | succ n ih =>
      intro k hk M1 x3 hK1 hfin
      have inner : ∀ m s : Nat, s + m = 2 ^ nR D → ∀ M1 : Mem, Kp M M1 → (match scanP (qStep D k) m s with | some z => some z | none => scanP (fun n => scanP (qStep D n) (2 ^ nR D) 0) n (k + 1)).getD (-1) = leastR (qStep D) D → G wdM mX10_least (d + 4) (fun v M' => v = some (vi (leastR (qStep D) D)) ∧ Kp M M') 12 [some (vr 0), some (vi 1), some (vi k), some (vi s)] [] M1 := by
        intro m
        induction m with
        | zero =>
          intro s hs M1 hK1 hfin
          have hRn : M1.1 0 12 = ((nR D : Nat) : Int) := by rw [hK1.2.1 12 (by decide) (by decide) (by decide) (by decide) (by decide), hD.1.1]; unfold nR; omega
          refine g_iload_n dX10_least_12 rfl rfl ?_
          refine g_iconst dX10_least_13 ?_
          refine g_aload_n dX10_least_14 rfl rfl ?_
          refine g_get dX10_least_15 fX10_114 rfl rfl ?_
          rw [hRn]
          refine g_ishl dX10_least_18 ?_
          rw [shl_1 (by omega)]
          refine g_icmp_ge (tgt := 128) dX10_least_19 rfl (fun h19 => ?_) (fun h19 => ?_)
          · refine g_iinc (ls' := [some _, some _, some _, some _]) dX10_least_128 rfl rfl ?_
            refine g_goto (tgt := 2) dX10_least_131 rfl ?_
            exact ih (k + 1) (by omega) M1 _ hK1 hfin
          · exfalso; omega
        | succ m ihm =>
          intro s hs M1 hK1 hfin
          have hRn : M1.1 0 12 = ((nR D : Nat) : Int) := by rw [hK1.2.1 12 (by decide) (by decide) (by decide) (by decide) (by decide), hD.1.1]; unfold nR; omega
          have hD1 : DR D M1 := hD.dat hK1.1
          have hp8 := (pop8_all h8 (s := s) (by omega)).1
          have next : ∀ M2 : Mem, Kp M M2 → qStep D k s = none → G wdM mX10_least (d + 4) (fun v M' => v = some (vi (leastR (qStep D) D)) ∧ Kp M M') 122 [some (vr 0), some (vi 1), some (vi k), some (vi s)] [] M2 := by
            intro M2 hK2 hno
            rw [scan_next hno] at hfin
            refine g_iinc (ls' := [some _, some _, some _, some _]) dX10_least_122 rfl rfl ?_
            refine g_goto (tgt := 12) dX10_least_125 rfl ?_
            exact ihm (s + 1) (by omega) M2 hK2 hfin

          refine g_iload_n dX10_least_12 rfl rfl ?_
          refine g_iconst dX10_least_13 ?_
          refine g_aload_n dX10_least_14 rfl rfl ?_
          refine g_get dX10_least_15 fX10_114 rfl rfl ?_
          rw [hRn]
          refine g_ishl dX10_least_18 ?_
          rw [shl_1 (by omega)]
          refine g_icmp_ge (tgt := 128) dX10_least_19 rfl (fun h19 => ?_) (fun h19 => ?_)
          · exfalso; omega
          · refine g_iload_n dX10_least_22 rfl rfl ?_
            refine g_callSr dX10_least_23 lX10_232 (w_X10_bitsOf (by omega)) rfl rfl (Nat.le_of_ble_eq_true rfl) ?_
            refine g_iload_n dX10_least_26 rfl rfl ?_
            refine g_icmp_ne (tgt := 122) dX10_least_27 rfl (fun h27 => ?_) (fun h27 => ?_)
            · first
              | (exact next M1 hK1 (by
                   have hp : pop8 s ≠ k := by omega
                   unfold qStep; rw [if_neg (fun z => hp z.1)]))
              | (have hK2p : Kp M M2 := ⟨hK1.1.tr i1, fun k z1 z2 z3 z4 z5 => by rw [i2 k z1]; exact hK1.2.1 k z1 z2 z3 z4 z5, by rw [(i3 19 (by decide) (by decide)).1]; exact hK1.2.2.1, by rw [(i3 20 (by decide) (by decide)).1]; exact hK1.2.2.2⟩
                 exact next M2 hK2p (by
                   unfold qStep; rw [if_neg (fun z => h35 z.2.2)]))
              | (rcases hsp with ⟨e1, e2⟩ | ⟨e1, e2⟩
                 · exact next M4 hK4p (by
                     unfold qStep
                     rw [if_pos (show lookP D s k 0 from ⟨by omega, Nat.and_zero _, h35p⟩), show stP (seekP D (ordOf D s)) = 2 by (unfold stP; rw [e2, if_neg (by decide), if_neg (by omega)])]; rfl)
                 · exact absurd h87 (by omega))
            · refine g_aload_n dX10_least_30 rfl rfl ?_
              refine g_iload_n dX10_least_31 rfl rfl ?_
              refine g_callV dX10_least_32 lX10_235 (w_X10_isSet (D := D) (s := s) (by omega) hw hD1) rfl rfl rfl rfl (Nat.le_of_ble_eq_true rfl) ?_
              rintro v M2 ⟨rfl, i1, i2, i3, i4⟩
              show G _ _ _ _ _ _ [vi (bi (Closed D s))] M2
              refine g_if_eqB (tgt := 122) dX10_least_35 rfl (fun h35 => ?_) (fun h35 => ?_)
              · first
                | (exact next M1 hK1 (by
                     have hp : pop8 s ≠ k := by omega
                     unfold qStep; rw [if_neg (fun z => hp z.1)]))
                | (have hK2p : Kp M M2 := ⟨hK1.1.tr i1, fun k z1 z2 z3 z4 z5 => by rw [i2 k z1]; exact hK1.2.1 k z1 z2 z3 z4 z5, by rw [(i3 19 (by decide) (by decide)).1]; exact hK1.2.2.1, by rw [(i3 20 (by decide) (by decide)).1]; exact hK1.2.2.2⟩
                   exact next M2 hK2p (by
                     unfold qStep; rw [if_neg (fun z => h35 z.2.2)]))
                | (rcases hsp with ⟨e1, e2⟩ | ⟨e1, e2⟩
                   · exact next M4 hK4p (by
                       unfold qStep
                       rw [if_pos (show lookP D s k 0 from ⟨by omega, Nat.and_zero _, h35p⟩), show stP (seekP D (ordOf D s)) = 2 by (unfold stP; rw [e2, if_neg (by decide), if_neg (by omega)])]; rfl)
                   · exact absurd h87 (by omega))
              · refine g_iload_n dX10_least_38 rfl rfl ?_
                refine g_if_ne (tgt := 73) dX10_least_39 rfl (fun _ => ?_) (fun h39 => absurd h39 (by decide))
                refine g_aload_n dX10_least_73 rfl rfl ?_
                refine g_iconst dX10_least_74 ?_
                refine g_putz dX10_least_75 fX10_182 rfl rfl rfl (tyX10_ok 34 (by decide)) ?_
                have h35p := h35
                obtain ⟨i5, i6⟩ := i4 h35p
                obtain ⟨M3, hM3⟩ : ∃ M3, M3 = si M2 0 34 1 := ⟨_, rfl⟩
                rw [← hM3]
                have hMD3 : MDat M M3 := by rw [hM3]; exact (hK1.1.tr i1).si _ _ _
                have hsk := w_X10_seek (d := d) (D := D) (M := M3) (ord := ordOf D s) (pz := 1) hw (hD.dat hMD3) (ordOK_of hw h35p) (sink2 hw (ordOK_of hw h35p) M (A := -1) (B := -1) (by omega) (by omega)) (by omega) (by rw [hM3, sil, if_neg (by omega)]; exact i5) (fun j hj => by rw [hM3, si_1 _ _ _ _ _ (by decide)]; exact i6 j hj) (fun M' z1 z2 z3 z4 z5 z6 => ⟨⟨⟨z1, z2, by decide, by decide, z3⟩, by rw [z4 32 (by decide) (by decide) (by decide), hM3, sil, if_neg (by omega), i2 32 (by decide), hK1.2.1 32 (by decide) (by decide) (by decide) (by decide) (by decide)]; exact hqA, by rw [z4 33 (by decide) (by decide) (by decide), hM3, sil, if_neg (by omega), i2 33 (by decide), hK1.2.1 33 (by decide) (by decide) (by decide) (by decide) (by decide)]; exact hqB, Or.inr (by rw [z4 34 (by decide) (by decide) (by decide), hM3, sil, if_pos ⟨rfl, rfl⟩]), by
                  rw [z4 34 (by decide) (by decide) (by decide), hM3, sil, if_pos ⟨rfl, rfl⟩]
                  exact ⟨fun _ w hw => absurd hw (by show ¬ w ∈ []; simp), fun _ => rfl⟩⟩, by rw [z5, hM3, si_1 _ _ _ _ _ (by decide), (i3 19 (by decide) (by decide)).1]; exact hK1.2.2.1, by rw [z6, hM3, si_1 _ _ _ _ _ (by decide), (i3 20 (by decide) (by decide)).1]; exact hK1.2.2.2⟩)
                refine g_aload_n dX10_least_78 rfl rfl ?_
                refine g_iconst dX10_least_79 ?_
                refine g_callV dX10_least_80 lX10_208 (hsk) rfl rfl rfl rfl (Nat.le_of_ble_eq_true rfl) ?_
                rintro v M4 ⟨rfl, hK4, hF4⟩
                show G _ _ _ _ _ _ [] M4
                obtain ⟨⟨⟨k1, k2, k3, k4, k5⟩, k6, k7, k8, k9⟩, k10, k11⟩ := (show SK2 M (-1) (-1) M4 (seekP D (ordOf D s)) from hK4)
                have hK4p : Kp M M4 := ⟨hMD3.tr hF4.mdat, fun k z1 z2 z3 z4 z5 => by rw [hF4.1 k z2 z3 z4 z5, hM3, sil, if_neg (by omega), i2 k z1]; exact hK1.2.1 k z1 z2 z3 z4 z5, k10, k11⟩
                have hsp : (M4.1 0 31 = 0 ∧ (seekP D (ordOf D s)).2.2 = false) ∨ (M4.1 0 31 = 1 ∧ (seekP D (ordOf D s)).2.2 = true) := by
                  rw [k5]
                  cases (seekP D (ordOf D s)).2.2
                  · exact Or.inl ⟨rfl, rfl⟩
                  · exact Or.inr ⟨rfl, rfl⟩
                refine g_aload_n dX10_least_83 rfl rfl ?_
                refine g_get dX10_least_84 fX10_191 rfl rfl ?_
                try simp only [sil, sjl, Nat.reduceAdd, Nat.reduceEqDiff, eq_self, false_and, and_false, true_and, and_true, if_false, if_true, reduceIte]
                refine g_if_eq (tgt := 92) dX10_least_87 rfl (fun h87 => ?_) (fun h87 => ?_)
                · refine g_iload_n dX10_least_92 rfl rfl ?_
                  refine g_if_eq (tgt := 106) dX10_least_93 rfl (fun h93 => absurd h93 (by decide)) (fun _ => ?_)
                  refine g_aload_n dX10_least_96 rfl rfl ?_
                  refine g_get dX10_least_97 fX10_185 rfl rfl ?_
                  try simp only [sil, sjl, Nat.reduceAdd, Nat.reduceEqDiff, eq_self, false_and, and_false, true_and, and_true, if_false, if_true, reduceIte]
                  refine g_if_ne (tgt := 122) dX10_least_100 rfl (fun h100 => ?_) (fun h100 => ?_)
                  · first
                    | (exact next M1 hK1 (by
                         have hp : pop8 s ≠ k := by omega
                         unfold qStep; rw [if_neg (fun z => hp z.1)]))
                    | (have hK2p : Kp M M2 := ⟨hK1.1.tr i1, fun k z1 z2 z3 z4 z5 => by rw [i2 k z1]; exact hK1.2.1 k z1 z2 z3 z4 z5, by rw [(i3 19 (by decide) (by decide)).1]; exact hK1.2.2.1, by rw [(i3 20 (by decide) (by decide)).1]; exact hK1.2.2.2⟩
                       exact next M2 hK2p (by
                         unfold qStep; rw [if_neg (fun z => h35 z.2.2)]))
                    | (rcases hsp with ⟨e1, e2⟩ | ⟨e1, e2⟩
                       · exact next M4 hK4p (by
                           unfold qStep
                           rw [if_pos (show lookP D s k 0 from ⟨by omega, Nat.and_zero _, h35p⟩), show stP (seekP D (ordOf D s)) = 2 by (unfold stP; rw [e2, if_neg (by decide), if_neg (by omega)])]; rfl)
                       · exact absurd h87 (by omega))
                  · refine g_goto (tgt := 120) dX10_least_103 rfl ?_
                    refine g_iload_n dX10_least_120 rfl rfl ?_
                    refine g_iret dX10_least_121 rfl ?_
                    rcases hsp with ⟨e1, e2⟩ | ⟨e1, e2⟩
                    · refine ⟨?_, hK4p⟩
                      have hf : qStep D k s = some (s : Int) := by
                        unfold qStep
                        rw [if_pos (show lookP D s k 0 from ⟨by omega, Nat.and_zero _, h35p⟩), show stP (seekP D (ordOf D s)) = 1 by (unfold stP; rw [e2, if_neg (by decide), if_pos (by omega)]), if_pos rfl]
                      rw [scan_out hf] at hfin
                      rw [← hfin]; rfl
                    · exact absurd h87 (by omega)
                · refine g_iconst dX10_least_90 ?_
                  refine g_iret dX10_least_91 rfl ?_
                  rcases hsp with ⟨e1, e2⟩ | ⟨e1, e2⟩
                  · exact absurd e1 h87
                  · refine ⟨?_, hK4p⟩
                    have hf : qStep D k s = some (-1) := by
                      unfold qStep
                      rw [if_pos (show lookP D s k 0 from ⟨by omega, Nat.and_zero _, h35p⟩), show stP (seekP D (ordOf D s)) = 3 by unfold stP; rw [e2]; rfl]; rfl
                    rw [scan_out hf] at hfin
                    rw [← hfin]; rfl
      have hRn : M1.1 0 12 = ((nR D : Nat) : Int) := by rw [hK1.2.1 12 (by decide) (by decide) (by decide) (by decide) (by decide), hD.1.1]; unfold nR; omega
      have hfin2 : (match scanP (qStep D k) (2 ^ nR D) 0 with | some z => some z | none => scanP (fun n => scanP (qStep D n) (2 ^ nR D) 0) n (k + 1)).getD (-1) = leastR (qStep D) D := hfin
      refine g_iload_n dX10_least_2 rfl rfl ?_
      refine g_aload_n dX10_least_3 rfl rfl ?_
      refine g_get dX10_least_4 fX10_114 rfl rfl ?_
      rw [hRn]
      refine g_icmp_gt (tgt := 134) dX10_least_7 rfl (fun h7 => ?_) (fun h7 => ?_)
      · exfalso; omega
      · refine g_iconst dX10_least_10 ?_
        refine g_istore_n (ls' := [some _, some _, some _, some _]) dX10_least_11 rfl (by decide) rfl ?_
        exact inner (2 ^ nR D) 0 (by omega) M1 hK1 hfin2
  refine g_iconst dX10_least_0 ?_
  refine g_istore_n (ls' := [some _, some _, some _, _]) dX10_least_1 rfl (by decide) rfl ?_
  exact outer (nR D + 1) 0 (by omega) M _ Kp.rf rfl

theorem w_X10_least_p {d : Nat} {D M : Mem} {a c : Nat} (ha : (a : Int) < D.1 1 11) (hc : (c : Int) < D.1 1 11) (hw : Wf D) (hD : DR D M) (hqA : M.1 0 32 = (a : Int)) (hqB : M.1 0 33 = (c : Int)) : WP wdM (d + 4) mX10_least [vr 0, vi 0] M (fun v M' => v = some (vi (leastR (pStep D a c) D)) ∧ Kp M M') := by
  refine wp_of (by decide +kernel) (Nat.le_of_ble_eq_true rfl) ?_
  obtain ⟨b1, b2, b3, b4⟩ := id hw.1
  have h8 := nR_8 hw
  have h2p : 2 ^ nR D ≤ 2 ^ 8 := Nat.pow_le_pow_right (by decide) h8
  have outer : ∀ n k : Nat, k + n = nR D + 1 → ∀ (M1 : Mem) (x3 : Option AV), Kp M M1 → (scanP (fun n => scanP (pStep D a c n) (2 ^ nR D) 0) n k).getD (-1) = leastR (pStep D a c) D → G wdM mX10_least (d + 4) (fun v M' => v = some (vi (leastR (pStep D a c) D)) ∧ Kp M M') 2 [some (vr 0), some (vi 0), some (vi k), x3] [] M1 := by
    intro n
    induction n with
    | zero =>
      intro k hk M1 x3 hK1 hfin
      have hRn : M1.1 0 12 = ((nR D : Nat) : Int) := by rw [hK1.2.1 12 (by decide) (by decide) (by decide) (by decide) (by decide), hD.1.1]; unfold nR; omega
      refine g_iload_n dX10_least_2 rfl rfl ?_
      refine g_aload_n dX10_least_3 rfl rfl ?_
      refine g_get dX10_least_4 fX10_114 rfl rfl ?_
      rw [hRn]
      refine g_icmp_gt (tgt := 134) dX10_least_7 rfl (fun h7 => ?_) (fun h7 => ?_)
      · refine g_iconst dX10_least_134 ?_
        refine g_iret dX10_least_135 rfl ?_
        exact ⟨by rw [← hfin]; rfl, hK1⟩
      · exfalso; omega
    | succ n ih =>
      intro k hk M1 x3 hK1 hfin
      have inner : ∀ m s : Nat, s + m = 2 ^ nR D → ∀ M1 : Mem, Kp M M1 → (match scanP (pStep D a c k) m s with | some z => some z | none => scanP (fun n => scanP (pStep D a c n) (2 ^ nR D) 0) n (k + 1)).getD (-1) = leastR (pStep D a c) D → G wdM mX10_least (d + 4) (fun v M' => v = some (vi (leastR (pStep D a c) D)) ∧ Kp M M') 12 [some (vr 0), some (vi 0), some (vi k), some (vi s)] [] M1 := by
        intro m
        induction m with
        | zero =>
          intro s hs M1 hK1 hfin
          have hRn : M1.1 0 12 = ((nR D : Nat) : Int) := by rw [hK1.2.1 12 (by decide) (by decide) (by decide) (by decide) (by decide), hD.1.1]; unfold nR; omega
          refine g_iload_n dX10_least_12 rfl rfl ?_
          refine g_iconst dX10_least_13 ?_
          refine g_aload_n dX10_least_14 rfl rfl ?_
          refine g_get dX10_least_15 fX10_114 rfl rfl ?_
          rw [hRn]
          refine g_ishl dX10_least_18 ?_
          rw [shl_1 (by omega)]
          refine g_icmp_ge (tgt := 128) dX10_least_19 rfl (fun h19 => ?_) (fun h19 => ?_)
          · refine g_iinc (ls' := [some _, some _, some _, some _]) dX10_least_128 rfl rfl ?_
            refine g_goto (tgt := 2) dX10_least_131 rfl ?_
            exact ih (k + 1) (by omega) M1 _ hK1 hfin
          · exfalso; omega
        | succ m ihm =>
          intro s hs M1 hK1 hfin
          have hRn : M1.1 0 12 = ((nR D : Nat) : Int) := by rw [hK1.2.1 12 (by decide) (by decide) (by decide) (by decide) (by decide), hD.1.1]; unfold nR; omega
          have hD1 : DR D M1 := hD.dat hK1.1
          have hp8 := (pop8_all h8 (s := s) (by omega)).1
          have next : ∀ M2 : Mem, Kp M M2 → pStep D a c k s = none → G wdM mX10_least (d + 4) (fun v M' => v = some (vi (leastR (pStep D a c) D)) ∧ Kp M M') 122 [some (vr 0), some (vi 0), some (vi k), some (vi s)] [] M2 := by
            intro M2 hK2 hno
            rw [scan_next hno] at hfin
            refine g_iinc (ls' := [some _, some _, some _, some _]) dX10_least_122 rfl rfl ?_
            refine g_goto (tgt := 12) dX10_least_125 rfl ?_
            exact ihm (s + 1) (by omega) M2 hK2 hfin
          obtain ⟨oa1, oa2, _, _⟩ := hw.2.2.1 a ha
          obtain ⟨oc1, oc2, _, _⟩ := hw.2.2.1 c hc
          refine g_iload_n dX10_least_12 rfl rfl ?_
          refine g_iconst dX10_least_13 ?_
          refine g_aload_n dX10_least_14 rfl rfl ?_
          refine g_get dX10_least_15 fX10_114 rfl rfl ?_
          rw [hRn]
          refine g_ishl dX10_least_18 ?_
          rw [shl_1 (by omega)]
          refine g_icmp_ge (tgt := 128) dX10_least_19 rfl (fun h19 => ?_) (fun h19 => ?_)
          · exfalso; omega
          · refine g_iload_n dX10_least_22 rfl rfl ?_
            refine g_callSr dX10_least_23 lX10_232 (w_X10_bitsOf (by omega)) rfl rfl (Nat.le_of_ble_eq_true rfl) ?_
            refine g_iload_n dX10_least_26 rfl rfl ?_
            refine g_icmp_ne (tgt := 122) dX10_least_27 rfl (fun h27 => ?_) (fun h27 => ?_)
            · first
              | (exact next M1 hK1 (by
                   have hp : pop8 s ≠ k := by omega
                   unfold pStep; rw [if_neg (fun z => hp z.1)]))
              | (have hK2p : Kp M M2 := ⟨hK1.1.tr i1, fun k z1 z2 z3 z4 z5 => by rw [i2 k z1]; exact hK1.2.1 k z1 z2 z3 z4 z5, by rw [(i3 19 (by decide) (by decide)).1]; exact hK1.2.2.1, by rw [(i3 20 (by decide) (by decide)).1]; exact hK1.2.2.2⟩
                 exact next M2 hK2p (by
                   first
                   | (unfold pStep; rw [if_neg (fun z => h35 z.2.2)]; done)
                   | (have hnb : ¬ (s.testBit (D.1 5 a).toNat = true ∧ s.testBit (D.1 5 c).toNat = true) := fun z => by
                        rw [if_pos z] at h67; exact absurd rfl h67
                      unfold pStep
                      rw [if_neg (fun z => hnb (need_iff.mp z.2.1))]
                      done)
                   | (have hnb : ¬ (s.testBit (D.1 5 a).toNat = true ∧ s.testBit (D.1 5 c).toNat = true) := fun z => by
                        rw [if_pos z] at h67; exact absurd h67 (by decide)
                      unfold pStep
                      rw [if_neg (fun z => hnb (need_iff.mp z.2.1))]
                      done)))
              | (rcases hsp with ⟨e1, e2⟩ | ⟨e1, e2⟩
                 · exact next M4 hK4p (by
                     first
                     | (unfold pStep
                        rw [if_pos (show lookP D s k (2 ^ (D.1 5 a).toNat ||| 2 ^ (D.1 5 c).toNat) from ⟨by omega, need_iff.mpr hbb, h35p⟩), show stP (seekP D (ordOf D s)) = 1 by (unfold stP; rw [e2, if_neg (by decide), if_pos (by omega)]), if_neg (by decide), if_neg (fun z => absurd z.1 (by decide))]
                        done)
                     | (unfold pStep
                        rw [if_pos (show lookP D s k (2 ^ (D.1 5 a).toNat ||| 2 ^ (D.1 5 c).toNat) from ⟨by omega, need_iff.mpr hbb, h35p⟩), show stP (seekP D (ordOf D s)) = 2 by (unfold stP; rw [e2, if_neg (by decide), if_neg (by omega)]), if_neg (by decide), if_neg (fun z => ?_)]
                        have z2 := hjo.mpr (@of_decide_eq_true _ (Classical.propDecidable _) z.2)
                        omega))
                 · exact absurd h87 (by omega))
            · refine g_aload_n dX10_least_30 rfl rfl ?_
              refine g_iload_n dX10_least_31 rfl rfl ?_
              refine g_callV dX10_least_32 lX10_235 (w_X10_isSet (D := D) (s := s) (by omega) hw hD1) rfl rfl rfl rfl (Nat.le_of_ble_eq_true rfl) ?_
              rintro v M2 ⟨rfl, i1, i2, i3, i4⟩
              show G _ _ _ _ _ _ [vi (bi (Closed D s))] M2
              refine g_if_eqB (tgt := 122) dX10_least_35 rfl (fun h35 => ?_) (fun h35 => ?_)
              · first
                | (exact next M1 hK1 (by
                     have hp : pop8 s ≠ k := by omega
                     unfold pStep; rw [if_neg (fun z => hp z.1)]))
                | (have hK2p : Kp M M2 := ⟨hK1.1.tr i1, fun k z1 z2 z3 z4 z5 => by rw [i2 k z1]; exact hK1.2.1 k z1 z2 z3 z4 z5, by rw [(i3 19 (by decide) (by decide)).1]; exact hK1.2.2.1, by rw [(i3 20 (by decide) (by decide)).1]; exact hK1.2.2.2⟩
                   exact next M2 hK2p (by
                     first
                     | (unfold pStep; rw [if_neg (fun z => h35 z.2.2)]; done)
                     | (have hnb : ¬ (s.testBit (D.1 5 a).toNat = true ∧ s.testBit (D.1 5 c).toNat = true) := fun z => by
                          rw [if_pos z] at h67; exact absurd rfl h67
                        unfold pStep
                        rw [if_neg (fun z => hnb (need_iff.mp z.2.1))]
                        done)
                     | (have hnb : ¬ (s.testBit (D.1 5 a).toNat = true ∧ s.testBit (D.1 5 c).toNat = true) := fun z => by
                          rw [if_pos z] at h67; exact absurd h67 (by decide)
                        unfold pStep
                        rw [if_neg (fun z => hnb (need_iff.mp z.2.1))]
                        done)))
                | (rcases hsp with ⟨e1, e2⟩ | ⟨e1, e2⟩
                   · exact next M4 hK4p (by
                       first
                       | (unfold pStep
                          rw [if_pos (show lookP D s k (2 ^ (D.1 5 a).toNat ||| 2 ^ (D.1 5 c).toNat) from ⟨by omega, need_iff.mpr hbb, h35p⟩), show stP (seekP D (ordOf D s)) = 1 by (unfold stP; rw [e2, if_neg (by decide), if_pos (by omega)]), if_neg (by decide), if_neg (fun z => absurd z.1 (by decide))]
                          done)
                       | (unfold pStep
                          rw [if_pos (show lookP D s k (2 ^ (D.1 5 a).toNat ||| 2 ^ (D.1 5 c).toNat) from ⟨by omega, need_iff.mpr hbb, h35p⟩), show stP (seekP D (ordOf D s)) = 2 by (unfold stP; rw [e2, if_neg (by decide), if_neg (by omega)]), if_neg (by decide), if_neg (fun z => ?_)]
                          have z2 := hjo.mpr (@of_decide_eq_true _ (Classical.propDecidable _) z.2)
                          omega))
                   · exact absurd h87 (by omega))
              · refine g_iload_n dX10_least_38 rfl rfl ?_
                refine g_if_ne (tgt := 73) dX10_least_39 rfl (fun h39 => absurd (by decide) h39) (fun _ => ?_)
                have hqA2 : M2.1 0 32 = (a : Int) := by rw [i2 32 (by decide), hK1.2.1 32 (by decide) (by decide) (by decide) (by decide) (by decide)]; exact hqA
                have hqB2 : M2.1 0 33 = (c : Int) := by rw [i2 33 (by decide), hK1.2.1 33 (by decide) (by decide) (by decide) (by decide) (by decide)]; exact hqB
                have hoA : M2.1 5 a = (((D.1 5 a).toNat : Nat) : Int) := by rw [((hD1.dat i1).2.1 a ha).1]; omega
                have hoB : M2.1 5 c = (((D.1 5 c).toNat : Nat) : Int) := by rw [((hD1.dat i1).2.1 c hc).1]; omega
                refine g_iload_n dX10_least_42 rfl rfl ?_
                refine g_aload_n dX10_least_43 rfl rfl ?_
                refine g_getr dX10_least_44 fX10_22 rfl rfl ?_
                refine g_aload_n dX10_least_47 rfl rfl ?_
                refine g_get dX10_least_48 fX10_176 rfl rfl ?_
                try simp only [sil, sjl, Nat.reduceAdd, Nat.reduceEqDiff, eq_self, false_and, and_false, true_and, and_true, if_false, if_true, reduceIte]
                rw [hqA2]
                refine g_iald dX10_least_51 rfl (by decide) ?_
                try simp only [sil, sjl, Nat.reduceAdd, Nat.reduceEqDiff, eq_self, false_and, and_false, true_and, and_true, if_false, if_true, reduceIte]
                try simp only [Int.toNat_natCast]
                rw [hoA]
                refine g_ishr dX10_least_52 ?_
                refine g_iload_n dX10_least_53 rfl rfl ?_
                refine g_aload_n dX10_least_54 rfl rfl ?_
                refine g_getr dX10_least_55 fX10_22 rfl rfl ?_
                refine g_aload_n dX10_least_58 rfl rfl ?_
                refine g_get dX10_least_59 fX10_179 rfl rfl ?_
                try simp only [sil, sjl, Nat.reduceAdd, Nat.reduceEqDiff, eq_self, false_and, and_false, true_and, and_true, if_false, if_true, reduceIte]
                rw [hqB2]
                refine g_iald dX10_least_62 rfl (by decide) ?_
                try simp only [sil, sjl, Nat.reduceAdd, Nat.reduceEqDiff, eq_self, false_and, and_false, true_and, and_true, if_false, if_true, reduceIte]
                try simp only [Int.toNat_natCast]
                rw [hoB]
                refine g_ishr dX10_least_63 ?_
                refine g_iand dX10_least_64 ?_
                refine g_iconst dX10_least_65 ?_
                refine g_iand dX10_least_66 ?_
                rw [two_bits (by omega) (by omega) (by omega)]
                refine g_if_ne (tgt := 73) dX10_least_67 rfl (fun h67 => ?_) (fun h67 => ?_)
                · have hbb : s.testBit (D.1 5 a).toNat = true ∧ s.testBit (D.1 5 c).toNat = true := Classical.byContradiction (fun z => by rw [if_neg z] at h67; exact absurd rfl h67)
                  refine g_aload_n dX10_least_73 rfl rfl ?_
                  refine g_iconst dX10_least_74 ?_
                  refine g_putz dX10_least_75 fX10_182 rfl rfl rfl (tyX10_ok 34 (by decide)) ?_
                  have h35p := h35
                  obtain ⟨i5, i6⟩ := i4 h35p
                  obtain ⟨M3, hM3⟩ : ∃ M3, M3 = si M2 0 34 1 := ⟨_, rfl⟩
                  rw [← hM3]
                  have hMD3 : MDat M M3 := by rw [hM3]; exact (hK1.1.tr i1).si _ _ _
                  have hsk := w_X10_seek (d := d) (D := D) (M := M3) (ord := ordOf D s) (pz := 1) hw (hD.dat hMD3) (ordOK_of hw h35p) (sink2 hw (ordOK_of hw h35p) M (A := (a : Int)) (B := (c : Int)) (by omega) (by omega)) (by omega) (by rw [hM3, sil, if_neg (by omega)]; exact i5) (fun j hj => by rw [hM3, si_1 _ _ _ _ _ (by decide)]; exact i6 j hj) (fun M' z1 z2 z3 z4 z5 z6 => ⟨⟨⟨z1, z2, by decide, by decide, z3⟩, by rw [z4 32 (by decide) (by decide) (by decide), hM3, sil, if_neg (by omega), i2 32 (by decide), hK1.2.1 32 (by decide) (by decide) (by decide) (by decide) (by decide)]; exact hqA, by rw [z4 33 (by decide) (by decide) (by decide), hM3, sil, if_neg (by omega), i2 33 (by decide), hK1.2.1 33 (by decide) (by decide) (by decide) (by decide) (by decide)]; exact hqB, Or.inr (by rw [z4 34 (by decide) (by decide) (by decide), hM3, sil, if_pos ⟨rfl, rfl⟩]), by
                    rw [z4 34 (by decide) (by decide) (by decide), hM3, sil, if_pos ⟨rfl, rfl⟩]
                    exact ⟨fun _ w hw => absurd hw (by show ¬ w ∈ []; simp), fun _ => rfl⟩⟩, by rw [z5, hM3, si_1 _ _ _ _ _ (by decide), (i3 19 (by decide) (by decide)).1]; exact hK1.2.2.1, by rw [z6, hM3, si_1 _ _ _ _ _ (by decide), (i3 20 (by decide) (by decide)).1]; exact hK1.2.2.2⟩)
                  refine g_aload_n dX10_least_78 rfl rfl ?_
                  refine g_iconst dX10_least_79 ?_
                  refine g_callV dX10_least_80 lX10_208 (hsk) rfl rfl rfl rfl (Nat.le_of_ble_eq_true rfl) ?_
                  rintro v M4 ⟨rfl, hK4, hF4⟩
                  show G _ _ _ _ _ _ [] M4
                  obtain ⟨⟨⟨k1, k2, k3, k4, k5⟩, k6, k7, k8, k9⟩, k10, k11⟩ := (show SK2 M ((a : Int)) ((c : Int)) M4 (seekP D (ordOf D s)) from hK4)
                  have hK4p : Kp M M4 := ⟨hMD3.tr hF4.mdat, fun k z1 z2 z3 z4 z5 => by rw [hF4.1 k z2 z3 z4 z5, hM3, sil, if_neg (by omega), i2 k z1]; exact hK1.2.1 k z1 z2 z3 z4 z5, k10, k11⟩
                  have hsp : (M4.1 0 31 = 0 ∧ (seekP D (ordOf D s)).2.2 = false) ∨ (M4.1 0 31 = 1 ∧ (seekP D (ordOf D s)).2.2 = true) := by
                    rw [k5]
                    cases (seekP D (ordOf D s)).2.2
                    · exact Or.inl ⟨rfl, rfl⟩
                    · exact Or.inr ⟨rfl, rfl⟩
                  have hao : a ∈ ordOf D s := mem_ordOf.mpr ⟨by unfold nN; omega, hbb.1⟩
                  have hco : c ∈ ordOf D s := mem_ordOf.mpr ⟨by unfold nN; omega, hbb.2⟩
                  have hjo : M4.1 0 34 = 1 ↔ joinsP D s a c := by
                    rw [k9]
                    have hw2 : ∀ w ∈ (seekP D (ordOf D s)).2.1, (lkd w.1 a c ↔ per w.1 a = per w.1 c) := fun w hww => by
                      have e := (seekP_ways hw (ordOK_of hw h35p) w hww).1
                      have hnd : (w.1.map (fun x => x.1)).Nodup := by rw [e]; exact (ordOK_of hw h35p).nd
                      exact lkd_per hnd (by rw [e]; exact hao) (by rw [e]; exact hco)
                    exact ⟨fun z w hww => (hw2 w hww).mp (z w hww), fun z w hww => (hw2 w hww).mpr (z w hww)⟩
                  refine g_aload_n dX10_least_83 rfl rfl ?_
                  refine g_get dX10_least_84 fX10_191 rfl rfl ?_
                  try simp only [sil, sjl, Nat.reduceAdd, Nat.reduceEqDiff, eq_self, false_and, and_false, true_and, and_true, if_false, if_true, reduceIte]
                  refine g_if_eq (tgt := 92) dX10_least_87 rfl (fun h87 => ?_) (fun h87 => ?_)
                  · refine g_iload_n dX10_least_92 rfl rfl ?_
                    refine g_if_eq (tgt := 106) dX10_least_93 rfl (fun _ => ?_) (fun h93 => absurd (by decide) h93)
                    refine g_aload_n dX10_least_106 rfl rfl ?_
                    refine g_get dX10_least_107 fX10_185 rfl rfl ?_
                    try simp only [sil, sjl, Nat.reduceAdd, Nat.reduceEqDiff, eq_self, false_and, and_false, true_and, and_true, if_false, if_true, reduceIte]
                    refine g_if_le (tgt := 122) dX10_least_110 rfl (fun h110 => ?_) (fun h110 => ?_)
                    · first
                      | (exact next M1 hK1 (by
                           have hp : pop8 s ≠ k := by omega
                           unfold pStep; rw [if_neg (fun z => hp z.1)]))
                      | (have hK2p : Kp M M2 := ⟨hK1.1.tr i1, fun k z1 z2 z3 z4 z5 => by rw [i2 k z1]; exact hK1.2.1 k z1 z2 z3 z4 z5, by rw [(i3 19 (by decide) (by decide)).1]; exact hK1.2.2.1, by rw [(i3 20 (by decide) (by decide)).1]; exact hK1.2.2.2⟩
                         exact next M2 hK2p (by
                           first
                           | (unfold pStep; rw [if_neg (fun z => h35 z.2.2)]; done)
                           | (have hnb : ¬ (s.testBit (D.1 5 a).toNat = true ∧ s.testBit (D.1 5 c).toNat = true) := fun z => by
                                rw [if_pos z] at h67; exact absurd rfl h67
                              unfold pStep
                              rw [if_neg (fun z => hnb (need_iff.mp z.2.1))]
                              done)
                           | (have hnb : ¬ (s.testBit (D.1 5 a).toNat = true ∧ s.testBit (D.1 5 c).toNat = true) := fun z => by
                                rw [if_pos z] at h67; exact absurd h67 (by decide)
                              unfold pStep
                              rw [if_neg (fun z => hnb (need_iff.mp z.2.1))]
                              done)))
                      | (rcases hsp with ⟨e1, e2⟩ | ⟨e1, e2⟩
                         · exact next M4 hK4p (by
                             first
                             | (unfold pStep
                                rw [if_pos (show lookP D s k (2 ^ (D.1 5 a).toNat ||| 2 ^ (D.1 5 c).toNat) from ⟨by omega, need_iff.mpr hbb, h35p⟩), show stP (seekP D (ordOf D s)) = 1 by (unfold stP; rw [e2, if_neg (by decide), if_pos (by omega)]), if_neg (by decide), if_neg (fun z => absurd z.1 (by decide))]
                                done)
                             | (unfold pStep
                                rw [if_pos (show lookP D s k (2 ^ (D.1 5 a).toNat ||| 2 ^ (D.1 5 c).toNat) from ⟨by omega, need_iff.mpr hbb, h35p⟩), show stP (seekP D (ordOf D s)) = 2 by (unfold stP; rw [e2, if_neg (by decide), if_neg (by omega)]), if_neg (by decide), if_neg (fun z => ?_)]
                                have z2 := hjo.mpr (@of_decide_eq_true _ (Classical.propDecidable _) z.2)
                                omega))
                         · exact absurd h87 (by omega))
                    · refine g_aload_n dX10_least_113 rfl rfl ?_
                      refine g_get dX10_least_114 fX10_182 rfl rfl ?_
                      try simp only [sil, sjl, Nat.reduceAdd, Nat.reduceEqDiff, eq_self, false_and, and_false, true_and, and_true, if_false, if_true, reduceIte]
                      refine g_if_eq (tgt := 122) dX10_least_117 rfl (fun h117 => ?_) (fun h117 => ?_)
                      · first
                        | (exact next M1 hK1 (by
                             have hp : pop8 s ≠ k := by omega
                             unfold pStep; rw [if_neg (fun z => hp z.1)]))
                        | (have hK2p : Kp M M2 := ⟨hK1.1.tr i1, fun k z1 z2 z3 z4 z5 => by rw [i2 k z1]; exact hK1.2.1 k z1 z2 z3 z4 z5, by rw [(i3 19 (by decide) (by decide)).1]; exact hK1.2.2.1, by rw [(i3 20 (by decide) (by decide)).1]; exact hK1.2.2.2⟩
                           exact next M2 hK2p (by
                             first
                             | (unfold pStep; rw [if_neg (fun z => h35 z.2.2)]; done)
                             | (have hnb : ¬ (s.testBit (D.1 5 a).toNat = true ∧ s.testBit (D.1 5 c).toNat = true) := fun z => by
                                  rw [if_pos z] at h67; exact absurd rfl h67
                                unfold pStep
                                rw [if_neg (fun z => hnb (need_iff.mp z.2.1))]
                                done)
                             | (have hnb : ¬ (s.testBit (D.1 5 a).toNat = true ∧ s.testBit (D.1 5 c).toNat = true) := fun z => by
                                  rw [if_pos z] at h67; exact absurd h67 (by decide)
                                unfold pStep
                                rw [if_neg (fun z => hnb (need_iff.mp z.2.1))]
                                done)))
                        | (rcases hsp with ⟨e1, e2⟩ | ⟨e1, e2⟩
                           · exact next M4 hK4p (by
                               first
                               | (unfold pStep
                                  rw [if_pos (show lookP D s k (2 ^ (D.1 5 a).toNat ||| 2 ^ (D.1 5 c).toNat) from ⟨by omega, need_iff.mpr hbb, h35p⟩), show stP (seekP D (ordOf D s)) = 1 by (unfold stP; rw [e2, if_neg (by decide), if_pos (by omega)]), if_neg (by decide), if_neg (fun z => absurd z.1 (by decide))]
                                  done)
                               | (unfold pStep
                                  rw [if_pos (show lookP D s k (2 ^ (D.1 5 a).toNat ||| 2 ^ (D.1 5 c).toNat) from ⟨by omega, need_iff.mpr hbb, h35p⟩), show stP (seekP D (ordOf D s)) = 2 by (unfold stP; rw [e2, if_neg (by decide), if_neg (by omega)]), if_neg (by decide), if_neg (fun z => ?_)]
                                  have z2 := hjo.mpr (@of_decide_eq_true _ (Classical.propDecidable _) z.2)
                                  omega))
                           · exact absurd h87 (by omega))
                      · refine g_iload_n dX10_least_120 rfl rfl ?_
                        refine g_iret dX10_least_121 rfl ?_
                        rcases hsp with ⟨e1, e2⟩ | ⟨e1, e2⟩
                        · refine ⟨?_, hK4p⟩
                          have hf : pStep D a c k s = some (s : Int) := by
                            unfold pStep
                            rw [if_pos (show lookP D s k (2 ^ (D.1 5 a).toNat ||| 2 ^ (D.1 5 c).toNat) from ⟨by omega, need_iff.mpr hbb, h35p⟩), show stP (seekP D (ordOf D s)) = 2 by (unfold stP; rw [e2, if_neg (by decide), if_neg (by omega)]), if_neg (by decide), if_pos ⟨rfl, @decide_eq_true _ (Classical.propDecidable _) (hjo.mp (by omega))⟩]
                          rw [scan_out hf] at hfin
                          rw [← hfin]; rfl
                        · exact absurd h87 (by omega)
                  · refine g_iconst dX10_least_90 ?_
                    refine g_iret dX10_least_91 rfl ?_
                    rcases hsp with ⟨e1, e2⟩ | ⟨e1, e2⟩
                    · exact absurd e1 h87
                    · refine ⟨?_, hK4p⟩
                      have hf : pStep D a c k s = some (-1) := by
                        unfold pStep
                        rw [if_pos (show lookP D s k (2 ^ (D.1 5 a).toNat ||| 2 ^ (D.1 5 c).toNat) from ⟨by omega, need_iff.mpr hbb, h35p⟩), show stP (seekP D (ordOf D s)) = 3 by unfold stP; rw [e2]; rfl]; rfl
                      rw [scan_out hf] at hfin
                      rw [← hfin]; rfl
                · refine g_goto (tgt := 122) dX10_least_70 rfl ?_
                  first
                  | (exact next M1 hK1 (by
                       have hp : pop8 s ≠ k := by omega
                       unfold pStep; rw [if_neg (fun z => hp z.1)]))
                  | (have hK2p : Kp M M2 := ⟨hK1.1.tr i1, fun k z1 z2 z3 z4 z5 => by rw [i2 k z1]; exact hK1.2.1 k z1 z2 z3 z4 z5, by rw [(i3 19 (by decide) (by decide)).1]; exact hK1.2.2.1, by rw [(i3 20 (by decide) (by decide)).1]; exact hK1.2.2.2⟩
                     exact next M2 hK2p (by
                       first
                       | (unfold pStep; rw [if_neg (fun z => h35 z.2.2)]; done)
                       | (have hnb : ¬ (s.testBit (D.1 5 a).toNat = true ∧ s.testBit (D.1 5 c).toNat = true) := fun z => by
                            rw [if_pos z] at h67; exact absurd rfl h67
                          unfold pStep
                          rw [if_neg (fun z => hnb (need_iff.mp z.2.1))]
                          done)
                       | (have hnb : ¬ (s.testBit (D.1 5 a).toNat = true ∧ s.testBit (D.1 5 c).toNat = true) := fun z => by
                            rw [if_pos z] at h67; exact absurd h67 (by decide)
                          unfold pStep
                          rw [if_neg (fun z => hnb (need_iff.mp z.2.1))]
                          done)))
                  | (rcases hsp with ⟨e1, e2⟩ | ⟨e1, e2⟩
                     · exact next M4 hK4p (by
                         first
                         | (unfold pStep
                            rw [if_pos (show lookP D s k (2 ^ (D.1 5 a).toNat ||| 2 ^ (D.1 5 c).toNat) from ⟨by omega, need_iff.mpr hbb, h35p⟩), show stP (seekP D (ordOf D s)) = 1 by (unfold stP; rw [e2, if_neg (by decide), if_pos (by omega)]), if_neg (by decide), if_neg (fun z => absurd z.1 (by decide))]
                            done)
                         | (unfold pStep
                            rw [if_pos (show lookP D s k (2 ^ (D.1 5 a).toNat ||| 2 ^ (D.1 5 c).toNat) from ⟨by omega, need_iff.mpr hbb, h35p⟩), show stP (seekP D (ordOf D s)) = 2 by (unfold stP; rw [e2, if_neg (by decide), if_neg (by omega)]), if_neg (by decide), if_neg (fun z => ?_)]
                            have z2 := hjo.mpr (@of_decide_eq_true _ (Classical.propDecidable _) z.2)
                            omega))
                     · exact absurd h87 (by omega))
      have hRn : M1.1 0 12 = ((nR D : Nat) : Int) := by rw [hK1.2.1 12 (by decide) (by decide) (by decide) (by decide) (by decide), hD.1.1]; unfold nR; omega
      have hfin2 : (match scanP (pStep D a c k) (2 ^ nR D) 0 with | some z => some z | none => scanP (fun n => scanP (pStep D a c n) (2 ^ nR D) 0) n (k + 1)).getD (-1) = leastR (pStep D a c) D := hfin
      refine g_iload_n dX10_least_2 rfl rfl ?_
      refine g_aload_n dX10_least_3 rfl rfl ?_
      refine g_get dX10_least_4 fX10_114 rfl rfl ?_
      rw [hRn]
      refine g_icmp_gt (tgt := 134) dX10_least_7 rfl (fun h7 => ?_) (fun h7 => ?_)
      · exfalso; omega
      · refine g_iconst dX10_least_10 ?_
        refine g_istore_n (ls' := [some _, some _, some _, some _]) dX10_least_11 rfl (by decide) rfl ?_
        exact inner (2 ^ nR D) 0 (by omega) M1 hK1 hfin2
  refine g_iconst dX10_least_0 ?_
  refine g_istore_n (ls' := [some _, some _, some _, _]) dX10_least_1 rfl (by decide) rfl ?_
  exact outer (nR D + 1) 0 (by omega) M _ Kp.rf rfl

