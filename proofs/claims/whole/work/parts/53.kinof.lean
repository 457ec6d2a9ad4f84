/-! MODULE 49: kinOf (reference). -/
theorem w_X10_kinOf {d : Nat} {D M : Mem} {k a b : Nat} {w : Nat → Nat} (hk : k < 3000) (hw : Wf D) (hr : DR D M) (hkd : DRk D M) (hways : ∀ r : Nat, (r : Int) < D.1 1 11 → M.1 19 (14 * k + r) = w r) (h14 : ∀ r : Nat, (r : Int) < D.1 1 11 → w r < 14) (hU : Kid1 D w) (ha : w a < 14) (hb : w b < 14) : WP wdM (d + 2) mX10_kinOf [vr 0, vi k, vi (w a : Nat), vi (w b : Nat)] M (fun v M' => v = some (vi (kinC w (bl D) a b)) ∧ ∀ p, p ≠ 21 → p ≠ 22 → M'.1 p = M.1 p ∧ M'.2 p = M.2 p) := by
  refine wp_of (by decide +kernel) (Nat.le_of_ble_eq_true rfl) ?_
  have hkid : ∀ r, r < nR D → isB D r → w (D.1 2 r).toNat < 14 ∧ w ((D.1 2 r).toNat + 1) < 14 ∧ w ((D.1 2 r).toNat + 2) < 14 := fun r hr hb => by
    have hrl : (r : Int) < D.1 1 10 := by unfold nR at hr; omega
    have h1 := hw.2.1.1 r hrl
    have h2 := hb.2.1
    exact ⟨h14 _ (by omega), h14 _ (by omega), h14 _ (by omega)⟩
  have hp14 : ∀ j, j = 1 ∨ j = 2 → ∀ p, -1 ≤ paR D w j (nR D) p ∧ paR D w j (nR D) p < 14 := by
    intro j hj p
    by_cases he : ∃ r, r < nR D ∧ isB D r ∧ w (D.1 2 r).toNat = p
    · obtain ⟨r, r1, r2, rfl⟩ := he
      rw [paR_some (nR D) r1 r2 (fun s hs hb e => hU s r hs r1 hb r2 e)]
      have := hkid r r1 r2
      rcases hj with rfl | rfl <;> omega
    · rw [paR_none _ (fun r r1 r2 e => he ⟨r, r1, r2, e⟩)]; omega
  have hup : ∀ s, upK (paR D w 1 (nR D)) (paR D w 2 (nR D)) s 14 = parN w s (brs D (nR D)) 0 := up_eq hU (fun r r1 r2 => (hkid r r1 r2).1)
  have hitb : ∀ u, itN w (brs D (nR D)) (2 ^ w a) u < 16384 := fun u => by
    cases u with
    | zero =>
      have h1 : (2 : Nat) ^ w a ≤ 2 ^ 13 := Nat.pow_le_pow_right (by decide) (by omega)
      exact Nat.lt_of_le_of_lt h1 (by decide)
    | succ n => show parN w (itN w (brs D (nR D)) (2 ^ w a) n) _ 0 < 16384; rw [← hup]; exact upK_b (fun p _ => (hp14 1 (Or.inl rfl) p).2) (fun p _ => (hp14 2 (Or.inr rfl) p).2) _ 14 (Nat.le_refl _)
  have hdu : ∀ u e, (dnI (paR D w 1 (nR D)) (paR D w 2 (nR D)) (itN w (brs D (nR D)) (2 ^ w a) u) e).testBit (w b) = true ↔ itN w (brs D (nR D)) (2 ^ w a) u &&& itN w (brs D (nR D)) (2 ^ w b) e ≠ 0 := fun u e => dn_up hup hb (fun p _ => (hp14 1 (Or.inl rfl) p).2) (fun p _ => (hp14 2 (Or.inr rfl) p).2) e _
  have main : ∀ M2 : Mem, (∀ p, p ≠ 21 → p ≠ 22 → M2.1 p = M.1 p ∧ M2.2 p = M.2 p) → (∀ p, p < 14 → M2.1 21 p = paR D w 1 (nR D) p ∧ M2.1 22 p = paR D w 2 (nR D) p) → ∀ n u : Nat, u + n = 11 → ∀ z y x8 x9, BS (itN w (brs D (nR D)) (2 ^ w a)) (itN w (brs D (nR D)) (2 ^ w b)) (fun u1 _ => u1 < u) z y → (y = 1000 ∨ y ≤ 20 ∧ 0 ≤ y) → G wdM mX10_kinOf (d + 2) (fun v M' => v = some (vi (kinC w (bl D) a b)) ∧ ∀ p, p ≠ 21 → p ≠ 22 → M'.1 p = M.1 p ∧ M'.2 p = M.2 p) 21 [some (vr 0), some (vi k), some (vi (w a : Nat)), some (vi (w b : Nat)), some (vi z), some (vi y), some (vi (itN w (brs D (nR D)) (2 ^ w a) u : Nat)), some (vi u), x8, x9] [] M2 := by
    intro M2 hF hpp
    have hdn : ∀ s, dnK (M2.1 21) (M2.1 22) s 14 = dnK (paR D w 1 (nR D)) (paR D w 2 (nR D)) s 14 := dnK_congr hpp
    have hupp : ∀ s, upK (M2.1 21) (M2.1 22) s 14 = parN w s (brs D (nR D)) 0 := fun s => (upK_congr hpp s).trans (hup s)
    have hm21 : ∀ p, p < 14 → -1 ≤ M2.1 21 p ∧ M2.1 21 p < 14 := fun p hp => by rw [(hpp p hp).1]; exact hp14 1 (Or.inl rfl) p
    have hm22 : ∀ p, p < 14 → -1 ≤ M2.1 22 p ∧ M2.1 22 p < 14 := fun p hp => by rw [(hpp p hp).2]; exact hp14 2 (Or.inr rfl) p
    intro n
    induction n with
    | zero =>
      intro u hu z y x8 x9 hBS hy
      refine g_iload dX10_kinOf_21 rfl ?_
      refine g_bipush dX10_kinOf_23 rfl ?_
      refine g_icmp_gt (tgt := 117) dX10_kinOf_25 rfl (fun h25 => ?_) (fun h25 => ?_)
      · refine g_iload dX10_kinOf_117 rfl ?_
        refine g_iret dX10_kinOf_119 rfl ?_
        refine ⟨?_, hF⟩
        obtain ⟨y2, hk2⟩ := kinC_BS w (bl D) a b
        rw [bl_all hw] at hk2
        rw [bl_all hw]
        have hmo := BS.mono (T := fun _ _ => True) hBS (fun _ _ _ => trivial) (fun u1 e1 q1 q2 _ q3 => ?_)
        · rw [BS.uniq hk2 hmo]
        · exfalso; omega
      · exfalso; omega
    | succ n ih =>
      intro u hu z y x8 x9 hBS hy
      have hitu := hitb u
      have inner : ∀ m e : Nat, e + m = 11 → ∀ z y : Int, BS (itN w (brs D (nR D)) (2 ^ w a)) (itN w (brs D (nR D)) (2 ^ w b)) (fun u1 e1 => u1 < u ∨ (u1 = u ∧ e1 < e)) z y → (y = 1000 ∨ y ≤ 20 ∧ 0 ≤ y) → G wdM mX10_kinOf (d + 2) (fun v M' => v = some (vi (kinC w (bl D) a b)) ∧ ∀ p, p ≠ 21 → p ≠ 22 → M'.1 p = M.1 p ∧ M'.2 p = M.2 p) 40 [some (vr 0), some (vi k), some (vi (w a : Nat)), some (vi (w b : Nat)), some (vi z), some (vi y), some (vi (itN w (brs D (nR D)) (2 ^ w a) u : Nat)), some (vi u), some (vi (dnI (paR D w 1 (nR D)) (paR D w 2 (nR D)) (itN w (brs D (nR D)) (2 ^ w a) u) e : Nat)), some (vi e)] [] M2 := by
        intro m
        induction m with
        | zero =>
          intro e he z y hBS hy
          have hdb := dnI_b (paR D w 1 (nR D)) (paR D w 2 (nR D)) hitu e
          refine g_iload dX10_kinOf_40 rfl ?_
          refine g_bipush dX10_kinOf_42 rfl ?_
          refine g_icmp_gt (tgt := 103) dX10_kinOf_44 rfl (fun h44 => ?_) (fun h44 => ?_)
          · refine g_aload_n dX10_kinOf_103 rfl rfl ?_
            refine g_iload dX10_kinOf_104 rfl ?_
            refine g_callVr dX10_kinOf_106 lX10_254 (w_X10_up hitu hm21 hm22) rfl rfl rfl rfl (Nat.le_of_ble_eq_true rfl) ?_
            rw [hupp]
            refine g_istore (ls' := [some _, some _, some _, some _, some _, some _, some _, some _, some _, some _]) dX10_kinOf_109 (by decide) rfl ?_
            refine g_iinc (ls' := [some _, some _, some _, some _, some _, some _, some _, some _, some _, some _]) dX10_kinOf_111 rfl rfl ?_
            refine g_goto (tgt := 21) dX10_kinOf_114 rfl ?_
            refine ih (u + 1) (by omega) z y _ _ (hBS.mono (fun u1 e1 h => by omega) (fun u1 e1 q1 q2 q3 q4 => ?_)) hy
            exfalso; omega
          · exfalso; omega
        | succ m ihm =>
          intro e he z y hBS hy
          have hdb := dnI_b (paR D w 1 (nR D)) (paR D w 2 (nR D)) hitu e
          have hbe := hdu u e
          have hst := hBS.step (T := fun u1 e1 => u1 < u ∨ (u1 = u ∧ e1 < e + 1)) (u := u) (d := e) (by omega) (by omega) (fun u1 e1 => by omega) (fun u1 e1 h => by omega)
          refine g_iload dX10_kinOf_40 rfl ?_
          refine g_bipush dX10_kinOf_42 rfl ?_
          refine g_icmp_gt (tgt := 103) dX10_kinOf_44 rfl (fun h44 => ?_) (fun h44 => ?_)
          · exfalso; omega
          · refine g_iload dX10_kinOf_47 rfl ?_
            refine g_if_eq (tgt := 103) dX10_kinOf_49 rfl (fun h49 => ?_) (fun h49 => ?_)
            · refine g_aload_n dX10_kinOf_103 rfl rfl ?_
              refine g_iload dX10_kinOf_104 rfl ?_
              refine g_callVr dX10_kinOf_106 lX10_254 (w_X10_up hitu hm21 hm22) rfl rfl rfl rfl (Nat.le_of_ble_eq_true rfl) ?_
              rw [hupp]
              refine g_istore (ls' := [some _, some _, some _, some _, some _, some _, some _, some _, some _, some _]) dX10_kinOf_109 (by decide) rfl ?_
              refine g_iinc (ls' := [some _, some _, some _, some _, some _, some _, some _, some _, some _, some _]) dX10_kinOf_111 rfl rfl ?_
              refine g_goto (tgt := 21) dX10_kinOf_114 rfl ?_
              refine ih (u + 1) (by omega) z y _ _ (hBS.mono (fun u1 e1 h => by omega) (fun u1 e1 q1 q2 q3 q4 => ?_)) hy
              have hz : dnI (paR D w 1 (nR D)) (paR D w 2 (nR D)) (itN w (brs D (nR D)) (2 ^ w a) u) e = 0 := by omega
              have hue : u1 = u ∧ e ≤ e1 := by omega
              obtain ⟨rfl, hee⟩ := hue
              have h0 := dnI_0 _ _ hz (e1 - e)
              rw [show e + (e1 - e) = e1 by omega] at h0
              refine Classical.byContradiction (fun hn => ?_)
              have := (hdu u1 e1).mpr hn
              rw [h0, Nat.zero_testBit] at this
              cases this
            · refine g_iload dX10_kinOf_52 rfl ?_
              refine g_iload_n dX10_kinOf_54 rfl rfl ?_
              refine g_ishr dX10_kinOf_55 ?_
              refine g_iconst dX10_kinOf_56 ?_
              try simp only [Int.toNat_natCast]
              refine g_iand dX10_kinOf_57 ?_
              rw [bit_1 (by omega) (by omega)]
              refine g_iconst dX10_kinOf_58 ?_
              refine g_icmp_ne (tgt := 89) dX10_kinOf_59 rfl (fun h59 => ?_) (fun h59 => ?_)
              · refine g_aload_n dX10_kinOf_89 rfl rfl ?_
                refine g_iload dX10_kinOf_90 rfl ?_
                refine g_callVr dX10_kinOf_92 lX10_251 (w_X10_down hdb hm21 hm22) rfl rfl rfl rfl (Nat.le_of_ble_eq_true rfl) ?_
                rw [hdn, dnI_s]
                refine g_istore (ls' := [some _, some _, some _, some _, some _, some _, some _, some _, some _, some _]) dX10_kinOf_95 (by decide) rfl ?_
                refine g_iinc (ls' := [some _, some _, some _, some _, some _, some _, some _, some _, some _, some _]) dX10_kinOf_97 rfl rfl ?_
                refine g_goto (tgt := 40) dX10_kinOf_100 rfl ?_
                first
                | (have htb : ¬ (dnI (paR D w 1 (nR D)) (paR D w 2 (nR D)) (itN w (brs D (nR D)) (2 ^ w a) u) e).testBit (w b) = true := fun q => by
                     rw [if_pos q] at h59; exact absurd rfl h59
                   exact ihm (e + 1) (by omega) _ _ (hst.2 (fun q => htb (hbe.mpr q.1))) hy)
                | (have htb : (dnI (paR D w 1 (nR D)) (paR D w 2 (nR D)) (itN w (brs D (nR D)) (2 ^ w a) u) e).testBit (w b) = true := by
                     refine Classical.byContradiction (fun q => ?_)
                     rw [if_neg q] at h59; exact absurd h59 (by decide)
                   first
                   | (refine ihm (e + 1) (by omega) _ _ (hst.1 ⟨hbe.mp htb, by omega⟩) (by omega))
                   | (refine ihm (e + 1) (by omega) _ _ (hst.2 (fun q => ?_)) hy
                      have := q.2
                      omega))
              · refine g_iload dX10_kinOf_62 rfl ?_
                refine g_iload dX10_kinOf_64 rfl ?_
                refine g_iadd dX10_kinOf_66 ?_
                refine g_iload dX10_kinOf_67 rfl ?_
                refine g_icmp_ge (tgt := 89) dX10_kinOf_69 rfl (fun h69 => ?_) (fun h69 => ?_)
                · refine g_aload_n dX10_kinOf_89 rfl rfl ?_
                  refine g_iload dX10_kinOf_90 rfl ?_
                  refine g_callVr dX10_kinOf_92 lX10_251 (w_X10_down hdb hm21 hm22) rfl rfl rfl rfl (Nat.le_of_ble_eq_true rfl) ?_
                  rw [hdn, dnI_s]
                  refine g_istore (ls' := [some _, some _, some _, some _, some _, some _, some _, some _, some _, some _]) dX10_kinOf_95 (by decide) rfl ?_
                  refine g_iinc (ls' := [some _, some _, some _, some _, some _, some _, some _, some _, some _, some _]) dX10_kinOf_97 rfl rfl ?_
                  refine g_goto (tgt := 40) dX10_kinOf_100 rfl ?_
                  first
                  | (have htb : ¬ (dnI (paR D w 1 (nR D)) (paR D w 2 (nR D)) (itN w (brs D (nR D)) (2 ^ w a) u) e).testBit (w b) = true := fun q => by
                       rw [if_pos q] at h59; exact absurd rfl h59
                     exact ihm (e + 1) (by omega) _ _ (hst.2 (fun q => htb (hbe.mpr q.1))) hy)
                  | (have htb : (dnI (paR D w 1 (nR D)) (paR D w 2 (nR D)) (itN w (brs D (nR D)) (2 ^ w a) u) e).testBit (w b) = true := by
                       refine Classical.byContradiction (fun q => ?_)
                       rw [if_neg q] at h59; exact absurd h59 (by decide)
                     first
                     | (refine ihm (e + 1) (by omega) _ _ (hst.1 ⟨hbe.mp htb, by omega⟩) (by omega))
                     | (refine ihm (e + 1) (by omega) _ _ (hst.2 (fun q => ?_)) hy
                        have := q.2
                        omega))
                · refine g_iload dX10_kinOf_72 rfl ?_
                  refine g_iload dX10_kinOf_74 rfl ?_
                  refine g_iadd dX10_kinOf_76 ?_
                  refine g_istore (ls' := [some _, some _, some _, some _, some _, some _, some _, some _, some _, some _]) dX10_kinOf_77 (by decide) rfl ?_
                  refine g_bipush dX10_kinOf_79 rfl ?_
                  refine g_iload dX10_kinOf_81 rfl ?_
                  refine g_imul dX10_kinOf_83 ?_
                  refine g_iload dX10_kinOf_84 rfl ?_
                  refine g_iadd dX10_kinOf_86 ?_
                  refine g_istore (ls' := [some _, some _, some _, some _, some _, some _, some _, some _, some _, some _]) dX10_kinOf_87 (by decide) rfl ?_
                  refine g_aload_n dX10_kinOf_89 rfl rfl ?_
                  refine g_iload dX10_kinOf_90 rfl ?_
                  refine g_callVr dX10_kinOf_92 lX10_251 (w_X10_down hdb hm21 hm22) rfl rfl rfl rfl (Nat.le_of_ble_eq_true rfl) ?_
                  rw [hdn, dnI_s]
                  refine g_istore (ls' := [some _, some _, some _, some _, some _, some _, some _, some _, some _, some _]) dX10_kinOf_95 (by decide) rfl ?_
                  refine g_iinc (ls' := [some _, some _, some _, some _, some _, some _, some _, some _, some _, some _]) dX10_kinOf_97 rfl rfl ?_
                  refine g_goto (tgt := 40) dX10_kinOf_100 rfl ?_
                  first
                  | (have htb : ¬ (dnI (paR D w 1 (nR D)) (paR D w 2 (nR D)) (itN w (brs D (nR D)) (2 ^ w a) u) e).testBit (w b) = true := fun q => by
                       rw [if_pos q] at h59; exact absurd rfl h59
                     exact ihm (e + 1) (by omega) _ _ (hst.2 (fun q => htb (hbe.mpr q.1))) hy)
                  | (have htb : (dnI (paR D w 1 (nR D)) (paR D w 2 (nR D)) (itN w (brs D (nR D)) (2 ^ w a) u) e).testBit (w b) = true := by
                       refine Classical.byContradiction (fun q => ?_)
                       rw [if_neg q] at h59; exact absurd h59 (by decide)
                     first
                     | (refine ihm (e + 1) (by omega) _ _ (hst.1 ⟨hbe.mp htb, by omega⟩) (by omega))
                     | (refine ihm (e + 1) (by omega) _ _ (hst.2 (fun q => ?_)) hy
                        have := q.2
                        omega))
      refine g_iload dX10_kinOf_21 rfl ?_
      refine g_bipush dX10_kinOf_23 rfl ?_
      refine g_icmp_gt (tgt := 117) dX10_kinOf_25 rfl (fun h25 => ?_) (fun h25 => ?_)
      · exfalso; omega
      · refine g_iload dX10_kinOf_28 rfl ?_
        refine g_if_eq (tgt := 117) dX10_kinOf_30 rfl (fun h30 => ?_) (fun h30 => ?_)
        · refine g_iload dX10_kinOf_117 rfl ?_
          refine g_iret dX10_kinOf_119 rfl ?_
          refine ⟨?_, hF⟩
          obtain ⟨y2, hk2⟩ := kinC_BS w (bl D) a b
          rw [bl_all hw] at hk2
          rw [bl_all hw]
          have hmo := BS.mono (T := fun _ _ => True) hBS (fun _ _ _ => trivial) (fun u1 e1 q1 q2 _ q3 => ?_)
          · rw [BS.uniq hk2 hmo]
          · have hz : itN w (brs D (nR D)) (2 ^ w a) u = 0 := by omega
            have h0 := itN_0 hz (u1 - u)
            rw [show u + (u1 - u) = u1 by omega] at h0
            rw [h0, Nat.zero_and]
        · refine g_iload dX10_kinOf_33 rfl ?_
          refine g_istore (ls' := [some _, some _, some _, some _, some _, some _, some _, some _, some _, _]) dX10_kinOf_35 (by decide) rfl ?_
          refine g_iconst dX10_kinOf_37 ?_
          refine g_istore (ls' := [some _, some _, some _, some _, some _, some _, some _, some _, some _, some _]) dX10_kinOf_38 (by decide) rfl ?_
          exact inner 11 0 (by omega) z y (hBS.mono (fun u1 e1 h => Or.inl h) (fun u1 e1 q1 q2 q3 q4 => by exfalso; omega)) hy
  refine g_aload_n dX10_kinOf_0 rfl rfl ?_
  refine g_iload_n dX10_kinOf_1 rfl rfl ?_
  refine g_callV dX10_kinOf_2 lX10_248 (w_X10_parents (D := D) (w := w) hk hw hr hkd hways h14) rfl rfl rfl rfl (Nat.le_of_ble_eq_true rfl) ?_
  rintro v M2 ⟨rfl, hF, hpp⟩
  show G _ _ _ _ _ _ [] M2
  refine g_iconst dX10_kinOf_5 ?_
  refine g_istore (ls' := [some _, some _, some _, some _, some _, _, _, _, _, _]) dX10_kinOf_6 (by decide) rfl ?_
  refine g_sipush dX10_kinOf_8 rfl ?_
  refine g_istore (ls' := [some _, some _, some _, some _, some _, some _, _, _, _, _]) dX10_kinOf_11 (by decide) rfl ?_
  refine g_iconst dX10_kinOf_13 ?_
  refine g_iload_n dX10_kinOf_14 rfl rfl ?_
  refine g_ishl dX10_kinOf_15 ?_
  rw [shl_1 (by omega)]
  refine g_istore (ls' := [some _, some _, some _, some _, some _, some _, some _, _, _, _]) dX10_kinOf_16 (by decide) rfl ?_
  refine g_iconst dX10_kinOf_18 ?_
  refine g_istore (ls' := [some _, some _, some _, some _, some _, some _, some _, some _, _, _]) dX10_kinOf_19 (by decide) rfl ?_
  exact main M2 hF hpp 11 0 (by omega) _ _ _ _ (Or.inl ⟨rfl, rfl, fun u1 e1 _ _ h => absurd h (by omega)⟩) (Or.inl rfl)

