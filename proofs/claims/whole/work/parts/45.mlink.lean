/-! MODULE 41: link, first, about (reference). -/
theorem w_X10_link {d : Nat} {D M : Mem} {a c : Nat} (ha : (a : Int) < D.1 1 11) (hc : (c : Int) < D.1 1 11) (hr : ReadyM D M) : WP wdM (d + 6) mX10_link [vr 0, vi a, vi c] M (fun v M' => v = some (vi (linkS D a c)) ∧ AskM D M M') := by
  refine wp_of (by decide +kernel) (Nat.le_of_ble_eq_true rfl) ?_
  obtain ⟨hw, hD, hs⟩ := id hr
  obtain ⟨hR0, hR8, hN0, hN14⟩ := id (hD.bd hw)
  have hRo : M.1 0 13 = D.1 1 11 := hD.1.2.1
  have hDN := hw.1.2.2.2
  refine g_aload_n dX10_link_0 rfl rfl ?_
  refine g_iload_n dX10_link_1 rfl rfl ?_
  refine g_iload_n dX10_link_2 rfl rfl ?_
  refine g_callVr dX10_link_3 lX10_229 (w_X10_isLink (by omega) (by omega) (by omega) (by omega) ⟨hR0, hR8, hN0, hN14⟩) rfl rfl rfl rfl (Nat.le_of_ble_eq_true rfl) ?_
  refine g_if_eqB (tgt := 17) dX10_link_6 rfl (fun h6 => ?_) (fun h6 => ?_)
  · exfalso; omega
  · refine g_aload_n dX10_link_9 rfl rfl ?_
    refine g_iconst dX10_link_10 ?_
    refine g_callV dX10_link_11 lX10_223 (w_X10_isWay (d := d) (by omega) (by omega) hr) rfl rfl rfl rfl (Nat.le_of_ble_eq_true rfl) ?_
    rintro v M2 ⟨rfl, hA⟩
    show G _ _ _ _ _ _ [_] M2
    obtain ⟨q1, q2, q3, q4⟩ := id hA.2.2
    refine g_if_neB (tgt := 19) dX10_link_14 rfl (fun h14 => ?_) (fun h14 => ?_)
    · refine g_iconst dX10_link_19 ?_
      refine g_istore_n (ls' := [some _, some _, some _, some _, _]) dX10_link_20 rfl (by decide) rfl ?_
      refine g_iconst dX10_link_21 ?_
      refine g_istore (ls' := [some _, some _, some _, some _, some _]) dX10_link_22 (by decide) rfl ?_
      have hp : (RR D).2.2 = false ∧ 0 < (RR D).2.1.length := ⟨h14.1, by have := h14.2.2; omega⟩
      have hwm : M2.1 0 37 = (RR D).2.1.length := by
        rcases q1 with ⟨e1, e2, e3⟩ | ⟨e1, e2, e3⟩
        · rw [hp.1] at e1; cases e1
        · exact e2
      have loop : ∀ n k : Nat, k + n = (RR D).2.1.length → G wdM mX10_link (d + 6) (fun v M' => v = some (vi (linkS D a c)) ∧ AskM D M M') 24 [some (vr 0), some (vi a), some (vi c), some (vi (cntL D a c k)), some (vi k)] [] M2 := by
        intro n
        induction n with
        | zero =>
          intro k hk
          have hk : k = (RR D).2.1.length := by omega
          subst hk
          have hcl := cntL_le D a c (RR D).2.1.length
          refine g_iload dX10_link_24 rfl ?_
          refine g_aload_n dX10_link_26 rfl rfl ?_
          refine g_get dX10_link_27 fX10_211 rfl rfl ?_
          rw [hwm]
          refine g_icmp_ge (tgt := 64) dX10_link_30 rfl (fun h30 => ?_) (fun h30 => ?_)
          · refine g_iload_n dX10_link_64 rfl rfl ?_
            refine g_if_ne (tgt := 72) dX10_link_65 rfl (fun h65 => ?_) (fun h65 => ?_)
            · refine g_iload_n dX10_link_72 rfl rfl ?_
              refine g_aload_n dX10_link_73 rfl rfl ?_
              refine g_get dX10_link_74 fX10_211 rfl rfl ?_
              rw [hwm]
              refine g_icmp_ne (tgt := 84) dX10_link_77 rfl (fun h77 => ?_) (fun h77 => ?_)
              · refine g_iconst dX10_link_84 ?_
                refine g_iret dX10_link_85 rfl ?_
                refine ⟨?_, hA⟩
                rw [link_iff hp rfl]
                first
                | (rw [if_pos (by omega)]; done)
                | (rw [if_neg (by omega), if_pos (by omega)]; done)
                | (rw [if_neg (by omega), if_neg (by omega)]; done)
              · refine g_iconst dX10_link_80 ?_
                refine g_goto (tgt := 85) dX10_link_81 rfl ?_
                refine g_iret dX10_link_85 rfl ?_
                refine ⟨?_, hA⟩
                rw [link_iff hp rfl]
                first
                | (rw [if_pos (by omega)]; done)
                | (rw [if_neg (by omega), if_pos (by omega)]; done)
                | (rw [if_neg (by omega), if_neg (by omega)]; done)
            · refine g_iconst dX10_link_68 ?_
              refine g_goto (tgt := 85) dX10_link_69 rfl ?_
              refine g_iret dX10_link_85 rfl ?_
              refine ⟨?_, hA⟩
              rw [link_iff hp rfl]
              first
              | (rw [if_pos (by omega)]; done)
              | (rw [if_neg (by omega), if_pos (by omega)]; done)
              | (rw [if_neg (by omega), if_neg (by omega)]; done)
          · exfalso; omega
        | succ n ih =>
          intro k hkn
          have hk : k < (RR D).2.1.length := by omega
          have hcl := cntL_le D a c k
          have hpa := per_b (q4 k hk).2.2 a
          have hpc := per_b (q4 k hk).2.2 c
          refine g_iload dX10_link_24 rfl ?_
          refine g_aload_n dX10_link_26 rfl rfl ?_
          refine g_get dX10_link_27 fX10_211 rfl rfl ?_
          rw [hwm]
          refine g_icmp_ge (tgt := 64) dX10_link_30 rfl (fun h30 => ?_) (fun h30 => ?_)
          · exfalso; omega
          · refine g_iload_n dX10_link_33 rfl rfl ?_
            refine g_aload_n dX10_link_34 rfl rfl ?_
            refine g_iload dX10_link_35 rfl ?_
            refine g_iload_n dX10_link_37 rfl rfl ?_
            refine g_callVr dX10_link_38 lX10_226 (w_X10_at (M := M2) (w := k) (r := a) (by omega) (by omega)) rfl rfl rfl rfl (Nat.le_of_ble_eq_true rfl) ?_
            rw [(q4 k hk).1 a ha]
            refine g_aload_n dX10_link_41 rfl rfl ?_
            refine g_iload dX10_link_42 rfl ?_
            refine g_iload_n dX10_link_44 rfl rfl ?_
            refine g_callVr dX10_link_45 lX10_226 (w_X10_at (M := M2) (w := k) (r := c) (by omega) (by omega)) rfl rfl rfl rfl (Nat.le_of_ble_eq_true rfl) ?_
            rw [(q4 k hk).1 c hc]
            refine g_icmp_ne (tgt := 55) dX10_link_48 rfl (fun h48 => ?_) (fun h48 => ?_)
            · refine g_iconst dX10_link_55 ?_
              refine g_iadd dX10_link_56 ?_
              refine g_istore_n (ls' := [some _, some _, some _, some _, some _]) dX10_link_57 rfl (by decide) rfl ?_
              refine g_iinc (ls' := [some _, some _, some _, some _, some _]) dX10_link_58 rfl rfl ?_
              refine g_goto (tgt := 24) dX10_link_61 rfl ?_
              have e := cntL_s D a c k
              first
              | (rw [if_pos (by omega)] at e
                 have := ih (k + 1) (by omega)
                 rw [e] at this
                 exact this)
              | (rw [if_neg (by omega)] at e
                 have := ih (k + 1) (by omega)
                 rw [e] at this
                 exact this)
            · refine g_iconst dX10_link_51 ?_
              refine g_goto (tgt := 56) dX10_link_52 rfl ?_
              refine g_iadd dX10_link_56 ?_
              refine g_istore_n (ls' := [some _, some _, some _, some _, some _]) dX10_link_57 rfl (by decide) rfl ?_
              refine g_iinc (ls' := [some _, some _, some _, some _, some _]) dX10_link_58 rfl rfl ?_
              refine g_goto (tgt := 24) dX10_link_61 rfl ?_
              have e := cntL_s D a c k
              first
              | (rw [if_pos (by omega)] at e
                 have := ih (k + 1) (by omega)
                 rw [e] at this
                 exact this)
              | (rw [if_neg (by omega)] at e
                 have := ih (k + 1) (by omega)
                 rw [e] at this
                 exact this)
      exact loop (RR D).2.1.length 0 (by omega)
    · refine g_iconst dX10_link_17 ?_
      refine g_iret dX10_link_18 rfl ?_
      exact ⟨by unfold linkS; rw [if_neg (fun z => h14 ⟨z.1, by omega, by have := z.2; omega⟩)], hA⟩

theorem w_X10_first {d : Nat} {D M : Mem} {a c : Nat} (ha : (a : Int) < D.1 1 11) (hc : (c : Int) < D.1 1 11) {z : Int} (hz : z = 0 ∨ z = 1) (hr : ReadyM D M) : WP wdM (d + 6) mX10_first [vr 0, vi a, vi c, vi z] M (fun v M' => v = some (vi (firstS D a c z)) ∧ AskM D M M') := by
  refine wp_of (by decide +kernel) (Nat.le_of_ble_eq_true rfl) ?_
  obtain ⟨hw, hD, hs⟩ := id hr
  obtain ⟨hR0, hR8, hN0, hN14⟩ := id (hD.bd hw)
  have hRo : M.1 0 13 = D.1 1 11 := hD.1.2.1
  have hDN := hw.1.2.2.2
  refine g_aload_n dX10_first_0 rfl rfl ?_
  refine g_iload_n dX10_first_1 rfl rfl ?_
  refine g_iload_n dX10_first_2 rfl rfl ?_
  refine g_callVr dX10_first_3 lX10_229 (w_X10_isLink (by omega) (by omega) (by omega) (by omega) ⟨hR0, hR8, hN0, hN14⟩) rfl rfl rfl rfl (Nat.le_of_ble_eq_true rfl) ?_
  refine g_if_eqB (tgt := 17) dX10_first_6 rfl (fun h6 => ?_) (fun h6 => ?_)
  · exfalso; omega
  · refine g_aload_n dX10_first_9 rfl rfl ?_
    refine g_iconst dX10_first_10 ?_
    refine g_callV dX10_first_11 lX10_223 (w_X10_isWay (d := d) (by omega) (by omega) hr) rfl rfl rfl rfl (Nat.le_of_ble_eq_true rfl) ?_
    rintro v M2 ⟨rfl, hA⟩
    show G _ _ _ _ _ _ [_] M2
    obtain ⟨q1, q2, q3, q4⟩ := id hA.2.2
    refine g_if_neB (tgt := 19) dX10_first_14 rfl (fun h14 => ?_) (fun h14 => ?_)
    · refine g_iconst dX10_first_19 ?_
      refine g_istore (ls' := [some _, some _, some _, some _, some _]) dX10_first_20 (by decide) rfl ?_
      have hp : (RR D).2.2 = false ∧ 0 < (RR D).2.1.length := ⟨h14.1, by have := h14.2.2; omega⟩
      have hwm : M2.1 0 37 = (RR D).2.1.length := by
        rcases q1 with ⟨e1, e2, e3⟩ | ⟨e1, e2, e3⟩
        · rw [hp.1] at e1; cases e1
        · exact e2
      have loop : ∀ n k : Nat, k + n = (RR D).2.1.length → firstB (fstD D a c z) n k = firstB (fstD D a c z) (RR D).2.1.length 0 → G wdM mX10_first (d + 6) (fun v M' => v = some (vi (firstS D a c z)) ∧ AskM D M M') 22 [some (vr 0), some (vi a), some (vi c), some (vi z), some (vi k)] [] M2 := by
        intro n
        induction n with
        | zero =>
          intro k hk hfb
          refine g_iload dX10_first_22 rfl ?_
          refine g_aload_n dX10_first_24 rfl rfl ?_
          refine g_get dX10_first_25 fX10_211 rfl rfl ?_
          rw [hwm]
          refine g_icmp_ge (tgt := 66) dX10_first_28 rfl (fun h28 => ?_) (fun h28 => ?_)
          · refine g_iconst dX10_first_66 ?_
            refine g_iret dX10_first_67 rfl ?_
            refine ⟨?_, hA⟩
            unfold firstS
            rw [if_pos hp, ← hfb]
            rfl
          · exfalso; omega
        | succ n ih =>
          intro k hkn hfb
          have hk : k < (RR D).2.1.length := by omega
          have hpa := per_b (q4 k hk).2.2 a
          have hpc := per_b (q4 k hk).2.2 c
          refine g_iload dX10_first_22 rfl ?_
          refine g_aload_n dX10_first_24 rfl rfl ?_
          refine g_get dX10_first_25 fX10_211 rfl rfl ?_
          rw [hwm]
          refine g_icmp_ge (tgt := 66) dX10_first_28 rfl (fun h28 => ?_) (fun h28 => ?_)
          · exfalso; omega
          · refine g_aload_n dX10_first_31 rfl rfl ?_
            refine g_iload dX10_first_32 rfl ?_
            refine g_iload_n dX10_first_34 rfl rfl ?_
            refine g_callVr dX10_first_35 lX10_226 (w_X10_at (M := M2) (w := k) (r := a) (by omega) (by omega)) rfl rfl rfl rfl (Nat.le_of_ble_eq_true rfl) ?_
            rw [(q4 k hk).1 a ha]
            refine g_aload_n dX10_first_38 rfl rfl ?_
            refine g_iload dX10_first_39 rfl ?_
            refine g_iload_n dX10_first_41 rfl rfl ?_
            refine g_callVr dX10_first_42 lX10_226 (w_X10_at (M := M2) (w := k) (r := c) (by omega) (by omega)) rfl rfl rfl rfl (Nat.le_of_ble_eq_true rfl) ?_
            rw [(q4 k hk).1 c hc]
            refine g_icmp_ne (tgt := 52) dX10_first_45 rfl (fun h45 => ?_) (fun h45 => ?_)
            · refine g_iconst dX10_first_52 ?_
              refine g_iload_n dX10_first_53 rfl rfl ?_
              refine g_icmp_ne (tgt := 60) dX10_first_54 rfl (fun h54 => ?_) (fun h54 => ?_)
              · refine g_iinc (ls' := [some _, some _, some _, some _, some _]) dX10_first_60 rfl rfl ?_
                refine g_goto (tgt := 22) dX10_first_63 rfl ?_
                have e : ¬ fstD D a c z k = true := by
                  unfold fstD
                  rw [decide_eq_true_iff]
                  omega
                refine ih (k + 1) (by omega) ?_
                rw [← hfb]
                show _ = firstB (fstD D a c z) (n + 1) k
                rw [firstB, if_neg e]
              · refine g_iload dX10_first_57 rfl ?_
                refine g_iret dX10_first_59 rfl ?_
                refine ⟨?_, hA⟩
                unfold firstS
                have e : fstD D a c z k = true := by
                  unfold fstD
                  rw [decide_eq_true_iff]
                  omega
                rw [if_pos hp, ← hfb]
                unfold firstB
                rw [if_pos e]
            · refine g_iconst dX10_first_48 ?_
              refine g_goto (tgt := 53) dX10_first_49 rfl ?_
              refine g_iload_n dX10_first_53 rfl rfl ?_
              refine g_icmp_ne (tgt := 60) dX10_first_54 rfl (fun h54 => ?_) (fun h54 => ?_)
              · refine g_iinc (ls' := [some _, some _, some _, some _, some _]) dX10_first_60 rfl rfl ?_
                refine g_goto (tgt := 22) dX10_first_63 rfl ?_
                have e : ¬ fstD D a c z k = true := by
                  unfold fstD
                  rw [decide_eq_true_iff]
                  omega
                refine ih (k + 1) (by omega) ?_
                rw [← hfb]
                show _ = firstB (fstD D a c z) (n + 1) k
                rw [firstB, if_neg e]
              · refine g_iload dX10_first_57 rfl ?_
                refine g_iret dX10_first_59 rfl ?_
                refine ⟨?_, hA⟩
                unfold firstS
                have e : fstD D a c z k = true := by
                  unfold fstD
                  rw [decide_eq_true_iff]
                  omega
                rw [if_pos hp, ← hfb]
                unfold firstB
                rw [if_pos e]
      exact loop (RR D).2.1.length 0 (by omega) rfl
    · refine g_iconst dX10_first_17 ?_
      refine g_iret dX10_first_18 rfl ?_
      exact ⟨by unfold firstS; rw [if_neg (fun z => h14 ⟨z.1, by omega, by have := z.2; omega⟩)], hA⟩

theorem v_X10_person {d : Nat} {D M : Mem} {k r : Int} (k1 : -2147483648 ≤ k) (k2 : k < 2147483648) (r1 : -2147483648 ≤ r) (r2 : r < 2147483648) (hr : ReadyM D M) (hn : ¬ (0 ≤ r ∧ r < M.1 0 13)) : WP wdM (d + 6) mX10_person [vr 0, vi k, vi r] M (Ret (some (vi (-1))) M) := by
  refine wp_of (by decide +kernel) (Nat.le_of_ble_eq_true rfl) ?_
  obtain ⟨hw, hD, hs⟩ := id hr
  obtain ⟨hR0, hR8, hN0, hN14⟩ := id (hD.bd hw)
  have hRo : M.1 0 13 = D.1 1 11 := hD.1.2.1
  have hDN := hw.1.2.2.2
  refine g_aload_n dX10_person_0 rfl rfl ?_
  refine g_iload_n dX10_person_1 rfl rfl ?_
  refine g_callVr dX10_person_2 lX10_153 (w_X10_isRole (by omega) (by omega) hR0 hR8 hN0 hN14) rfl rfl rfl rfl (Nat.le_of_ble_eq_true rfl) ?_
  refine g_if_eqB (tgt := 16) dX10_person_5 rfl (fun h5 => ?_) (fun h5 => ?_)
  · refine g_iconst dX10_person_16 ?_
    refine g_goto (tgt := 26) dX10_person_17 rfl ?_
    refine g_iret dX10_person_26 rfl ?_
    exact ⟨rfl, rfl⟩
  · exfalso; exact hn h5

theorem v_X10_link {d : Nat} {D M : Mem} {a c : Int} (a1 : -2147483648 ≤ a) (a2 : a < 2147483648) (c1 : -2147483648 ≤ c) (c2 : c < 2147483648) (hr : ReadyM D M) (hn : ¬ ((0 ≤ a ∧ a < M.1 0 13) ∧ (0 ≤ c ∧ c < M.1 0 13))) : WP wdM (d + 6) mX10_link [vr 0, vi a, vi c] M (Ret (some (vi (-1))) M) := by
  refine wp_of (by decide +kernel) (Nat.le_of_ble_eq_true rfl) ?_
  obtain ⟨hw, hD, hs⟩ := id hr
  obtain ⟨hR0, hR8, hN0, hN14⟩ := id (hD.bd hw)
  have hRo : M.1 0 13 = D.1 1 11 := hD.1.2.1
  have hDN := hw.1.2.2.2
  refine g_aload_n dX10_link_0 rfl rfl ?_
  refine g_iload_n dX10_link_1 rfl rfl ?_
  refine g_iload_n dX10_link_2 rfl rfl ?_
  refine g_callVr dX10_link_3 lX10_229 (w_X10_isLink (by omega) (by omega) (by omega) (by omega) ⟨hR0, hR8, hN0, hN14⟩) rfl rfl rfl rfl (Nat.le_of_ble_eq_true rfl) ?_
  refine g_if_eqB (tgt := 17) dX10_link_6 rfl (fun h6 => ?_) (fun h6 => ?_)
  · refine g_iconst dX10_link_17 ?_
    refine g_iret dX10_link_18 rfl ?_
    exact ⟨rfl, rfl⟩
  · exfalso; exact hn h6

theorem v_X10_first {d : Nat} {D M : Mem} {a c z : Int} (hz : z = 0 ∨ z = 1) (a1 : -2147483648 ≤ a) (a2 : a < 2147483648) (c1 : -2147483648 ≤ c) (c2 : c < 2147483648) (hr : ReadyM D M) (hn : ¬ ((0 ≤ a ∧ a < M.1 0 13) ∧ (0 ≤ c ∧ c < M.1 0 13))) : WP wdM (d + 6) mX10_first [vr 0, vi a, vi c, vi z] M (Ret (some (vi (-1))) M) := by
  refine wp_of (by decide +kernel) (Nat.le_of_ble_eq_true rfl) ?_
  obtain ⟨hw, hD, hs⟩ := id hr
  obtain ⟨hR0, hR8, hN0, hN14⟩ := id (hD.bd hw)
  have hRo : M.1 0 13 = D.1 1 11 := hD.1.2.1
  have hDN := hw.1.2.2.2
  refine g_aload_n dX10_first_0 rfl rfl ?_
  refine g_iload_n dX10_first_1 rfl rfl ?_
  refine g_iload_n dX10_first_2 rfl rfl ?_
  refine g_callVr dX10_first_3 lX10_229 (w_X10_isLink (by omega) (by omega) (by omega) (by omega) ⟨hR0, hR8, hN0, hN14⟩) rfl rfl rfl rfl (Nat.le_of_ble_eq_true rfl) ?_
  refine g_if_eqB (tgt := 17) dX10_first_6 rfl (fun h6 => ?_) (fun h6 => ?_)
  · refine g_iconst dX10_first_17 ?_
    refine g_iret dX10_first_18 rfl ?_
    exact ⟨rfl, rfl⟩
  · exfalso; exact hn h6

