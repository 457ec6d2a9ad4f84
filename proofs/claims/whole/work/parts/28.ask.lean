/-! MODULE 24: the class's own methods that ask. -/
def RR (D : Mem) : Res := seekP D (ordOf D (allS D))
def SoughtD (D M : Mem) : Prop := TabD D M ∧ KinOK D M ∧ (∀ s, SetOK D M s) ∧ RInv 24 3000 (ordOf D (allS D)) M (RR D)
def Ask (D M' : Mem) : Prop := Dat D M' ∧ M'.1 0 7 = 1 ∧ SoughtD D M'
def Ready (D M : Mem) : Prop := Wf D ∧ Dat D M ∧ (M.1 0 7 = 0 ∨ (M.1 0 7 = 1 ∧ SoughtD D M))
abbrev haveP (D : Mem) : Prop := (RR D).2.2 = false ∧ 0 < (RR D).2.1.length
abbrev isWayP (D : Mem) (k : Int) : Prop := (RR D).2.2 = false ∧ 0 ≤ k ∧ k < (RR D).2.1.length
def wy (D : Mem) (k : Nat) : Asg := ((RR D).2.1.getD k ([], 0)).1
theorem bl_dat {D M : Mem} (h : Dat D M) : bl M = bl D := by
  unfold bl brs nR
  rw [(h 1 (by decide) (by decide)).1]
  have e : ∀ r, decide (isB M r) = decide (isB D r) := fun r => by
    unfold isB
    rw [(h 4 (by decide) (by decide)).1, (h 3 (by decide) (by decide)).1, (h 6 (by decide) (by decide)).1, (h 2 (by decide) (by decide)).1]
  have e2 : (fun r => decide (isB M r)) = (fun r => decide (isB D r)) := funext e
  rw [e2, (h 2 (by decide) (by decide)).1]
theorem TabD_of {D M : Mem} (h : Dat D M) (hT : Tab M) : TabD D M := by
  obtain ⟨h1, h2, h3⟩ := hT
  refine ⟨fun o ho => ?_, by rw [h2, (h 12 (by decide) (by decide)).1], by rw [h3, (h 12 (by decide) (by decide)).1]⟩
  obtain ⟨a1, a2, a3, a4, a5, a6, a7⟩ := h1 o (by rw [(h 1 (by decide) (by decide)).1]; exact ho)
  have e := fun p => F_dat h o p
  exact ⟨by rw [a1, (e 0).1], by rw [a2, (e 0).2.1], by rw [a3, (e 0).2.2.1], by rw [a4, (e 0).2.2.2.1], by rw [a5, (e 0).2.2.2.2.1], by rw [a6, (e 0).2.2.2.2.2.1], fun p hp => by rw [a7 p hp, (e p).2.2.2.2.2.2]⟩
theorem allS_dat {D M : Mem} (h : Dat D M) : allS M = allS D := by unfold allS nR; rw [(h 1 (by decide) (by decide)).1]
theorem RR_dat {D M : Mem} (h : Dat D M) : RR M = RR D := by unfold RR; rw [allS_dat h, seekP_dat h]
theorem closed_all {M : Mem} (hw : Wf M) : Closed M (allS M) := by
  intro i hi _ ho
  obtain ⟨h1, h2, -⟩ := (hw.2.2.2.1 i (by omega)).resolve_left ho
  unfold allS nR
  rw [Nat.testBit_two_pow_sub_one]
  exact decide_eq_true (by omega)
/-- the same, of the memory as it now is -/
theorem SoughtD.re {D M : Mem} (hD : Dat D M) (h : SoughtD D M) : SoughtD M M := by
  obtain ⟨h1, h2, h3, h4⟩ := h
  refine ⟨Tab_D hD h1, ?_, fun s => ?_, ?_⟩
  · unfold KinOK; rw [bl_dat hD]; exact h2
  · unfold SetOK; rw [seekP_dat hD, ordOf_dat hD]; exact h3 s
  · rw [RR_dat hD, allS_dat hD, ordOf_dat hD]; exact h4
theorem ordAll {D : Mem} (hw : Wf D) {o : Nat} (ho : (o : Int) < D.1 1 11) : o ∈ ordOf D (allS D) := by
  have := hw.2.2.1 o ho
  refine mem_ordOf.mpr ⟨by unfold nN; omega, ?_⟩
  unfold allS nR
  rw [Nat.testBit_two_pow_sub_one]
  exact decide_eq_true (by omega)
theorem w_X9_areRoles {d : Nat} {M : Mem} {a c : Int} (a1 : -2147483648 ≤ a) (a2 : a < 2147483648) (c1 : -2147483648 ≤ c) (c2 : c < 2147483648) (hB : WfB M) : WP wdC (d + 1) mX9_areRoles [vr 0, vi a, vi c] M (Ret (some (vi (bi ((0 ≤ a ∧ a < M.1 1 11) ∧ (0 ≤ c ∧ c < M.1 1 11))))) M) := by
  refine wp_of (by decide +kernel) (Nat.le_of_ble_eq_true rfl) ?_
  obtain ⟨hR0, hR8, hN0, hN14⟩ := hB
  refine g_aload_n dX9_areRoles_0 rfl rfl ?_
  refine g_getr dX9_areRoles_1 fX9_12 rfl rfl ?_
  refine g_iload_n dX9_areRoles_4 rfl rfl ?_
  refine g_callVr dX9_areRoles_5 lX9_150 (w_X0_hasRole (by omega) (by omega) hR0 hR8 hN0 hN14) rfl rfl rfl rfl (Nat.le_of_ble_eq_true rfl) ?_
  refine g_if_eqB (tgt := 26) dX9_areRoles_8 rfl (fun h8 => ?_) (fun h8 => ?_)
  · refine g_iconst dX9_areRoles_26 ?_
    refine g_zret dX9_areRoles_27 rfl ?_
    first | exact leafT ⟨h8, h19⟩ | exact leafF (fun z => by first | exact h19 z.2 | exact h8 z.1)
  · refine g_aload_n dX9_areRoles_11 rfl rfl ?_
    refine g_getr dX9_areRoles_12 fX9_12 rfl rfl ?_
    refine g_iload_n dX9_areRoles_15 rfl rfl ?_
    refine g_callVr dX9_areRoles_16 lX9_150 (w_X0_hasRole (by omega) (by omega) hR0 hR8 hN0 hN14) rfl rfl rfl rfl (Nat.le_of_ble_eq_true rfl) ?_
    refine g_if_eqB (tgt := 26) dX9_areRoles_19 rfl (fun h19 => ?_) (fun h19 => ?_)
    · refine g_iconst dX9_areRoles_26 ?_
      refine g_zret dX9_areRoles_27 rfl ?_
      first | exact leafT ⟨h8, h19⟩ | exact leafF (fun z => by first | exact h19 z.2 | exact h8 z.1)
    · refine g_iconst dX9_areRoles_22 ?_
      refine g_goto (tgt := 27) dX9_areRoles_23 rfl ?_
      refine g_zret dX9_areRoles_27 rfl ?_
      first | exact leafT ⟨h8, h19⟩ | exact leafF (fun z => by first | exact h19 z.2 | exact h8 z.1)

theorem w_X9_seekWays {d : Nat} {D M : Mem} (hr : Ready D M) : WP wdC (d + 20) mX9_seekWays [vr 0] M (fun v M' => v = none ∧ Ask D M') := by
  obtain ⟨hw, hD, hs⟩ := hr
  refine wp_of (by decide +kernel) (Nat.le_of_ble_eq_true rfl) ?_
  refine g_aload_n dX9_seekWays_0 rfl rfl ?_
  refine g_get dX9_seekWays_1 fX9_66 rfl rfl ?_
  have hs01 : M.1 0 7 = 0 ∨ M.1 0 7 = 1 := hs.imp id (fun h => h.1)
  refine g_if_eq (tgt := 8) dX9_seekWays_4 rfl (fun h4 => ?_) (fun h4 => ?_)
  · refine g_aload_n dX9_seekWays_8 rfl rfl ?_
    refine g_getr dX9_seekWays_9 fX9_35 rfl rfl ?_
    refine g_callV dX9_seekWays_12 lX9_250 (w_X8_prepare (d := d + 16) (hw.dat hD)) rfl rfl rfl rfl (Nat.le_of_ble_eq_true rfl) ?_
    rintro v M1 ⟨rfl, f1, f2⟩
    show G _ _ _ _ _ _ [] M1
    have hD1 : Dat D M1 := hD.tr (f1.dat (by decide))
    have hT1 := TabD_of hD1 f2
    refine g_aload_n dX9_seekWays_15 rfl rfl ?_
    refine g_getr dX9_seekWays_16 fX9_62 rfl rfl ?_
    refine g_callV dX9_seekWays_19 lX9_253 (w_X2_prepare (d := d + 16) (hw.dat hD1)) rfl rfl rfl rfl (Nat.le_of_ble_eq_true rfl) ?_
    rintro v M2 ⟨rfl, k1, k2⟩
    show G _ _ _ _ _ _ [] M2
    have hD2 : Dat D M2 := hD1.tr (k1.dat (by decide))
    unfold KinOK at k2
    rw [bl_dat hD1] at k2
    refine g_aload_n dX9_seekWays_22 rfl rfl ?_
    refine g_getr dX9_seekWays_23 fX9_53 rfl rfl ?_
    refine g_callV dX9_seekWays_26 lX9_254 (w_X7_forget (d := d + 18)) rfl rfl rfl rfl (Nat.le_of_ble_eq_true rfl) ?_
    rintro v M3 ⟨rfl, g1, g2⟩
    show G _ _ _ _ _ _ [] M3
    have hD3 : Dat D M3 := hD2.tr (g1.dat (by decide))
    have hT3 : TabD D M3 := (hT1.fr k1 (by decide)).fr g1 (by decide)
    have hB := hw.1
    unfold WfB at hB
    have hall := allS_lt hB.2.1
    refine g_aload_n dX9_seekWays_29 rfl rfl ?_
    refine g_getr dX9_seekWays_30 fX9_44 rfl rfl ?_
    refine g_aload_n dX9_seekWays_33 rfl rfl ?_
    refine g_getr dX9_seekWays_34 fX9_12 rfl rfl ?_
    refine g_callVr dX9_seekWays_37 lX9_257 (w_X0_allRecords) rfl rfl rfl rfl (Nat.le_of_ble_eq_true rfl) ?_
    have hsh : shl 1 (M3.1 1 10) - 1 = ((allS D : Nat) : Int) := by
      have hR1 : ((nR D : Nat) : Int) = D.1 1 10 := by unfold nR; omega
      have := Nat.two_pow_pos (nR D)
      rw [(hD3 1 (by decide) (by decide)).1, ← hR1, shl_1 (by omega)]
      unfold allS
      omega
    rw [hsh]
    refine g_callV dX9_seekWays_40 lX9_260 (w_seek_W (d := d + 1) (M := M3) (s := allS D) (hw.dat hD3) (Tab_D hD3 hT3) hall (ordOK_of (hw.dat hD3) (by rw [← allS_dat hD3]; exact closed_all (hw.dat hD3)))) rfl rfl rfl rfl (Nat.le_of_ble_eq_true rfl) ?_
    rintro v M4 ⟨rfl, e1, e2⟩
    show G _ _ _ _ _ _ [] M4
    refine g_aload_n dX9_seekWays_43 rfl rfl ?_
    refine g_iconst dX9_seekWays_44 ?_
    refine g_putz dX9_seekWays_45 fX9_66 rfl rfl rfl (tyX9_ok 7 (by decide)) ?_
    refine g_vret dX9_seekWays_48 rfl ?_
    rw [seekP_dat hD3, ordOf_dat hD3] at e2
    have hD4 : Dat D M4 := hD3.tr (e1.dat (by decide))
    refine ⟨rfl, fun p h1 h2 => ?_, rfl, ?_, ?_, fun s hs2 => Or.inl ?_, ?_⟩
    · rw [si_1 _ _ _ _ _ (by omega)]; exact hD4 p h1 h2
    · have hT4 := hT3.fr e1 (by decide)
      obtain ⟨t1, t2, t3⟩ := hT4
      refine ⟨fun o ho => ?_, t2, t3⟩
      exact t1 o ho
    · refine ⟨?_, fun i hi => ?_⟩
      · show M4.1 67 4 = _
        rw [(e1 67 (Or.inr (by decide))).1, (g1 67 (Or.inr (by decide))).1]; exact k2.1
      · show M4.1 68 i = _
        rw [(e1 68 (Or.inr (by decide))).1, (g1 68 (Or.inr (by decide))).1]; exact k2.2 i hi
    · show M4.1 65 s = 0
      rw [(e1 65 (Or.inr (by decide))).1]; exact g2 s hs2
    · exact e2
  · refine g_vret dX9_seekWays_7 rfl ?_
    exact ⟨rfl, hD, (hs.resolve_left h4).1, (hs.resolve_left h4).2⟩

theorem spent_0 {b : Bool} (h : (if b = true then (1 : Int) else 0) = 0) : b = false := by cases b; rfl; exact absurd h (by decide)
theorem spent_1 {b : Bool} (h : ¬ (if b = true then (1 : Int) else 0) = 0) : b = true := by cases b; exact absurd rfl h; rfl
theorem w_X9_haveWays {d : Nat} {D M : Mem} (hr : Ready D M) : WP wdC (d + 21) mX9_haveWays [vr 0] M (fun v M' => v = some (vi (bi (haveP D))) ∧ Ask D M') := by
  refine wp_of (by decide +kernel) (Nat.le_of_ble_eq_true rfl) ?_
  refine g_aload_n dX9_haveWays_0 rfl rfl ?_
  refine g_callV dX9_haveWays_1 lX9_172 (w_X9_seekWays hr) rfl rfl rfl rfl (Nat.le_of_ble_eq_true rfl) ?_
  rintro v M2 ⟨rfl, hA⟩
  show G _ _ _ _ _ _ [] M2
  obtain ⟨q1, q2, q3, q4, q5, q6, q7⟩ := id hA.2.2.2.2.2
  change M2.1 24 11 = _ at q1
  change M2.1 24 12 = _ at q2
  change M2.1 24 13 = _ at q3
  refine g_aload_n dX9_haveWays_4 rfl rfl ?_
  refine g_getr dX9_haveWays_5 fX9_44 rfl rfl ?_
  refine g_get dX9_haveWays_8 fX9_175 rfl rfl ?_
  try simp only [sil, sjl, Nat.reduceAdd, Nat.reduceEqDiff, eq_self, false_and, and_false, true_and, and_true, if_false, if_true, reduceIte]
  rw [q3]
  have hbb : (if (RR D).2.2 = true then (1 : Int) else 0) = 0 ∨ (if (RR D).2.2 = true then (1 : Int) else 0) = 1 := by split <;> simp
  refine g_if_ne (tgt := 28) dX9_haveWays_11 rfl (fun h11 => ?_) (fun h11 => ?_)
  · refine g_iconst dX9_haveWays_28 ?_
    refine g_zret dX9_haveWays_29 rfl ?_
    first
      | (have h0 := spent_0 h11
         first
           | (have hz : haveP D := ⟨h0, by omega⟩
              exact ⟨by rw [bi_t hz], hA⟩)
           | (have hz : ¬ haveP D := fun z => by have := z.2; omega
              exact ⟨by rw [bi_f hz], hA⟩))
      | (have h0 := spent_1 h11
         have hz : ¬ haveP D := fun z => by rw [z.1] at h0; cases h0
         exact ⟨by rw [bi_f hz], hA⟩)
  · refine g_aload_n dX9_haveWays_14 rfl rfl ?_
    refine g_getr dX9_haveWays_15 fX9_44 rfl rfl ?_
    refine g_get dX9_haveWays_18 fX9_178 rfl rfl ?_
    try simp only [sil, sjl, Nat.reduceAdd, Nat.reduceEqDiff, eq_self, false_and, and_false, true_and, and_true, if_false, if_true, reduceIte]
    rw [q2]
    refine g_if_le (tgt := 28) dX9_haveWays_21 rfl (fun h21 => ?_) (fun h21 => ?_)
    · refine g_iconst dX9_haveWays_28 ?_
      refine g_zret dX9_haveWays_29 rfl ?_
      first
        | (have h0 := spent_0 h11
           first
             | (have hz : haveP D := ⟨h0, by omega⟩
                exact ⟨by rw [bi_t hz], hA⟩)
             | (have hz : ¬ haveP D := fun z => by have := z.2; omega
                exact ⟨by rw [bi_f hz], hA⟩))
        | (have h0 := spent_1 h11
           have hz : ¬ haveP D := fun z => by rw [z.1] at h0; cases h0
           exact ⟨by rw [bi_f hz], hA⟩)
    · refine g_iconst dX9_haveWays_24 ?_
      refine g_goto (tgt := 29) dX9_haveWays_25 rfl ?_
      refine g_zret dX9_haveWays_29 rfl ?_
      first
        | (have h0 := spent_0 h11
           first
             | (have hz : haveP D := ⟨h0, by omega⟩
                exact ⟨by rw [bi_t hz], hA⟩)
             | (have hz : ¬ haveP D := fun z => by have := z.2; omega
                exact ⟨by rw [bi_f hz], hA⟩))
        | (have h0 := spent_1 h11
           have hz : ¬ haveP D := fun z => by rw [z.1] at h0; cases h0
           exact ⟨by rw [bi_f hz], hA⟩)
theorem w_X9_isWay {d : Nat} {D M : Mem} {k : Int} (k1 : -2147483648 ≤ k) (k2 : k < 2147483648) (hr : Ready D M) : WP wdC (d + 21) mX9_isWay [vr 0, vi k] M (fun v M' => v = some (vi (bi (isWayP D k))) ∧ Ask D M') := by
  refine wp_of (by decide +kernel) (Nat.le_of_ble_eq_true rfl) ?_
  refine g_aload_n dX9_isWay_0 rfl rfl ?_
  refine g_callV dX9_isWay_1 lX9_172 (w_X9_seekWays hr) rfl rfl rfl rfl (Nat.le_of_ble_eq_true rfl) ?_
  rintro v M2 ⟨rfl, hA⟩
  show G _ _ _ _ _ _ [] M2
  obtain ⟨q1, q2, q3, q4, q5, q6, q7⟩ := id hA.2.2.2.2.2
  change M2.1 24 11 = _ at q1
  change M2.1 24 12 = _ at q2
  change M2.1 24 13 = _ at q3
  refine g_aload_n dX9_isWay_4 rfl rfl ?_
  refine g_getr dX9_isWay_5 fX9_44 rfl rfl ?_
  refine g_get dX9_isWay_8 fX9_175 rfl rfl ?_
  try simp only [sil, sjl, Nat.reduceAdd, Nat.reduceEqDiff, eq_self, false_and, and_false, true_and, and_true, if_false, if_true, reduceIte]
  rw [q3]
  have hbb : (if (RR D).2.2 = true then (1 : Int) else 0) = 0 ∨ (if (RR D).2.2 = true then (1 : Int) else 0) = 1 := by split <;> simp
  refine g_if_ne (tgt := 33) dX9_isWay_11 rfl (fun h11 => ?_) (fun h11 => ?_)
  · refine g_iconst dX9_isWay_33 ?_
    refine g_zret dX9_isWay_34 rfl ?_
    first
      | (have h0 := spent_0 h11
         first
           | (have hz : isWayP D k := ⟨h0, by omega, by omega⟩
              exact ⟨by rw [bi_t hz], hA⟩)
           | (have hz : ¬ isWayP D k := fun z => by have := z.2; omega
              exact ⟨by rw [bi_f hz], hA⟩))
      | (have h0 := spent_1 h11
         have hz : ¬ isWayP D k := fun z => by rw [z.1] at h0; cases h0
         exact ⟨by rw [bi_f hz], hA⟩)
  · refine g_iload_n dX9_isWay_14 rfl rfl ?_
    refine g_if_lt (tgt := 33) dX9_isWay_15 rfl (fun h15 => ?_) (fun h15 => ?_)
    · refine g_iconst dX9_isWay_33 ?_
      refine g_zret dX9_isWay_34 rfl ?_
      first
        | (have h0 := spent_0 h11
           first
             | (have hz : isWayP D k := ⟨h0, by omega, by omega⟩
                exact ⟨by rw [bi_t hz], hA⟩)
             | (have hz : ¬ isWayP D k := fun z => by have := z.2; omega
                exact ⟨by rw [bi_f hz], hA⟩))
        | (have h0 := spent_1 h11
           have hz : ¬ isWayP D k := fun z => by rw [z.1] at h0; cases h0
           exact ⟨by rw [bi_f hz], hA⟩)
    · refine g_iload_n dX9_isWay_18 rfl rfl ?_
      refine g_aload_n dX9_isWay_19 rfl rfl ?_
      refine g_getr dX9_isWay_20 fX9_44 rfl rfl ?_
      refine g_get dX9_isWay_23 fX9_178 rfl rfl ?_
      try simp only [sil, sjl, Nat.reduceAdd, Nat.reduceEqDiff, eq_self, false_and, and_false, true_and, and_true, if_false, if_true, reduceIte]
      rw [q2]
      refine g_icmp_ge (tgt := 33) dX9_isWay_26 rfl (fun h26 => ?_) (fun h26 => ?_)
      · refine g_iconst dX9_isWay_33 ?_
        refine g_zret dX9_isWay_34 rfl ?_
        first
          | (have h0 := spent_0 h11
             first
               | (have hz : isWayP D k := ⟨h0, by omega, by omega⟩
                  exact ⟨by rw [bi_t hz], hA⟩)
               | (have hz : ¬ isWayP D k := fun z => by have := z.2; omega
                  exact ⟨by rw [bi_f hz], hA⟩))
          | (have h0 := spent_1 h11
             have hz : ¬ isWayP D k := fun z => by rw [z.1] at h0; cases h0
             exact ⟨by rw [bi_f hz], hA⟩)
      · refine g_iconst dX9_isWay_29 ?_
        refine g_goto (tgt := 34) dX9_isWay_30 rfl ?_
        refine g_zret dX9_isWay_34 rfl ?_
        first
          | (have h0 := spent_0 h11
             first
               | (have hz : isWayP D k := ⟨h0, by omega, by omega⟩
                  exact ⟨by rw [bi_t hz], hA⟩)
               | (have hz : ¬ isWayP D k := fun z => by have := z.2; omega
                  exact ⟨by rw [bi_f hz], hA⟩))
          | (have h0 := spent_1 h11
             have hz : ¬ isWayP D k := fun z => by rw [z.1] at h0; cases h0
             exact ⟨by rw [bi_f hz], hA⟩)
theorem w_X9_ways {d : Nat} {D M : Mem} (hr : Ready D M) : WP wdC (d + 21) mX9_ways [vr 0] M (fun v M' => v = some (vi (if (RR D).2.2 = true then -2 else (RR D).2.1.length)) ∧ Ask D M') := by
  refine wp_of (by decide +kernel) (Nat.le_of_ble_eq_true rfl) ?_
  refine g_aload_n dX9_ways_0 rfl rfl ?_
  refine g_callV dX9_ways_1 lX9_172 (w_X9_seekWays hr) rfl rfl rfl rfl (Nat.le_of_ble_eq_true rfl) ?_
  rintro v M2 ⟨rfl, hA⟩
  show G _ _ _ _ _ _ [] M2
  obtain ⟨q1, q2, q3, q4, q5, q6, q7⟩ := id hA.2.2.2.2.2
  change M2.1 24 11 = _ at q1
  change M2.1 24 12 = _ at q2
  change M2.1 24 13 = _ at q3
  refine g_aload_n dX9_ways_4 rfl rfl ?_
  refine g_getr dX9_ways_5 fX9_44 rfl rfl ?_
  refine g_get dX9_ways_8 fX9_175 rfl rfl ?_
  try simp only [sil, sjl, Nat.reduceAdd, Nat.reduceEqDiff, eq_self, false_and, and_false, true_and, and_true, if_false, if_true, reduceIte]
  rw [q3]
  have hbb : (if (RR D).2.2 = true then (1 : Int) else 0) = 0 ∨ (if (RR D).2.2 = true then (1 : Int) else 0) = 1 := by split <;> simp
  refine g_if_eq (tgt := 19) dX9_ways_11 rfl (fun h11 => ?_) (fun h11 => ?_)
  · refine g_aload_n dX9_ways_19 rfl rfl ?_
    refine g_getr dX9_ways_20 fX9_44 rfl rfl ?_
    refine g_get dX9_ways_23 fX9_178 rfl rfl ?_
    try simp only [sil, sjl, Nat.reduceAdd, Nat.reduceEqDiff, eq_self, false_and, and_false, true_and, and_true, if_false, if_true, reduceIte]
    try rw [q2]
    refine g_iret dX9_ways_26 rfl ?_
    first
      | (have h0 := spent_1 h11
         exact ⟨by rw [if_pos h0], hA⟩)
      | (have h0 := spent_0 h11
         exact ⟨by rw [if_neg (fun z => by rw [h0] at z; cases z)], hA⟩)
  · refine g_bipush dX9_ways_14 rfl ?_
    refine g_goto (tgt := 26) dX9_ways_16 rfl ?_
    try rw [q2]
    refine g_iret dX9_ways_26 rfl ?_
    first
      | (have h0 := spent_1 h11
         exact ⟨by rw [if_pos h0], hA⟩)
      | (have h0 := spent_0 h11
         exact ⟨by rw [if_neg (fun z => by rw [h0] at z; cases z)], hA⟩)

