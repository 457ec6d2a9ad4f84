/-! MODULE 40: the reference's questions of ways. -/
def cntL (D : Mem) (a c : Nat) : Nat → Nat
  | 0 => 0
  | i + 1 => cntL D a c i + (if per (wy D i) a = per (wy D i) c then 1 else 0)
theorem cntL_s (D : Mem) (a c i : Nat) : cntL D a c (i + 1) = cntL D a c i + (if per (wy D i) a = per (wy D i) c then 1 else 0) := rfl
theorem cntL_le (D : Mem) (a c : Nat) : ∀ i, cntL D a c i ≤ i
  | 0 => Nat.le_refl _
  | i + 1 => by
    have := cntL_le D a c i
    rw [cntL_s]; split <;> omega
theorem cntL_all (D : Mem) (a c : Nat) : ∀ i, cntL D a c i = i ↔ ∀ j, j < i → per (wy D j) a = per (wy D j) c
  | 0 => ⟨fun _ j hj => absurd hj (by omega), fun _ => rfl⟩
  | i + 1 => by
    have h1 := cntL_le D a c i
    have ih := cntL_all D a c i
    rw [cntL_s]
    by_cases h : per (wy D i) a = per (wy D i) c
    · rw [if_pos h]
      constructor
      · intro hz j hj
        by_cases hji : j = i
        · rw [hji]; exact h
        · exact ih.mp (by omega) j (by omega)
      · intro hz
        have := ih.mpr (fun j hj => hz j (by omega))
        omega
    · rw [if_neg h]
      exact ⟨fun hz => by omega, fun hz => absurd (hz i (by omega)) h⟩
theorem cntL_none (D : Mem) (a c : Nat) : ∀ i, cntL D a c i = 0 ↔ ∀ j, j < i → ¬ per (wy D j) a = per (wy D j) c
  | 0 => ⟨fun _ j hj => absurd hj (by omega), fun _ => rfl⟩
  | i + 1 => by
    have ih := cntL_none D a c i
    rw [cntL_s]
    by_cases h : per (wy D i) a = per (wy D i) c
    · rw [if_pos h]
      exact ⟨fun hz => by omega, fun hz => absurd h (hz i (by omega))⟩
    · rw [if_neg h]
      constructor
      · intro hz j hj
        by_cases hji : j = i
        · rw [hji]; exact h
        · exact ih.mp (by omega) j (by omega)
      · intro hz
        have := ih.mpr (fun j hj => hz j (by omega))
        omega
theorem firstB_none (P : Nat → Bool) : ∀ (n k : Nat), firstB P n k = -1 ↔ ∀ j, k ≤ j → j < k + n → P j = false
  | 0, k => ⟨fun _ j h1 h2 => absurd h2 (by omega), fun _ => rfl⟩
  | n + 1, k => by
    unfold firstB
    by_cases h : P k = true
    · rw [if_pos h]
      exact ⟨fun hz => by omega, fun hz => by have := hz k (Nat.le_refl _) (by omega); rw [h] at this; cases this⟩
    · rw [if_neg h, firstB_none P n (k + 1)]
      constructor
      · intro hz j h1 h2
        by_cases hjk : j = k
        · rw [hjk]; exact Bool.eq_false_iff.mpr h
        · exact hz j (by omega) (by omega)
      · intro hz j h1 h2
        exact hz j (by omega) (by omega)
theorem allJ_iff (D : Mem) (a c : Nat) : allJ D a c ↔ ∀ j, j < (RR D).2.1.length → per (wy D j) a = per (wy D j) c := by
  constructor
  · intro h j hj
    unfold wy
    rw [List.getD_eq_getElem?_getD, List.getElem?_eq_getElem hj]
    exact h _ (List.getElem_mem hj)
  · intro h w hw
    obtain ⟨j, hj, e⟩ := List.getElem_of_mem hw
    have := h j hj
    unfold wy at this
    rw [List.getD_eq_getElem?_getD, List.getElem?_eq_getElem hj] at this
    rw [← e]; exact this
theorem link_iff {D : Mem} {a c : Nat} (hh : haveP D) {n : Nat} (hn : n = cntL D a c (RR D).2.1.length) : linkS D a c = if n = 0 then 0 else if n = (RR D).2.1.length then 1 else 2 := by
  unfold linkS
  rw [if_pos hh, hn]
  have h1 := cntL_all D a c (RR D).2.1.length
  have h2 := cntL_none D a c (RR D).2.1.length
  have h3 := allJ_iff D a c
  have h4 := firstB_none (fstD D a c 1) (RR D).2.1.length 0
  have h5 : firstB (fstD D a c 1) (RR D).2.1.length 0 = -1 ↔ cntL D a c (RR D).2.1.length = 0 := by
    rw [h4, h2]
    constructor
    · intro h j hj z
      have := h j (Nat.zero_le _) (by omega)
      unfold fstD at this
      rw [decide_eq_false_iff_not] at this
      exact this ⟨fun _ => rfl, fun _ => z⟩
    · intro h j _ hj
      unfold fstD
      rw [decide_eq_false_iff_not]
      exact fun z => h j (by omega) (z.mpr rfl)
  have h6 : allJ D a c ↔ cntL D a c (RR D).2.1.length = (RR D).2.1.length := by rw [h3, h1]
  have hl := hh.2
  by_cases g1 : cntL D a c (RR D).2.1.length = 0
  · rw [if_pos g1, if_neg (fun z => by have := h6.mp z; omega), if_pos (h5.mpr g1)]
  · rw [if_neg g1]
    by_cases g2 : cntL D a c (RR D).2.1.length = (RR D).2.1.length
    · rw [if_pos g2, if_pos (h6.mpr g2)]
    · rw [if_neg g2, if_neg (fun z => g2 (h6.mp z)), if_neg (fun z => g1 (h5.mp z))]
theorem w_X10_isLink {d : Nat} {M : Mem} {a c : Int} (a1 : -2147483648 ≤ a) (a2 : a < 2147483648) (c1 : -2147483648 ≤ c) (c2 : c < 2147483648) (hB : 0 ≤ M.1 0 12 ∧ M.1 0 12 ≤ 8 ∧ 0 ≤ M.1 0 13 ∧ M.1 0 13 ≤ 14) : WP wdM (d + 1) mX10_isLink [vr 0, vi a, vi c] M (Ret (some (vi (bi ((0 ≤ a ∧ a < M.1 0 13) ∧ (0 ≤ c ∧ c < M.1 0 13))))) M) := by
  refine wp_of (by decide +kernel) (Nat.le_of_ble_eq_true rfl) ?_
  obtain ⟨hR0, hR8, hN0, hN14⟩ := id hB
  refine g_aload_n dX10_isLink_0 rfl rfl ?_
  refine g_iload_n dX10_isLink_1 rfl rfl ?_
  refine g_callVr dX10_isLink_2 lX10_153 (w_X10_isRole (by omega) (by omega) hR0 hR8 hN0 hN14) rfl rfl rfl rfl (Nat.le_of_ble_eq_true rfl) ?_
  refine g_if_eqB (tgt := 20) dX10_isLink_5 rfl (fun h5 => ?_) (fun h5 => ?_)
  · refine g_iconst dX10_isLink_20 ?_
    refine g_zret dX10_isLink_21 rfl ?_
    first | exact leafT ⟨h5, h13⟩ | exact leafF (fun z => by first | exact h5 z.1 | exact h13 z.2)
  · refine g_aload_n dX10_isLink_8 rfl rfl ?_
    refine g_iload_n dX10_isLink_9 rfl rfl ?_
    refine g_callVr dX10_isLink_10 lX10_153 (w_X10_isRole (by omega) (by omega) hR0 hR8 hN0 hN14) rfl rfl rfl rfl (Nat.le_of_ble_eq_true rfl) ?_
    refine g_if_eqB (tgt := 20) dX10_isLink_13 rfl (fun h13 => ?_) (fun h13 => ?_)
    · refine g_iconst dX10_isLink_20 ?_
      refine g_zret dX10_isLink_21 rfl ?_
      first | exact leafT ⟨h5, h13⟩ | exact leafF (fun z => by first | exact h5 z.1 | exact h13 z.2)
    · refine g_iconst dX10_isLink_16 ?_
      refine g_goto (tgt := 21) dX10_isLink_17 rfl ?_
      refine g_zret dX10_isLink_21 rfl ?_
      first | exact leafT ⟨h5, h13⟩ | exact leafF (fun z => by first | exact h5 z.1 | exact h13 z.2)

theorem w_X10_person {d : Nat} {D M : Mem} {r : Nat} (hro : (r : Int) < D.1 1 11) {k : Int} (k1 : -2147483648 ≤ k) (k2 : k < 2147483648) (hr : ReadyM D M) : WP wdM (d + 6) mX10_person [vr 0, vi k, vi r] M (fun v M' => v = some (vi (personS D k r)) ∧ AskM D M M') := by
  refine wp_of (by decide +kernel) (Nat.le_of_ble_eq_true rfl) ?_
  obtain ⟨hw, hD, hs⟩ := id hr
  obtain ⟨hR0, hR8, hN0, hN14⟩ := id (hD.bd hw)
  have hRo : M.1 0 13 = D.1 1 11 := hD.1.2.1
  have hDN := hw.1.2.2.2
  refine g_aload_n dX10_person_0 rfl rfl ?_
  refine g_iload_n dX10_person_1 rfl rfl ?_
  refine g_callVr dX10_person_2 lX10_153 (w_X10_isRole (by omega) (by omega) hR0 hR8 hN0 hN14) rfl rfl rfl rfl (Nat.le_of_ble_eq_true rfl) ?_
  refine g_if_eqB (tgt := 16) dX10_person_5 rfl (fun h5 => ?_) (fun h5 => ?_)
  · exfalso; omega
  · refine g_aload_n dX10_person_8 rfl rfl ?_
    refine g_iload_n dX10_person_9 rfl rfl ?_
    refine g_callV dX10_person_10 lX10_223 (w_X10_isWay (d := d) k1 k2 hr) rfl rfl rfl rfl (Nat.le_of_ble_eq_true rfl) ?_
    rintro v M2 ⟨rfl, hA⟩
    show G _ _ _ _ _ _ [_] M2
    obtain ⟨q1, q2, q3, q4⟩ := id hA.2.2
    refine g_if_neB (tgt := 20) dX10_person_13 rfl (fun h13 => ?_) (fun h13 => ?_)
    · obtain ⟨kn, rfl⟩ : ∃ n : Nat, k = (n : Int) := ⟨k.toNat, by have := h13.2.1; omega⟩
      have hkn : kn < (RR D).2.1.length := by have := h13.2.2; omega
      refine g_aload_n dX10_person_20 rfl rfl ?_
      refine g_iload_n dX10_person_21 rfl rfl ?_
      refine g_iload_n dX10_person_22 rfl rfl ?_
      refine g_callVr dX10_person_23 lX10_226 (w_X10_at (M := M2) (w := kn) (r := r) (by omega) (by omega)) rfl rfl rfl rfl (Nat.le_of_ble_eq_true rfl) ?_
      refine g_iret dX10_person_26 rfl ?_
      first
      | (have h13 : isWayP D kn := h13
         have e := (q4 kn hkn).1 r hro
         exact ⟨by unfold personS; rw [if_pos h13, e]; rfl, hA⟩)
      | exact ⟨by unfold personS; rw [if_neg h13], hA⟩
    · refine g_iconst dX10_person_16 ?_
      refine g_goto (tgt := 26) dX10_person_17 rfl ?_
      refine g_iret dX10_person_26 rfl ?_
      first
      | (have h13 : isWayP D kn := h13
         have e := (q4 kn hkn).1 r hro
         exact ⟨by unfold personS; rw [if_pos h13, e]; rfl, hA⟩)
      | exact ⟨by unfold personS; rw [if_neg h13], hA⟩

theorem w_X10_cost {d : Nat} {D M : Mem} {k : Int} (k1 : -2147483648 ≤ k) (k2 : k < 2147483648) (hr : ReadyM D M) : WP wdM (d + 6) mX10_cost [vr 0, vi k] M (fun v M' => v = some (vi (costS D k)) ∧ AskM D M M') := by
  refine wp_of (by decide +kernel) (Nat.le_of_ble_eq_true rfl) ?_
  obtain ⟨hw, hD, hs⟩ := id hr
  obtain ⟨hR0, hR8, hN0, hN14⟩ := id (hD.bd hw)
  have hRo : M.1 0 13 = D.1 1 11 := hD.1.2.1
  have hDN := hw.1.2.2.2
  refine g_aload_n dX10_cost_0 rfl rfl ?_
  refine g_iload_n dX10_cost_1 rfl rfl ?_
  refine g_callV dX10_cost_2 lX10_223 (w_X10_isWay (d := d) k1 k2 hr) rfl rfl rfl rfl (Nat.le_of_ble_eq_true rfl) ?_
  rintro v M2 ⟨rfl, hA⟩
  show G _ _ _ _ _ _ [_] M2
  obtain ⟨q1, q2, q3, q4⟩ := id hA.2.2
  refine g_if_eqB (tgt := 17) dX10_cost_5 rfl (fun h5 => ?_) (fun h5 => ?_)
  · refine g_iconst dX10_cost_17 ?_
    refine g_iret dX10_cost_18 rfl ?_
    first
    | (have h5 : isWayP D kn := h5
       have e := (q4 kn hkn).2.1
       exact ⟨by unfold costS; rw [if_pos h5, e]; rfl, hA⟩)
    | exact ⟨by unfold costS; rw [if_neg h5], hA⟩
  · obtain ⟨kn, rfl⟩ : ∃ n : Nat, k = (n : Int) := ⟨k.toNat, by have := h5.2.1; omega⟩
    have hkn : kn < (RR D).2.1.length := by have := h5.2.2; omega
    refine g_aload_n dX10_cost_8 rfl rfl ?_
    refine g_getr dX10_cost_9 fX10_87 rfl rfl ?_
    refine g_iload_n dX10_cost_12 rfl rfl ?_
    refine g_iald dX10_cost_13 rfl (by decide) ?_
    try simp only [sil, sjl, Nat.reduceAdd, Nat.reduceEqDiff, eq_self, false_and, and_false, true_and, and_true, if_false, if_true, reduceIte]
    try simp only [Int.toNat_natCast]
    refine g_goto (tgt := 18) dX10_cost_14 rfl ?_
    refine g_iret dX10_cost_18 rfl ?_
    first
    | (have h5 : isWayP D kn := h5
       have e := (q4 kn hkn).2.1
       exact ⟨by unfold costS; rw [if_pos h5, e]; rfl, hA⟩)
    | exact ⟨by unfold costS; rw [if_neg h5], hA⟩

