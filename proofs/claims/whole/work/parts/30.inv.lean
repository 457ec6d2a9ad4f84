/-! MODULE 26: the class's questions of roles that aren't there. -/
abbrev isR (M : Mem) (k : Int) : Prop := 0 ≤ k ∧ k < M.1 1 11
theorem v_X9_person {d : Nat} {M : Mem} {k r : Int} (k1 : -2147483648 ≤ k) (k2 : k < 2147483648) (r1 : -2147483648 ≤ r) (r2 : r < 2147483648) (hB : WfB M) (hn : ¬ (isR M r)) : WP wdC (d + 22) mX9_person [vr 0, vi k, vi r] M (Ret (some (vi (-1))) M) := by
  refine wp_of (by decide +kernel) (Nat.le_of_ble_eq_true rfl) ?_
  obtain ⟨hR0, hR8, hN0, hN14⟩ := id hB
  refine g_aload_n dX9_person_0 rfl rfl ?_
  refine g_getr dX9_person_1 fX9_12 rfl rfl ?_
  refine g_iload_n dX9_person_4 rfl rfl ?_
  refine g_callVr dX9_person_5 lX9_150 (w_X0_hasRole (by omega) (by omega) hR0 hR8 hN0 hN14) rfl rfl rfl rfl (Nat.le_of_ble_eq_true rfl) ?_
  refine g_if_eqB (tgt := 19) dX9_person_8 rfl (fun h8 => ?_) (fun h8 => ?_)
  · refine g_iconst dX9_person_19 ?_
    refine g_iret dX9_person_20 rfl ?_
    exact ⟨rfl, rfl⟩
  · exfalso; exact hn h8

theorem v_X9_link {d : Nat} {M : Mem} {a c : Int} (a1 : -2147483648 ≤ a) (a2 : a < 2147483648) (c1 : -2147483648 ≤ c) (c2 : c < 2147483648) (hB : WfB M) (hn : ¬ (isR M a ∧ isR M c)) : WP wdC (d + 22) mX9_link [vr 0, vi a, vi c] M (Ret (some (vi (-1))) M) := by
  refine wp_of (by decide +kernel) (Nat.le_of_ble_eq_true rfl) ?_
  obtain ⟨hR0, hR8, hN0, hN14⟩ := id hB
  refine g_aload_n dX9_link_0 rfl rfl ?_
  refine g_iload_n dX9_link_1 rfl rfl ?_
  refine g_iload_n dX9_link_2 rfl rfl ?_
  refine g_callVr dX9_link_3 lX9_195 (w_X9_areRoles (by omega) (by omega) (by omega) (by omega) hB) rfl rfl rfl rfl (Nat.le_of_ble_eq_true rfl) ?_
  refine g_if_eqB (tgt := 16) dX9_link_6 rfl (fun h6 => ?_) (fun h6 => ?_)
  · refine g_iconst dX9_link_16 ?_
    refine g_iret dX9_link_17 rfl ?_
    exact ⟨rfl, rfl⟩
  · exfalso; exact hn h6

theorem v_X9_first {d : Nat} {M : Mem} {a c z : Int} (hz : z = 0 ∨ z = 1) (a1 : -2147483648 ≤ a) (a2 : a < 2147483648) (c1 : -2147483648 ≤ c) (c2 : c < 2147483648) (hB : WfB M) (hn : ¬ (isR M a ∧ isR M c)) : WP wdC (d + 22) mX9_first [vr 0, vi a, vi c, vi z] M (Ret (some (vi (-1))) M) := by
  refine wp_of (by decide +kernel) (Nat.le_of_ble_eq_true rfl) ?_
  obtain ⟨hR0, hR8, hN0, hN14⟩ := id hB
  refine g_aload_n dX9_first_0 rfl rfl ?_
  refine g_iload_n dX9_first_1 rfl rfl ?_
  refine g_iload_n dX9_first_2 rfl rfl ?_
  refine g_callVr dX9_first_3 lX9_195 (w_X9_areRoles (by omega) (by omega) (by omega) (by omega) hB) rfl rfl rfl rfl (Nat.le_of_ble_eq_true rfl) ?_
  refine g_if_eqB (tgt := 16) dX9_first_6 rfl (fun h6 => ?_) (fun h6 => ?_)
  · refine g_iconst dX9_first_16 ?_
    refine g_iret dX9_first_17 rfl ?_
    exact ⟨rfl, rfl⟩
  · exfalso; exact hn h6

theorem v_X9_why {d : Nat} {M : Mem} {a c : Int} (a1 : -2147483648 ≤ a) (a2 : a < 2147483648) (c1 : -2147483648 ≤ c) (c2 : c < 2147483648) (hB : WfB M) (hn : ¬ (isR M a ∧ isR M c)) : WP wdC (d + 22) mX9_why [vr 0, vi a, vi c] M (Ret (some (vi (-1))) M) := by
  refine wp_of (by decide +kernel) (Nat.le_of_ble_eq_true rfl) ?_
  obtain ⟨hR0, hR8, hN0, hN14⟩ := id hB
  refine g_aload_n dX9_why_0 rfl rfl ?_
  refine g_iload_n dX9_why_1 rfl rfl ?_
  refine g_iload_n dX9_why_2 rfl rfl ?_
  refine g_callVr dX9_why_3 lX9_195 (w_X9_areRoles (by omega) (by omega) (by omega) (by omega) hB) rfl rfl rfl rfl (Nat.le_of_ble_eq_true rfl) ?_
  refine g_if_eqB (tgt := 28) dX9_why_6 rfl (fun h6 => ?_) (fun h6 => ?_)
  · refine g_iconst dX9_why_28 ?_
    refine g_iret dX9_why_29 rfl ?_
    exact ⟨rfl, rfl⟩
  · exfalso; exact hn h6

theorem v_X9_kin {d : Nat} {M : Mem} {k a c : Int} (k1 : -2147483648 ≤ k) (k2 : k < 2147483648) (a1 : -2147483648 ≤ a) (a2 : a < 2147483648) (c1 : -2147483648 ≤ c) (c2 : c < 2147483648) (hB : WfB M) (hn : ¬ (isR M a ∧ isR M c)) : WP wdC (d + 22) mX9_kin [vr 0, vi k, vi a, vi c] M (Ret (some (vi (-1))) M) := by
  refine wp_of (by decide +kernel) (Nat.le_of_ble_eq_true rfl) ?_
  obtain ⟨hR0, hR8, hN0, hN14⟩ := id hB
  refine g_aload_n dX9_kin_0 rfl rfl ?_
  refine g_iload_n dX9_kin_1 rfl rfl ?_
  refine g_iload_n dX9_kin_2 rfl rfl ?_
  refine g_callVr dX9_kin_3 lX9_195 (w_X9_areRoles (by omega) (by omega) (by omega) (by omega) hB) rfl rfl rfl rfl (Nat.le_of_ble_eq_true rfl) ?_
  refine g_if_eqB (tgt := 17) dX9_kin_6 rfl (fun h6 => ?_) (fun h6 => ?_)
  · refine g_iconst dX9_kin_17 ?_
    refine g_iret dX9_kin_18 rfl ?_
    exact ⟨rfl, rfl⟩
  · exfalso; exact hn h6

theorem v_X9_always {d : Nat} {M : Mem} {a c : Int} (a1 : -2147483648 ≤ a) (a2 : a < 2147483648) (c1 : -2147483648 ≤ c) (c2 : c < 2147483648) (hB : WfB M) (hn : ¬ (isR M a ∧ isR M c)) : WP wdC (d + 22) mX9_always [vr 0, vi a, vi c] M (Ret (some (vi (-3))) M) := by
  refine wp_of (by decide +kernel) (Nat.le_of_ble_eq_true rfl) ?_
  obtain ⟨hR0, hR8, hN0, hN14⟩ := id hB
  refine g_aload_n dX9_always_0 rfl rfl ?_
  refine g_iload_n dX9_always_1 rfl rfl ?_
  refine g_iload_n dX9_always_2 rfl rfl ?_
  refine g_callVr dX9_always_3 lX9_195 (w_X9_areRoles (by omega) (by omega) (by omega) (by omega) hB) rfl rfl rfl rfl (Nat.le_of_ble_eq_true rfl) ?_
  refine g_if_eqB (tgt := 16) dX9_always_6 rfl (fun h6 => ?_) (fun h6 => ?_)
  · refine g_bipush dX9_always_16 rfl ?_
    refine g_iret dX9_always_18 rfl ?_
    exact ⟨rfl, rfl⟩
  · exfalso; exact hn h6

