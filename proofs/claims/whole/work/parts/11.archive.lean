/-! MODULE 6: the archive -/
/-- hasRole -/
theorem w_X0_hasRole {d : Nat} {M : Mem} {k : Int} (k1 : -2147483648 ≤ k) (k2 : k < 2147483648) (hN0 : 0 ≤ M.1 1 11) (hN : M.1 1 11 ≤ 14) : WP wdC (d) mX0_hasRole [vr 1, vi k] M (Ret (some (vi (bi (0 ≤ k ∧ k < M.1 1 11)))) M) := by
  refine wp_of (by decide +kernel) (Nat.le_of_ble_eq_true rfl) ?_
  refine g_iload_n dX0_hasRole_0 rfl rfl ?_
  refine g_if_lt (tgt := 22) dX0_hasRole_1 rfl (fun h1 => ?_) (fun h1 => ?_)
  · refine g_iconst dX0_hasRole_22 ?_
    refine g_zret dX0_hasRole_23 rfl ?_
    first | exact leafT (by omega) | exact leafF (by omega)
  · refine g_iload_n dX0_hasRole_4 rfl rfl ?_
    refine g_aload_n dX0_hasRole_5 rfl rfl ?_
    refine g_get dX0_hasRole_6 fX0_47 rfl rfl ?_
    refine g_icmp_ge (tgt := 22) dX0_hasRole_9 rfl (fun h9 => ?_) (fun h9 => ?_)
    · refine g_iconst dX0_hasRole_22 ?_
      refine g_zret dX0_hasRole_23 rfl ?_
      first | exact leafT (by omega) | exact leafF (by omega)
    · refine g_iload_n dX0_hasRole_12 rfl rfl ?_
      refine g_bipush dX0_hasRole_13 rfl ?_
      refine g_icmp_ge (tgt := 22) dX0_hasRole_15 rfl (fun h15 => ?_) (fun h15 => ?_)
      · refine g_iconst dX0_hasRole_22 ?_
        refine g_zret dX0_hasRole_23 rfl ?_
        first | exact leafT (by omega) | exact leafF (by omega)
      · refine g_iconst dX0_hasRole_18 ?_
        refine g_goto (tgt := 23) dX0_hasRole_19 rfl ?_
        refine g_zret dX0_hasRole_23 rfl ?_
        first | exact leafT (by omega) | exact leafF (by omega)

/-- hasRecord -/
theorem w_X0_hasRecord {d : Nat} {M : Mem} {k : Int} (k1 : -2147483648 ≤ k) (k2 : k < 2147483648) (hR0 : 0 ≤ M.1 1 10) (hR : M.1 1 10 ≤ 8) : WP wdC (d) mX0_hasRecord [vr 1, vi k] M (Ret (some (vi (bi (0 ≤ k ∧ k < M.1 1 10)))) M) := by
  refine wp_of (by decide +kernel) (Nat.le_of_ble_eq_true rfl) ?_
  refine g_iload_n dX0_hasRecord_0 rfl rfl ?_
  refine g_if_lt (tgt := 22) dX0_hasRecord_1 rfl (fun h1 => ?_) (fun h1 => ?_)
  · refine g_iconst dX0_hasRecord_22 ?_
    refine g_zret dX0_hasRecord_23 rfl ?_
    first | exact leafT (by omega) | exact leafF (by omega)
  · refine g_iload_n dX0_hasRecord_4 rfl rfl ?_
    refine g_aload_n dX0_hasRecord_5 rfl rfl ?_
    refine g_get dX0_hasRecord_6 fX0_43 rfl rfl ?_
    refine g_icmp_ge (tgt := 22) dX0_hasRecord_9 rfl (fun h9 => ?_) (fun h9 => ?_)
    · refine g_iconst dX0_hasRecord_22 ?_
      refine g_zret dX0_hasRecord_23 rfl ?_
      first | exact leafT (by omega) | exact leafF (by omega)
    · refine g_iload_n dX0_hasRecord_12 rfl rfl ?_
      refine g_bipush dX0_hasRecord_13 rfl ?_
      refine g_icmp_ge (tgt := 22) dX0_hasRecord_15 rfl (fun h15 => ?_) (fun h15 => ?_)
      · refine g_iconst dX0_hasRecord_22 ?_
        refine g_zret dX0_hasRecord_23 rfl ?_
        first | exact leafT (by omega) | exact leafF (by omega)
      · refine g_iconst dX0_hasRecord_18 ?_
        refine g_goto (tgt := 23) dX0_hasRecord_19 rfl ?_
        refine g_zret dX0_hasRecord_23 rfl ?_
        first | exact leafT (by omega) | exact leafF (by omega)

