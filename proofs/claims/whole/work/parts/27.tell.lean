/-! MODULE 23: the class's own methods that tell something. -/
theorem leafY {P : Prop} [Decidable P] {M1 M2 : Mem} {x y v : Int} (h : P) (hv : v = x) : Ret (some (vi (if P then x else y))) (if P then M1 else M2) (some (vi v)) M1 := ⟨by rw [if_pos h, hv], by rw [if_pos h]⟩
theorem leafN {P : Prop} [Decidable P] {M1 M2 : Mem} {x y : Int} (h : ¬ P) : Ret (some (vi (if P then x else y))) (if P then M1 else M2) (some (vi y)) M2 := ⟨by rw [if_neg h], by rw [if_neg h]⟩
def closeM (M : Mem) : Mem := si M 0 7 0
abbrev birthOK (M : Mem) (y s : Int) (c m f : Int64) : Prop := (0 ≤ y ∧ y ≤ 3000) ∧ (0 ≤ s ∧ s ≤ 2) ∧ NameOK c ∧ NameOK m ∧ NameOK f ∧ M.1 1 10 < 8 ∧ M.1 1 11 + 3 ≤ 14
def birthM (M : Mem) (y s : Int) (c m f : Int64) : Mem := closeM (addM (addM (addM (openM M y (-1)) 0 s c (-1)) 1 1 m (-1)) 2 2 f (-1))
abbrev weddingOK (M : Mem) (y : Int) (c m : Int64) : Prop := (0 ≤ y ∧ y ≤ 3000) ∧ NameOK c ∧ NameOK m ∧ M.1 1 10 < 8 ∧ M.1 1 11 + 2 ≤ 14
def weddingM (M : Mem) (y : Int) (c m : Int64) : Mem := closeM (addM (addM (openM M y (-1)) 3 1 c (-1)) 4 2 m (-1))
abbrev singleOK (M : Mem) (y s : Int) (n : Int64) (a : Int) : Prop := (0 ≤ y ∧ y ≤ 3000) ∧ (0 ≤ s ∧ s ≤ 2) ∧ NameOK n ∧ (-1 ≤ a ∧ a ≤ 120) ∧ M.1 1 10 < 8 ∧ M.1 1 11 + 1 ≤ 14
def singleM (M : Mem) (k y s : Int) (n : Int64) (a : Int) : Mem := closeM (addM (openM M y (-1)) k s n a)
abbrev twoOK (M : Mem) (y s t : Int) (c m : Int64) : Prop := (0 ≤ y ∧ y ≤ 3000) ∧ (0 ≤ s ∧ s ≤ 2) ∧ (0 ≤ t ∧ t ≤ 2) ∧ NameOK c ∧ NameOK m ∧ M.1 1 10 < 8 ∧ M.1 1 11 + 2 ≤ 14
def twoM (M : Mem) (y s t : Int) (c m : Int64) : Mem := closeM (addM (addM (openM M y (-1)) 7 s c (-1)) 7 t m (-1))
def copyK (M : Mem) (f : Nat) (nm : Nat → Int64) : Nat → Mem
  | 0 => M
  | i + 1 => againM (copyK M f nm i) (f + i) (nm i)
def nmF (a b c : Int64) (i : Nat) : Int64 := if i = 0 then a else if i = 1 then b else c
abbrev copyOK (M : Mem) (r : Int) (a b c : Int64) : Prop := ((0 ≤ r ∧ r < M.1 1 10) ∧ M.1 4 r.toNat = -1) ∧ NameOK a ∧ (2 ≤ M.1 3 r.toNat → NameOK b) ∧ (3 ≤ M.1 3 r.toNat → NameOK c) ∧ M.1 1 10 < 8 ∧ M.1 1 11 + M.1 3 r.toNat ≤ 14
def copyM (M : Mem) (r : Int) (a b c : Int64) : Mem := closeM (copyK (openM M (M.1 7 (M.1 2 r.toNat).toNat) r) (M.1 2 r.toNat).toNat (nmF a b c) (M.1 3 r.toNat).toNat)
theorem copyK_f (M : Mem) (f : Nat) (nm : Nat → Int64) : ∀ i : Nat, (copyK M f nm i).1 1 10 = M.1 1 10 ∧ (copyK M f nm i).1 1 11 = M.1 1 11 + i ∧ (copyK M f nm i).1 2 = M.1 2
  | 0 => ⟨rfl, by show M.1 1 11 = M.1 1 11 + ((0 : Nat) : Int); omega, rfl⟩
  | i + 1 => by
    obtain ⟨h1, h2, h3⟩ := copyK_f M f nm i
    refine ⟨h1, ?_, ?_⟩
    · show (copyK M f nm i).1 1 11 + 1 = _
      rw [h2]; push_cast; omega
    · rw [← h3]
      funext k
      simp [copyK, againM, addM, si, sj]

theorem w_X9_closeRecord {d : Nat} {M : Mem} : WP wdC d mX9_closeRecord [vr 0] M (Ret (some (vi (M.1 1 10 - 1))) (closeM M)) := by
  refine wp_of (by decide +kernel) (Nat.le_of_ble_eq_true rfl) ?_
  refine g_aload_n dX9_closeRecord_0 rfl rfl ?_
  refine g_iconst dX9_closeRecord_1 ?_
  refine g_putz dX9_closeRecord_2 fX9_66 rfl rfl rfl (tyX9_ok 7 (by decide)) ?_
  refine g_aload_n dX9_closeRecord_5 rfl rfl ?_
  refine g_getr dX9_closeRecord_6 fX9_12 rfl rfl ?_
  refine g_get dX9_closeRecord_9 fX9_120 rfl rfl ?_
  try simp only [sil, sjl, Nat.reduceAdd, Nat.reduceEqDiff, eq_self, false_and, and_false, true_and, and_true, if_false, if_true, reduceIte]
  refine g_iconst dX9_closeRecord_12 ?_
  refine g_isub dX9_closeRecord_13 ?_
  refine g_iret dX9_closeRecord_14 rfl ?_
  exact ⟨rfl, rfl⟩

theorem w_X9_birth {d : Nat} {M : Mem} {y s : Int} {c m f : Int64} (y1 : -2147483648 ≤ y) (y2 : y < 2147483648) (s1 : -2147483648 ≤ s) (s2 : s < 2147483648) (hR0 : 0 ≤ M.1 1 10) (hR8 : M.1 1 10 ≤ 8) (hN0 : 0 ≤ M.1 1 11) (hN14 : M.1 1 11 ≤ 14) : WP wdC (d + 3) mX9_birth [vr 0, vi y, vi s, vl c, vl m, vl f] M (Ret (some (vi (if birthOK M y s c m f then M.1 1 10 else -1))) (if birthOK M y s c m f then birthM M y s c m f else M)) := by
  refine wp_of (by decide +kernel) (Nat.le_of_ble_eq_true rfl) ?_
  refine g_iload_n dX9_birth_0 rfl rfl ?_
  refine g_callSr dX9_birth_1 lX9_70 (w_X9_isYear (by omega) (by omega)) rfl rfl (Nat.le_of_ble_eq_true rfl) ?_
  refine g_if_eqB (tgt := 41) dX9_birth_4 rfl (fun h4 => ?_) (fun h4 => ?_)
  · refine g_iconst dX9_birth_41 ?_
    refine g_istore (ls' := [some _, some _, some _, some _, _, some _, _, some _, _, some _]) dX9_birth_42 (by decide) rfl ?_
    refine g_iload dX9_birth_44 rfl ?_
    refine g_if_eq (tgt := 60) dX9_birth_46 rfl (fun _ => ?_) (fun h46 => absurd (by decide) h46)
    refine g_iconst dX9_birth_60 ?_
    refine g_iret dX9_birth_61 rfl ?_
    exact leafN (fun z => by first | exact h57 z.2.2.2.2.2 | exact h34 z.2.2.2.2.1 | exact h26 z.2.2.2.1 | exact h18 z.2.2.1 | exact h11 z.2.1 | exact h4 z.1)
  · refine g_iload_n dX9_birth_7 rfl rfl ?_
    refine g_callSr dX9_birth_8 lX9_74 (w_X9_isSex (by omega) (by omega)) rfl rfl (Nat.le_of_ble_eq_true rfl) ?_
    refine g_if_eqB (tgt := 41) dX9_birth_11 rfl (fun h11 => ?_) (fun h11 => ?_)
    · refine g_iconst dX9_birth_41 ?_
      refine g_istore (ls' := [some _, some _, some _, some _, _, some _, _, some _, _, some _]) dX9_birth_42 (by decide) rfl ?_
      refine g_iload dX9_birth_44 rfl ?_
      refine g_if_eq (tgt := 60) dX9_birth_46 rfl (fun _ => ?_) (fun h46 => absurd (by decide) h46)
      refine g_iconst dX9_birth_60 ?_
      refine g_iret dX9_birth_61 rfl ?_
      exact leafN (fun z => by first | exact h57 z.2.2.2.2.2 | exact h34 z.2.2.2.2.1 | exact h26 z.2.2.2.1 | exact h18 z.2.2.1 | exact h11 z.2.1 | exact h4 z.1)
    · refine g_lload_n dX9_birth_14 rfl rfl ?_
      refine g_callSr dX9_birth_15 lX9_77 (w_X3_isName) rfl rfl (Nat.le_of_ble_eq_true rfl) ?_
      refine g_if_eqB (tgt := 41) dX9_birth_18 rfl (fun h18 => ?_) (fun h18 => ?_)
      · refine g_iconst dX9_birth_41 ?_
        refine g_istore (ls' := [some _, some _, some _, some _, _, some _, _, some _, _, some _]) dX9_birth_42 (by decide) rfl ?_
        refine g_iload dX9_birth_44 rfl ?_
        refine g_if_eq (tgt := 60) dX9_birth_46 rfl (fun _ => ?_) (fun h46 => absurd (by decide) h46)
        refine g_iconst dX9_birth_60 ?_
        refine g_iret dX9_birth_61 rfl ?_
        exact leafN (fun z => by first | exact h57 z.2.2.2.2.2 | exact h34 z.2.2.2.2.1 | exact h26 z.2.2.2.1 | exact h18 z.2.2.1 | exact h11 z.2.1 | exact h4 z.1)
      · refine g_lload dX9_birth_21 rfl ?_
        refine g_callSr dX9_birth_23 lX9_77 (w_X3_isName) rfl rfl (Nat.le_of_ble_eq_true rfl) ?_
        refine g_if_eqB (tgt := 41) dX9_birth_26 rfl (fun h26 => ?_) (fun h26 => ?_)
        · refine g_iconst dX9_birth_41 ?_
          refine g_istore (ls' := [some _, some _, some _, some _, _, some _, _, some _, _, some _]) dX9_birth_42 (by decide) rfl ?_
          refine g_iload dX9_birth_44 rfl ?_
          refine g_if_eq (tgt := 60) dX9_birth_46 rfl (fun _ => ?_) (fun h46 => absurd (by decide) h46)
          refine g_iconst dX9_birth_60 ?_
          refine g_iret dX9_birth_61 rfl ?_
          exact leafN (fun z => by first | exact h57 z.2.2.2.2.2 | exact h34 z.2.2.2.2.1 | exact h26 z.2.2.2.1 | exact h18 z.2.2.1 | exact h11 z.2.1 | exact h4 z.1)
        · refine g_lload dX9_birth_29 rfl ?_
          refine g_callSr dX9_birth_31 lX9_77 (w_X3_isName) rfl rfl (Nat.le_of_ble_eq_true rfl) ?_
          refine g_if_eqB (tgt := 41) dX9_birth_34 rfl (fun h34 => ?_) (fun h34 => ?_)
          · refine g_iconst dX9_birth_41 ?_
            refine g_istore (ls' := [some _, some _, some _, some _, _, some _, _, some _, _, some _]) dX9_birth_42 (by decide) rfl ?_
            refine g_iload dX9_birth_44 rfl ?_
            refine g_if_eq (tgt := 60) dX9_birth_46 rfl (fun _ => ?_) (fun h46 => absurd (by decide) h46)
            refine g_iconst dX9_birth_60 ?_
            refine g_iret dX9_birth_61 rfl ?_
            exact leafN (fun z => by first | exact h57 z.2.2.2.2.2 | exact h34 z.2.2.2.2.1 | exact h26 z.2.2.2.1 | exact h18 z.2.2.1 | exact h11 z.2.1 | exact h4 z.1)
          · refine g_iconst dX9_birth_37 ?_
            refine g_goto (tgt := 42) dX9_birth_38 rfl ?_
            refine g_istore (ls' := [some _, some _, some _, some _, _, some _, _, some _, _, some _]) dX9_birth_42 (by decide) rfl ?_
            refine g_iload dX9_birth_44 rfl ?_
            refine g_if_eq (tgt := 60) dX9_birth_46 rfl (fun h46 => absurd h46 (by decide)) (fun _ => ?_)
            refine g_aload_n dX9_birth_49 rfl rfl ?_
            refine g_getr dX9_birth_50 fX9_12 rfl rfl ?_
            refine g_iconst dX9_birth_53 ?_
            refine g_callVr dX9_birth_54 lX9_83 (w_X0_hasSpace (by omega) (by omega) hR0 hR8 hN0 hN14) rfl rfl rfl rfl (Nat.le_of_ble_eq_true rfl) ?_
            refine g_if_neB (tgt := 62) dX9_birth_57 rfl (fun h57 => ?_) (fun h57 => ?_)
            · refine g_aload_n dX9_birth_62 rfl rfl ?_
              refine g_getr dX9_birth_63 fX9_12 rfl rfl ?_
              refine g_iload_n dX9_birth_66 rfl rfl ?_
              refine g_iconst dX9_birth_67 ?_
              refine g_callVr dX9_birth_68 lX9_86 (w_X0_open hR0 hR8 hN0 hN14 (by omega)) rfl rfl rfl rfl (Nat.le_of_ble_eq_true rfl) ?_
              refine g_aload_n dX9_birth_71 rfl rfl ?_
              refine g_getr dX9_birth_72 fX9_12 rfl rfl ?_
              refine g_iconst dX9_birth_75 ?_
              refine g_iload_n dX9_birth_76 rfl rfl ?_
              refine g_lload_n dX9_birth_77 rfl rfl ?_
              refine g_iconst dX9_birth_78 ?_
              refine g_callVr dX9_birth_79 lX9_90 (w_X0_add (M := (openM M y (-1))) (by show 0 ≤ M.1 1 10 + 1; omega) (by show M.1 1 10 + 1 ≤ 8; omega) (by show 0 ≤ M.1 1 11; omega) (by show M.1 1 11 ≤ 14; omega) (by show 1 ≤ M.1 1 10 + 1; omega) (by show M.1 1 11 < 14; omega)) rfl rfl rfl rfl (Nat.le_of_ble_eq_true rfl) ?_
              refine g_aload_n dX9_birth_82 rfl rfl ?_
              refine g_getr dX9_birth_83 fX9_12 rfl rfl ?_
              refine g_iconst dX9_birth_86 ?_
              refine g_iconst dX9_birth_87 ?_
              refine g_lload dX9_birth_88 rfl ?_
              refine g_iconst dX9_birth_90 ?_
              refine g_callVr dX9_birth_91 lX9_90 (w_X0_add (M := addM (openM M y (-1)) 0 s c (-1)) (by show 0 ≤ M.1 1 10 + 1; omega) (by show M.1 1 10 + 1 ≤ 8; omega) (by show 0 ≤ M.1 1 11 + 1; omega) (by show M.1 1 11 + 1 ≤ 14; omega) (by show 1 ≤ M.1 1 10 + 1; omega) (by show M.1 1 11 + 1 < 14; omega)) rfl rfl rfl rfl (Nat.le_of_ble_eq_true rfl) ?_
              refine g_aload_n dX9_birth_94 rfl rfl ?_
              refine g_getr dX9_birth_95 fX9_12 rfl rfl ?_
              refine g_iconst dX9_birth_98 ?_
              refine g_iconst dX9_birth_99 ?_
              refine g_lload dX9_birth_100 rfl ?_
              refine g_iconst dX9_birth_102 ?_
              refine g_callVr dX9_birth_103 lX9_90 (w_X0_add (M := addM (addM (openM M y (-1)) 0 s c (-1)) 1 1 m (-1)) (by show 0 ≤ M.1 1 10 + 1; omega) (by show M.1 1 10 + 1 ≤ 8; omega) (by show 0 ≤ M.1 1 11 + 1 + 1; omega) (by show M.1 1 11 + 1 + 1 ≤ 14; omega) (by show 1 ≤ M.1 1 10 + 1; omega) (by show M.1 1 11 + 1 + 1 < 14; omega)) rfl rfl rfl rfl (Nat.le_of_ble_eq_true rfl) ?_
              refine g_aload_n dX9_birth_106 rfl rfl ?_
              refine g_callVr dX9_birth_107 lX9_94 (w_X9_closeRecord) rfl rfl rfl rfl (Nat.le_of_ble_eq_true rfl) ?_
              refine g_iret dX9_birth_110 rfl ?_
              exact leafY ⟨h4, h11, h18, h26, h34, h57⟩ (by show M.1 1 10 + 1 - 1 = _; omega)
            · refine g_iconst dX9_birth_60 ?_
              refine g_iret dX9_birth_61 rfl ?_
              exact leafN (fun z => by first | exact h57 z.2.2.2.2.2 | exact h34 z.2.2.2.2.1 | exact h26 z.2.2.2.1 | exact h18 z.2.2.1 | exact h11 z.2.1 | exact h4 z.1)

theorem w_X9_wedding {d : Nat} {M : Mem} {y : Int} {c m : Int64} (y1 : -2147483648 ≤ y) (y2 : y < 2147483648) (hR0 : 0 ≤ M.1 1 10) (hR8 : M.1 1 10 ≤ 8) (hN0 : 0 ≤ M.1 1 11) (hN14 : M.1 1 11 ≤ 14) : WP wdC (d + 3) mX9_wedding [vr 0, vi y, vl c, vl m] M (Ret (some (vi (if weddingOK M y c m then M.1 1 10 else -1))) (if weddingOK M y c m then weddingM M y c m else M)) := by
  refine wp_of (by decide +kernel) (Nat.le_of_ble_eq_true rfl) ?_
  refine g_iload_n dX9_wedding_0 rfl rfl ?_
  refine g_callSr dX9_wedding_1 lX9_70 (w_X9_isYear (by omega) (by omega)) rfl rfl (Nat.le_of_ble_eq_true rfl) ?_
  refine g_if_eqB (tgt := 26) dX9_wedding_4 rfl (fun h4 => ?_) (fun h4 => ?_)
  · refine g_iconst dX9_wedding_26 ?_
    refine g_istore (ls' := [some _, some _, some _, _, some _, _, some _]) dX9_wedding_27 (by decide) rfl ?_
    refine g_iload dX9_wedding_29 rfl ?_
    refine g_if_eq (tgt := 45) dX9_wedding_31 rfl (fun _ => ?_) (fun h31 => absurd (by decide) h31)
    refine g_iconst dX9_wedding_45 ?_
    refine g_iret dX9_wedding_46 rfl ?_
    exact leafN (fun z => by first | exact h42 z.2.2.2 | exact h19 z.2.2.1 | exact h11 z.2.1 | exact h4 z.1)
  · refine g_lload_n dX9_wedding_7 rfl rfl ?_
    refine g_callSr dX9_wedding_8 lX9_77 (w_X3_isName) rfl rfl (Nat.le_of_ble_eq_true rfl) ?_
    refine g_if_eqB (tgt := 26) dX9_wedding_11 rfl (fun h11 => ?_) (fun h11 => ?_)
    · refine g_iconst dX9_wedding_26 ?_
      refine g_istore (ls' := [some _, some _, some _, _, some _, _, some _]) dX9_wedding_27 (by decide) rfl ?_
      refine g_iload dX9_wedding_29 rfl ?_
      refine g_if_eq (tgt := 45) dX9_wedding_31 rfl (fun _ => ?_) (fun h31 => absurd (by decide) h31)
      refine g_iconst dX9_wedding_45 ?_
      refine g_iret dX9_wedding_46 rfl ?_
      exact leafN (fun z => by first | exact h42 z.2.2.2 | exact h19 z.2.2.1 | exact h11 z.2.1 | exact h4 z.1)
    · refine g_lload dX9_wedding_14 rfl ?_
      refine g_callSr dX9_wedding_16 lX9_77 (w_X3_isName) rfl rfl (Nat.le_of_ble_eq_true rfl) ?_
      refine g_if_eqB (tgt := 26) dX9_wedding_19 rfl (fun h19 => ?_) (fun h19 => ?_)
      · refine g_iconst dX9_wedding_26 ?_
        refine g_istore (ls' := [some _, some _, some _, _, some _, _, some _]) dX9_wedding_27 (by decide) rfl ?_
        refine g_iload dX9_wedding_29 rfl ?_
        refine g_if_eq (tgt := 45) dX9_wedding_31 rfl (fun _ => ?_) (fun h31 => absurd (by decide) h31)
        refine g_iconst dX9_wedding_45 ?_
        refine g_iret dX9_wedding_46 rfl ?_
        exact leafN (fun z => by first | exact h42 z.2.2.2 | exact h19 z.2.2.1 | exact h11 z.2.1 | exact h4 z.1)
      · refine g_iconst dX9_wedding_22 ?_
        refine g_goto (tgt := 27) dX9_wedding_23 rfl ?_
        refine g_istore (ls' := [some _, some _, some _, _, some _, _, some _]) dX9_wedding_27 (by decide) rfl ?_
        refine g_iload dX9_wedding_29 rfl ?_
        refine g_if_eq (tgt := 45) dX9_wedding_31 rfl (fun h31 => absurd h31 (by decide)) (fun _ => ?_)
        refine g_aload_n dX9_wedding_34 rfl rfl ?_
        refine g_getr dX9_wedding_35 fX9_12 rfl rfl ?_
        refine g_iconst dX9_wedding_38 ?_
        refine g_callVr dX9_wedding_39 lX9_83 (w_X0_hasSpace (by omega) (by omega) hR0 hR8 hN0 hN14) rfl rfl rfl rfl (Nat.le_of_ble_eq_true rfl) ?_
        refine g_if_neB (tgt := 47) dX9_wedding_42 rfl (fun h42 => ?_) (fun h42 => ?_)
        · refine g_aload_n dX9_wedding_47 rfl rfl ?_
          refine g_getr dX9_wedding_48 fX9_12 rfl rfl ?_
          refine g_iload_n dX9_wedding_51 rfl rfl ?_
          refine g_iconst dX9_wedding_52 ?_
          refine g_callVr dX9_wedding_53 lX9_86 (w_X0_open hR0 hR8 hN0 hN14 (by omega)) rfl rfl rfl rfl (Nat.le_of_ble_eq_true rfl) ?_
          refine g_aload_n dX9_wedding_56 rfl rfl ?_
          refine g_getr dX9_wedding_57 fX9_12 rfl rfl ?_
          refine g_iconst dX9_wedding_60 ?_
          refine g_iconst dX9_wedding_61 ?_
          refine g_lload_n dX9_wedding_62 rfl rfl ?_
          refine g_iconst dX9_wedding_63 ?_
          refine g_callVr dX9_wedding_64 lX9_90 (w_X0_add (M := (openM M y (-1))) (by show 0 ≤ M.1 1 10 + 1; omega) (by show M.1 1 10 + 1 ≤ 8; omega) (by show 0 ≤ M.1 1 11; omega) (by show M.1 1 11 ≤ 14; omega) (by show 1 ≤ M.1 1 10 + 1; omega) (by show M.1 1 11 < 14; omega)) rfl rfl rfl rfl (Nat.le_of_ble_eq_true rfl) ?_
          refine g_aload_n dX9_wedding_67 rfl rfl ?_
          refine g_getr dX9_wedding_68 fX9_12 rfl rfl ?_
          refine g_iconst dX9_wedding_71 ?_
          refine g_iconst dX9_wedding_72 ?_
          refine g_lload dX9_wedding_73 rfl ?_
          refine g_iconst dX9_wedding_75 ?_
          refine g_callVr dX9_wedding_76 lX9_90 (w_X0_add (M := addM (openM M y (-1)) 3 1 c (-1)) (by show 0 ≤ M.1 1 10 + 1; omega) (by show M.1 1 10 + 1 ≤ 8; omega) (by show 0 ≤ M.1 1 11 + 1; omega) (by show M.1 1 11 + 1 ≤ 14; omega) (by show 1 ≤ M.1 1 10 + 1; omega) (by show M.1 1 11 + 1 < 14; omega)) rfl rfl rfl rfl (Nat.le_of_ble_eq_true rfl) ?_
          refine g_aload_n dX9_wedding_79 rfl rfl ?_
          refine g_callVr dX9_wedding_80 lX9_94 (w_X9_closeRecord) rfl rfl rfl rfl (Nat.le_of_ble_eq_true rfl) ?_
          refine g_iret dX9_wedding_83 rfl ?_
          exact leafY ⟨h4, h11, h19, h42⟩ (by show M.1 1 10 + 1 - 1 = _; omega)
        · refine g_iconst dX9_wedding_45 ?_
          refine g_iret dX9_wedding_46 rfl ?_
          exact leafN (fun z => by first | exact h42 z.2.2.2 | exact h19 z.2.2.1 | exact h11 z.2.1 | exact h4 z.1)

theorem w_X9_single {d : Nat} {M : Mem} {k y s a : Int} {n : Int64} (y1 : -2147483648 ≤ y) (y2 : y < 2147483648) (s1 : -2147483648 ≤ s) (s2 : s < 2147483648) (a1 : -2147483648 ≤ a) (a2 : a < 2147483648) (hR0 : 0 ≤ M.1 1 10) (hR8 : M.1 1 10 ≤ 8) (hN0 : 0 ≤ M.1 1 11) (hN14 : M.1 1 11 ≤ 14) : WP wdC (d + 3) mX9_single [vr 0, vi k, vi y, vi s, vl n, vi a] M (Ret (some (vi (if singleOK M y s n a then M.1 1 10 else -1))) (if singleOK M y s n a then singleM M k y s n a else M)) := by
  refine wp_of (by decide +kernel) (Nat.le_of_ble_eq_true rfl) ?_
  refine g_iload_n dX9_single_0 rfl rfl ?_
  refine g_callSr dX9_single_1 lX9_70 (w_X9_isYear (by omega) (by omega)) rfl rfl (Nat.le_of_ble_eq_true rfl) ?_
  refine g_if_eqB (tgt := 40) dX9_single_4 rfl (fun h4 => ?_) (fun h4 => ?_)
  · refine g_iconst dX9_single_40 ?_
    refine g_istore (ls' := [some _, some _, some _, some _, some _, _, some _, some _]) dX9_single_41 (by decide) rfl ?_
    refine g_iload dX9_single_43 rfl ?_
    refine g_if_eq (tgt := 59) dX9_single_45 rfl (fun _ => ?_) (fun h45 => absurd (by decide) h45)
    refine g_iconst dX9_single_59 ?_
    refine g_iret dX9_single_60 rfl ?_
    exact leafN (fun z => by first | exact h56 z.2.2.2.2 | exact h33 (by have := z.2.2.2.1; omega) | exact h19 z.2.2.1 | exact h11 z.2.1 | exact h4 z.1)
  · refine g_iload_n dX9_single_7 rfl rfl ?_
    refine g_callSr dX9_single_8 lX9_74 (w_X9_isSex (by omega) (by omega)) rfl rfl (Nat.le_of_ble_eq_true rfl) ?_
    refine g_if_eqB (tgt := 40) dX9_single_11 rfl (fun h11 => ?_) (fun h11 => ?_)
    · refine g_iconst dX9_single_40 ?_
      refine g_istore (ls' := [some _, some _, some _, some _, some _, _, some _, some _]) dX9_single_41 (by decide) rfl ?_
      refine g_iload dX9_single_43 rfl ?_
      refine g_if_eq (tgt := 59) dX9_single_45 rfl (fun _ => ?_) (fun h45 => absurd (by decide) h45)
      refine g_iconst dX9_single_59 ?_
      refine g_iret dX9_single_60 rfl ?_
      exact leafN (fun z => by first | exact h56 z.2.2.2.2 | exact h33 (by have := z.2.2.2.1; omega) | exact h19 z.2.2.1 | exact h11 z.2.1 | exact h4 z.1)
    · refine g_lload dX9_single_14 rfl ?_
      refine g_callSr dX9_single_16 lX9_77 (w_X3_isName) rfl rfl (Nat.le_of_ble_eq_true rfl) ?_
      refine g_if_eqB (tgt := 40) dX9_single_19 rfl (fun h19 => ?_) (fun h19 => ?_)
      · refine g_iconst dX9_single_40 ?_
        refine g_istore (ls' := [some _, some _, some _, some _, some _, _, some _, some _]) dX9_single_41 (by decide) rfl ?_
        refine g_iload dX9_single_43 rfl ?_
        refine g_if_eq (tgt := 59) dX9_single_45 rfl (fun _ => ?_) (fun h45 => absurd (by decide) h45)
        refine g_iconst dX9_single_59 ?_
        refine g_iret dX9_single_60 rfl ?_
        exact leafN (fun z => by first | exact h56 z.2.2.2.2 | exact h33 (by have := z.2.2.2.1; omega) | exact h19 z.2.2.1 | exact h11 z.2.1 | exact h4 z.1)
      · refine g_iload dX9_single_22 rfl ?_
        refine g_iconst dX9_single_24 ?_
        refine g_icmp_eq (tgt := 36) dX9_single_25 rfl (fun h25 => ?_) (fun h25 => ?_)
        · refine g_iconst dX9_single_36 ?_
          refine g_goto (tgt := 41) dX9_single_37 rfl ?_
          refine g_istore (ls' := [some _, some _, some _, some _, some _, _, some _, some _]) dX9_single_41 (by decide) rfl ?_
          refine g_iload dX9_single_43 rfl ?_
          refine g_if_eq (tgt := 59) dX9_single_45 rfl (fun h45 => absurd h45 (by decide)) (fun _ => ?_)
          refine g_aload_n dX9_single_48 rfl rfl ?_
          refine g_getr dX9_single_49 fX9_12 rfl rfl ?_
          refine g_iconst dX9_single_52 ?_
          refine g_callVr dX9_single_53 lX9_83 (w_X0_hasSpace (by omega) (by omega) hR0 hR8 hN0 hN14) rfl rfl rfl rfl (Nat.le_of_ble_eq_true rfl) ?_
          refine g_if_neB (tgt := 61) dX9_single_56 rfl (fun h56 => ?_) (fun h56 => ?_)
          · refine g_aload_n dX9_single_61 rfl rfl ?_
            refine g_getr dX9_single_62 fX9_12 rfl rfl ?_
            refine g_iload_n dX9_single_65 rfl rfl ?_
            refine g_iconst dX9_single_66 ?_
            refine g_callVr dX9_single_67 lX9_86 (w_X0_open hR0 hR8 hN0 hN14 (by omega)) rfl rfl rfl rfl (Nat.le_of_ble_eq_true rfl) ?_
            refine g_aload_n dX9_single_70 rfl rfl ?_
            refine g_getr dX9_single_71 fX9_12 rfl rfl ?_
            refine g_iload_n dX9_single_74 rfl rfl ?_
            refine g_iload_n dX9_single_75 rfl rfl ?_
            refine g_lload dX9_single_76 rfl ?_
            refine g_iload dX9_single_78 rfl ?_
            refine g_callVr dX9_single_80 lX9_90 (w_X0_add (M := (openM M y (-1))) (by show 0 ≤ M.1 1 10 + 1; omega) (by show M.1 1 10 + 1 ≤ 8; omega) (by show 0 ≤ M.1 1 11; omega) (by show M.1 1 11 ≤ 14; omega) (by show 1 ≤ M.1 1 10 + 1; omega) (by show M.1 1 11 < 14; omega)) rfl rfl rfl rfl (Nat.le_of_ble_eq_true rfl) ?_
            refine g_aload_n dX9_single_83 rfl rfl ?_
            refine g_callVr dX9_single_84 lX9_94 (w_X9_closeRecord) rfl rfl rfl rfl (Nat.le_of_ble_eq_true rfl) ?_
            refine g_iret dX9_single_87 rfl ?_
            exact leafY ⟨h4, h11, h19, by omega, h56⟩ (by show M.1 1 10 + 1 - 1 = _; omega)
          · refine g_iconst dX9_single_59 ?_
            refine g_iret dX9_single_60 rfl ?_
            exact leafN (fun z => by first | exact h56 z.2.2.2.2 | exact h33 (by have := z.2.2.2.1; omega) | exact h19 z.2.2.1 | exact h11 z.2.1 | exact h4 z.1)
        · refine g_iload dX9_single_28 rfl ?_
          refine g_callSr dX9_single_30 lX9_247 (w_X9_isAge (by omega) (by omega)) rfl rfl (Nat.le_of_ble_eq_true rfl) ?_
          refine g_if_eqB (tgt := 40) dX9_single_33 rfl (fun h33 => ?_) (fun h33 => ?_)
          · refine g_iconst dX9_single_40 ?_
            refine g_istore (ls' := [some _, some _, some _, some _, some _, _, some _, some _]) dX9_single_41 (by decide) rfl ?_
            refine g_iload dX9_single_43 rfl ?_
            refine g_if_eq (tgt := 59) dX9_single_45 rfl (fun _ => ?_) (fun h45 => absurd (by decide) h45)
            refine g_iconst dX9_single_59 ?_
            refine g_iret dX9_single_60 rfl ?_
            exact leafN (fun z => by first | exact h56 z.2.2.2.2 | exact h33 (by have := z.2.2.2.1; omega) | exact h19 z.2.2.1 | exact h11 z.2.1 | exact h4 z.1)
          · refine g_iconst dX9_single_36 ?_
            refine g_goto (tgt := 41) dX9_single_37 rfl ?_
            refine g_istore (ls' := [some _, some _, some _, some _, some _, _, some _, some _]) dX9_single_41 (by decide) rfl ?_
            refine g_iload dX9_single_43 rfl ?_
            refine g_if_eq (tgt := 59) dX9_single_45 rfl (fun h45 => absurd h45 (by decide)) (fun _ => ?_)
            refine g_aload_n dX9_single_48 rfl rfl ?_
            refine g_getr dX9_single_49 fX9_12 rfl rfl ?_
            refine g_iconst dX9_single_52 ?_
            refine g_callVr dX9_single_53 lX9_83 (w_X0_hasSpace (by omega) (by omega) hR0 hR8 hN0 hN14) rfl rfl rfl rfl (Nat.le_of_ble_eq_true rfl) ?_
            refine g_if_neB (tgt := 61) dX9_single_56 rfl (fun h56 => ?_) (fun h56 => ?_)
            · refine g_aload_n dX9_single_61 rfl rfl ?_
              refine g_getr dX9_single_62 fX9_12 rfl rfl ?_
              refine g_iload_n dX9_single_65 rfl rfl ?_
              refine g_iconst dX9_single_66 ?_
              refine g_callVr dX9_single_67 lX9_86 (w_X0_open hR0 hR8 hN0 hN14 (by omega)) rfl rfl rfl rfl (Nat.le_of_ble_eq_true rfl) ?_
              refine g_aload_n dX9_single_70 rfl rfl ?_
              refine g_getr dX9_single_71 fX9_12 rfl rfl ?_
              refine g_iload_n dX9_single_74 rfl rfl ?_
              refine g_iload_n dX9_single_75 rfl rfl ?_
              refine g_lload dX9_single_76 rfl ?_
              refine g_iload dX9_single_78 rfl ?_
              refine g_callVr dX9_single_80 lX9_90 (w_X0_add (M := (openM M y (-1))) (by show 0 ≤ M.1 1 10 + 1; omega) (by show M.1 1 10 + 1 ≤ 8; omega) (by show 0 ≤ M.1 1 11; omega) (by show M.1 1 11 ≤ 14; omega) (by show 1 ≤ M.1 1 10 + 1; omega) (by show M.1 1 11 < 14; omega)) rfl rfl rfl rfl (Nat.le_of_ble_eq_true rfl) ?_
              refine g_aload_n dX9_single_83 rfl rfl ?_
              refine g_callVr dX9_single_84 lX9_94 (w_X9_closeRecord) rfl rfl rfl rfl (Nat.le_of_ble_eq_true rfl) ?_
              refine g_iret dX9_single_87 rfl ?_
              exact leafY ⟨h4, h11, h19, by omega, h56⟩ (by show M.1 1 10 + 1 - 1 = _; omega)
            · refine g_iconst dX9_single_59 ?_
              refine g_iret dX9_single_60 rfl ?_
              exact leafN (fun z => by first | exact h56 z.2.2.2.2 | exact h33 (by have := z.2.2.2.1; omega) | exact h19 z.2.2.1 | exact h11 z.2.1 | exact h4 z.1)

theorem w_X9_found {d : Nat} {M : Mem} {y s : Int} {n : Int64} (y1 : -2147483648 ≤ y) (y2 : y < 2147483648) (s1 : -2147483648 ≤ s) (s2 : s < 2147483648) (hR0 : 0 ≤ M.1 1 10) (hR8 : M.1 1 10 ≤ 8) (hN0 : 0 ≤ M.1 1 11) (hN14 : M.1 1 11 ≤ 14) : WP wdC (d + 4) mX9_found [vr 0, vi y, vi s, vl n] M (Ret (some (vi (if singleOK M y s n (-1) then M.1 1 10 else -1))) (if singleOK M y s n (-1) then singleM M 0 y s n (-1) else M)) := by
  refine wp_of (by decide +kernel) (Nat.le_of_ble_eq_true rfl) ?_
  refine g_aload_n dX9_found_0 rfl rfl ?_
  refine g_iconst dX9_found_1 ?_
  refine g_iload_n dX9_found_2 rfl rfl ?_
  refine g_iload_n dX9_found_3 rfl rfl ?_
  refine g_lload_n dX9_found_4 rfl rfl ?_
  refine g_iconst dX9_found_5 ?_
  refine g_callVr dX9_found_6 lX9_98 (w_X9_single y1 y2 s1 s2 (by omega) (by omega) hR0 hR8 hN0 hN14) rfl rfl rfl rfl (Nat.le_of_ble_eq_true rfl) ?_
  refine g_iret dX9_found_9 rfl ?_
  exact ⟨rfl, rfl⟩

theorem w_X9_death {d : Nat} {M : Mem} {y s a : Int} {n : Int64} (y1 : -2147483648 ≤ y) (y2 : y < 2147483648) (s1 : -2147483648 ≤ s) (s2 : s < 2147483648) (a1 : -2147483648 ≤ a) (a2 : a < 2147483648) (hR0 : 0 ≤ M.1 1 10) (hR8 : M.1 1 10 ≤ 8) (hN0 : 0 ≤ M.1 1 11) (hN14 : M.1 1 11 ≤ 14) : WP wdC (d + 4) mX9_death [vr 0, vi y, vi s, vl n, vi a] M (Ret (some (vi (if singleOK M y s n (a) then M.1 1 10 else -1))) (if singleOK M y s n (a) then singleM M 5 y s n (a) else M)) := by
  refine wp_of (by decide +kernel) (Nat.le_of_ble_eq_true rfl) ?_
  refine g_aload_n dX9_death_0 rfl rfl ?_
  refine g_iconst dX9_death_1 ?_
  refine g_iload_n dX9_death_2 rfl rfl ?_
  refine g_iload_n dX9_death_3 rfl rfl ?_
  refine g_lload_n dX9_death_4 rfl rfl ?_
  refine g_iload dX9_death_5 rfl ?_
  refine g_callVr dX9_death_7 lX9_98 (w_X9_single y1 y2 s1 s2 a1 a2 hR0 hR8 hN0 hN14) rfl rfl rfl rfl (Nat.le_of_ble_eq_true rfl) ?_
  refine g_iret dX9_death_10 rfl ?_
  exact ⟨rfl, rfl⟩

theorem w_X9_list {d : Nat} {M : Mem} {y s a : Int} {n : Int64} (y1 : -2147483648 ≤ y) (y2 : y < 2147483648) (s1 : -2147483648 ≤ s) (s2 : s < 2147483648) (a1 : -2147483648 ≤ a) (a2 : a < 2147483648) (hR0 : 0 ≤ M.1 1 10) (hR8 : M.1 1 10 ≤ 8) (hN0 : 0 ≤ M.1 1 11) (hN14 : M.1 1 11 ≤ 14) : WP wdC (d + 4) mX9_list [vr 0, vi y, vi s, vl n, vi a] M (Ret (some (vi (if singleOK M y s n (a) then M.1 1 10 else -1))) (if singleOK M y s n (a) then singleM M 6 y s n (a) else M)) := by
  refine wp_of (by decide +kernel) (Nat.le_of_ble_eq_true rfl) ?_
  refine g_aload_n dX9_list_0 rfl rfl ?_
  refine g_bipush dX9_list_1 rfl ?_
  refine g_iload_n dX9_list_3 rfl rfl ?_
  refine g_iload_n dX9_list_4 rfl rfl ?_
  refine g_lload_n dX9_list_5 rfl rfl ?_
  refine g_iload dX9_list_6 rfl ?_
  refine g_callVr dX9_list_8 lX9_98 (w_X9_single y1 y2 s1 s2 a1 a2 hR0 hR8 hN0 hN14) rfl rfl rfl rfl (Nat.le_of_ble_eq_true rfl) ?_
  refine g_iret dX9_list_11 rfl ?_
  exact ⟨rfl, rfl⟩

theorem w_X9_witness1 {d : Nat} {M : Mem} {y s : Int} {n m : Int64} (y1 : -2147483648 ≤ y) (y2 : y < 2147483648) (s1 : -2147483648 ≤ s) (s2 : s < 2147483648) (hR0 : 0 ≤ M.1 1 10) (hR8 : M.1 1 10 ≤ 8) (hN0 : 0 ≤ M.1 1 11) (hN14 : M.1 1 11 ≤ 14) : WP wdC (d + 4) mX9_witness [vr 0, vi y, vi s, vl n, vi (-1), vl m] M (Ret (some (vi (if singleOK M y s n (-1) then M.1 1 10 else -1))) (if singleOK M y s n (-1) then singleM M 7 y s n (-1) else M)) := by
  refine wp_of (by decide +kernel) (Nat.le_of_ble_eq_true rfl) ?_
  refine g_iload dX9_witness_0 rfl ?_
  refine g_iconst dX9_witness_2 ?_
  refine g_icmp_ne (tgt := 17) dX9_witness_3 rfl (fun h3 => ?_) (fun h3 => ?_)
  · exact absurd rfl h3
  · refine g_aload_n dX9_witness_6 rfl rfl ?_
    refine g_bipush dX9_witness_7 rfl ?_
    refine g_iload_n dX9_witness_9 rfl rfl ?_
    refine g_iload_n dX9_witness_10 rfl rfl ?_
    refine g_lload_n dX9_witness_11 rfl rfl ?_
    refine g_iconst dX9_witness_12 ?_
    refine g_callVr dX9_witness_13 lX9_98 (w_X9_single y1 y2 s1 s2 (by omega) (by omega) hR0 hR8 hN0 hN14) rfl rfl rfl rfl (Nat.le_of_ble_eq_true rfl) ?_
    refine g_iret dX9_witness_16 rfl ?_
    exact ⟨rfl, rfl⟩

theorem w_X9_witness {d : Nat} {M : Mem} {y s t : Int} {c m : Int64} (ht : t ≠ -1) (y1 : -2147483648 ≤ y) (y2 : y < 2147483648) (s1 : -2147483648 ≤ s) (s2 : s < 2147483648) (t1 : -2147483648 ≤ t) (t2 : t < 2147483648) (hR0 : 0 ≤ M.1 1 10) (hR8 : M.1 1 10 ≤ 8) (hN0 : 0 ≤ M.1 1 11) (hN14 : M.1 1 11 ≤ 14) : WP wdC (d + 3) mX9_witness [vr 0, vi y, vi s, vl c, vi t, vl m] M (Ret (some (vi (if twoOK M y s t c m then M.1 1 10 else -1))) (if twoOK M y s t c m then twoM M y s t c m else M)) := by
  refine wp_of (by decide +kernel) (Nat.le_of_ble_eq_true rfl) ?_
  refine g_iload dX9_witness_0 rfl ?_
  refine g_iconst dX9_witness_2 ?_
  refine g_icmp_ne (tgt := 17) dX9_witness_3 rfl (fun h3 => ?_) (fun h3 => ?_)
  · refine g_iload_n dX9_witness_17 rfl rfl ?_
    refine g_callSr dX9_witness_18 lX9_70 (w_X9_isYear (by omega) (by omega)) rfl rfl (Nat.le_of_ble_eq_true rfl) ?_
    refine g_if_eqB (tgt := 58) dX9_witness_21 rfl (fun h21 => ?_) (fun h21 => ?_)
    · refine g_iconst dX9_witness_58 ?_
      refine g_istore (ls' := [some _, some _, some _, some _, _, some _, some _, _, some _]) dX9_witness_59 (by decide) rfl ?_
      refine g_iload dX9_witness_61 rfl ?_
      refine g_if_eq (tgt := 77) dX9_witness_63 rfl (fun _ => ?_) (fun h63 => absurd (by decide) h63)
      refine g_iconst dX9_witness_77 ?_
      refine g_iret dX9_witness_78 rfl ?_
      exact leafN (fun z => by first | exact h74 z.2.2.2.2.2 | exact h51 z.2.2.2.2.1 | exact h43 z.2.2.2.1 | exact h36 z.2.2.1 | exact h28 z.2.1 | exact h21 z.1)
    · refine g_iload_n dX9_witness_24 rfl rfl ?_
      refine g_callSr dX9_witness_25 lX9_74 (w_X9_isSex (by omega) (by omega)) rfl rfl (Nat.le_of_ble_eq_true rfl) ?_
      refine g_if_eqB (tgt := 58) dX9_witness_28 rfl (fun h28 => ?_) (fun h28 => ?_)
      · refine g_iconst dX9_witness_58 ?_
        refine g_istore (ls' := [some _, some _, some _, some _, _, some _, some _, _, some _]) dX9_witness_59 (by decide) rfl ?_
        refine g_iload dX9_witness_61 rfl ?_
        refine g_if_eq (tgt := 77) dX9_witness_63 rfl (fun _ => ?_) (fun h63 => absurd (by decide) h63)
        refine g_iconst dX9_witness_77 ?_
        refine g_iret dX9_witness_78 rfl ?_
        exact leafN (fun z => by first | exact h74 z.2.2.2.2.2 | exact h51 z.2.2.2.2.1 | exact h43 z.2.2.2.1 | exact h36 z.2.2.1 | exact h28 z.2.1 | exact h21 z.1)
      · refine g_iload dX9_witness_31 rfl ?_
        refine g_callSr dX9_witness_33 lX9_74 (w_X9_isSex (by omega) (by omega)) rfl rfl (Nat.le_of_ble_eq_true rfl) ?_
        refine g_if_eqB (tgt := 58) dX9_witness_36 rfl (fun h36 => ?_) (fun h36 => ?_)
        · refine g_iconst dX9_witness_58 ?_
          refine g_istore (ls' := [some _, some _, some _, some _, _, some _, some _, _, some _]) dX9_witness_59 (by decide) rfl ?_
          refine g_iload dX9_witness_61 rfl ?_
          refine g_if_eq (tgt := 77) dX9_witness_63 rfl (fun _ => ?_) (fun h63 => absurd (by decide) h63)
          refine g_iconst dX9_witness_77 ?_
          refine g_iret dX9_witness_78 rfl ?_
          exact leafN (fun z => by first | exact h74 z.2.2.2.2.2 | exact h51 z.2.2.2.2.1 | exact h43 z.2.2.2.1 | exact h36 z.2.2.1 | exact h28 z.2.1 | exact h21 z.1)
        · refine g_lload_n dX9_witness_39 rfl rfl ?_
          refine g_callSr dX9_witness_40 lX9_77 (w_X3_isName) rfl rfl (Nat.le_of_ble_eq_true rfl) ?_
          refine g_if_eqB (tgt := 58) dX9_witness_43 rfl (fun h43 => ?_) (fun h43 => ?_)
          · refine g_iconst dX9_witness_58 ?_
            refine g_istore (ls' := [some _, some _, some _, some _, _, some _, some _, _, some _]) dX9_witness_59 (by decide) rfl ?_
            refine g_iload dX9_witness_61 rfl ?_
            refine g_if_eq (tgt := 77) dX9_witness_63 rfl (fun _ => ?_) (fun h63 => absurd (by decide) h63)
            refine g_iconst dX9_witness_77 ?_
            refine g_iret dX9_witness_78 rfl ?_
            exact leafN (fun z => by first | exact h74 z.2.2.2.2.2 | exact h51 z.2.2.2.2.1 | exact h43 z.2.2.2.1 | exact h36 z.2.2.1 | exact h28 z.2.1 | exact h21 z.1)
          · refine g_lload dX9_witness_46 rfl ?_
            refine g_callSr dX9_witness_48 lX9_77 (w_X3_isName) rfl rfl (Nat.le_of_ble_eq_true rfl) ?_
            refine g_if_eqB (tgt := 58) dX9_witness_51 rfl (fun h51 => ?_) (fun h51 => ?_)
            · refine g_iconst dX9_witness_58 ?_
              refine g_istore (ls' := [some _, some _, some _, some _, _, some _, some _, _, some _]) dX9_witness_59 (by decide) rfl ?_
              refine g_iload dX9_witness_61 rfl ?_
              refine g_if_eq (tgt := 77) dX9_witness_63 rfl (fun _ => ?_) (fun h63 => absurd (by decide) h63)
              refine g_iconst dX9_witness_77 ?_
              refine g_iret dX9_witness_78 rfl ?_
              exact leafN (fun z => by first | exact h74 z.2.2.2.2.2 | exact h51 z.2.2.2.2.1 | exact h43 z.2.2.2.1 | exact h36 z.2.2.1 | exact h28 z.2.1 | exact h21 z.1)
            · refine g_iconst dX9_witness_54 ?_
              refine g_goto (tgt := 59) dX9_witness_55 rfl ?_
              refine g_istore (ls' := [some _, some _, some _, some _, _, some _, some _, _, some _]) dX9_witness_59 (by decide) rfl ?_
              refine g_iload dX9_witness_61 rfl ?_
              refine g_if_eq (tgt := 77) dX9_witness_63 rfl (fun h63 => absurd h63 (by decide)) (fun _ => ?_)
              refine g_aload_n dX9_witness_66 rfl rfl ?_
              refine g_getr dX9_witness_67 fX9_12 rfl rfl ?_
              refine g_iconst dX9_witness_70 ?_
              refine g_callVr dX9_witness_71 lX9_83 (w_X0_hasSpace (by omega) (by omega) hR0 hR8 hN0 hN14) rfl rfl rfl rfl (Nat.le_of_ble_eq_true rfl) ?_
              refine g_if_neB (tgt := 79) dX9_witness_74 rfl (fun h74 => ?_) (fun h74 => ?_)
              · refine g_aload_n dX9_witness_79 rfl rfl ?_
                refine g_getr dX9_witness_80 fX9_12 rfl rfl ?_
                refine g_iload_n dX9_witness_83 rfl rfl ?_
                refine g_iconst dX9_witness_84 ?_
                refine g_callVr dX9_witness_85 lX9_86 (w_X0_open hR0 hR8 hN0 hN14 (by omega)) rfl rfl rfl rfl (Nat.le_of_ble_eq_true rfl) ?_
                refine g_aload_n dX9_witness_88 rfl rfl ?_
                refine g_getr dX9_witness_89 fX9_12 rfl rfl ?_
                refine g_bipush dX9_witness_92 rfl ?_
                refine g_iload_n dX9_witness_94 rfl rfl ?_
                refine g_lload_n dX9_witness_95 rfl rfl ?_
                refine g_iconst dX9_witness_96 ?_
                refine g_callVr dX9_witness_97 lX9_90 (w_X0_add (M := (openM M y (-1))) (by show 0 ≤ M.1 1 10 + 1; omega) (by show M.1 1 10 + 1 ≤ 8; omega) (by show 0 ≤ M.1 1 11; omega) (by show M.1 1 11 ≤ 14; omega) (by show 1 ≤ M.1 1 10 + 1; omega) (by show M.1 1 11 < 14; omega)) rfl rfl rfl rfl (Nat.le_of_ble_eq_true rfl) ?_
                refine g_aload_n dX9_witness_100 rfl rfl ?_
                refine g_getr dX9_witness_101 fX9_12 rfl rfl ?_
                refine g_bipush dX9_witness_104 rfl ?_
                refine g_iload dX9_witness_106 rfl ?_
                refine g_lload dX9_witness_108 rfl ?_
                refine g_iconst dX9_witness_110 ?_
                refine g_callVr dX9_witness_111 lX9_90 (w_X0_add (M := addM (openM M y (-1)) 7 s c (-1)) (by show 0 ≤ M.1 1 10 + 1; omega) (by show M.1 1 10 + 1 ≤ 8; omega) (by show 0 ≤ M.1 1 11 + 1; omega) (by show M.1 1 11 + 1 ≤ 14; omega) (by show 1 ≤ M.1 1 10 + 1; omega) (by show M.1 1 11 + 1 < 14; omega)) rfl rfl rfl rfl (Nat.le_of_ble_eq_true rfl) ?_
                refine g_aload_n dX9_witness_114 rfl rfl ?_
                refine g_callVr dX9_witness_115 lX9_94 (w_X9_closeRecord) rfl rfl rfl rfl (Nat.le_of_ble_eq_true rfl) ?_
                refine g_iret dX9_witness_118 rfl ?_
                exact leafY ⟨h21, h28, h36, h43, h51, h74⟩ (by show M.1 1 10 + 1 - 1 = _; omega)
              · refine g_iconst dX9_witness_77 ?_
                refine g_iret dX9_witness_78 rfl ?_
                exact leafN (fun z => by first | exact h74 z.2.2.2.2.2 | exact h51 z.2.2.2.2.1 | exact h43 z.2.2.2.1 | exact h36 z.2.2.1 | exact h28 z.2.1 | exact h21 z.1)
  · exact absurd h3 ht

theorem w_X9_copy {d : Nat} {M : Mem} {r : Nat} {a b c : Int64} (hw : Wf M) (hr : (r : Int) < M.1 1 10) (h1r : 1 ≤ M.1 3 r) : WP wdC (d + 4) mX9_copy [vr 0, vi r, vl a, vl b, vl c] M (Ret (some (vi (if copyOK M r a b c then M.1 1 10 else -1))) (if copyOK M r a b c then copyM M r a b c else M)) := by
  refine wp_of (by decide +kernel) (Nat.le_of_ble_eq_true rfl) ?_
  obtain ⟨⟨hR0, hR8, hN0, hN14⟩, hwR, hwO, hwC, hwD, hwV, hwL⟩ := id hw
  have hO : ∀ j : Nat, (j : Int) < M.1 1 10 → -1 ≤ M.1 4 j ∧ M.1 4 j < 8 := fun j hj => by have := hwC j hj; omega
  have hRr := hwR.1 r hr
  have hsz : (if 0 ≤ (r : Int) ∧ (r : Int) < M.1 1 10 then M.1 3 (r : Int).toNat else 0) = M.1 3 r := by rw [if_pos ⟨by omega, hr⟩, Int.toNat_natCast]
  have loop : copyOK M r a b c → ∀ n i : Nat, (i : Int) + n = M.1 3 r → G wdC mX9_copy (d + 4) (Ret (some (vi (if copyOK M r a b c then M.1 1 10 else -1))) (if copyOK M r a b c then copyM M r a b c else M)) 95 [some (vr 0), some (vi r), some (vl a), none, some (vl b), none, some (vl c), none, some (vi (M.1 3 r)), some (vi 1), some (vi i)] [] (copyK (openM M (M.1 7 (M.1 2 r).toNat) r) (M.1 2 r).toNat (nmF a b c) i) := by
    intro hok n
    induction n with
    | zero =>
      intro i hi
      obtain ⟨k1, k2, k3⟩ := copyK_f (openM M (M.1 7 (M.1 2 r).toNat) r) (M.1 2 r).toNat (nmF a b c) i
      have hv : (copyK (openM M (M.1 7 (M.1 2 r).toNat) r) (M.1 2 r).toNat (nmF a b c) i).1 1 10 - 1 = M.1 1 10 := by rw [k1]; show M.1 1 10 + 1 - 1 = _; omega
      have hm : closeM (copyK (openM M (M.1 7 (M.1 2 r).toNat) r) (M.1 2 r).toNat (nmF a b c) i) = copyM M r a b c := by
        unfold copyM
        rw [Int.toNat_natCast, show (M.1 3 r).toNat = i by omega]
      generalize (copyK (openM M (M.1 7 (M.1 2 r).toNat) r) (M.1 2 r).toNat (nmF a b c) i) = M1 at *
      refine g_iload dX9_copy_95 rfl ?_
      refine g_iload dX9_copy_97 rfl ?_
      refine g_icmp_ge (tgt := 148) dX9_copy_99 rfl (fun h99 => ?_) (fun h99 => ?_)
      · refine g_aload_n dX9_copy_148 rfl rfl ?_
        refine g_callVr dX9_copy_149 lX9_94 (w_X9_closeRecord) rfl rfl rfl rfl (Nat.le_of_ble_eq_true rfl) ?_
        refine g_iret dX9_copy_152 rfl ?_
        rw [hv, hm]
        exact leafY hok rfl
      · exfalso; omega
    | succ n ih =>
      intro i hi
      obtain ⟨k1, k2, k3⟩ := copyK_f (openM M (M.1 7 (M.1 2 r).toNat) r) (M.1 2 r).toNat (nmF a b c) i
      have hn := hok.2.2.2.2.2
      rw [Int.toNat_natCast] at hn
      have k1' : (copyK (openM M (M.1 7 (M.1 2 r).toNat) r) (M.1 2 r).toNat (nmF a b c) i).1 1 10 = M.1 1 10 + 1 := k1
      have k2' : (copyK (openM M (M.1 7 (M.1 2 r).toNat) r) (M.1 2 r).toNat (nmF a b c) i).1 1 11 = M.1 1 11 + i := k2
      have k3' : (copyK (openM M (M.1 7 (M.1 2 r).toNat) r) (M.1 2 r).toNat (nmF a b c) i).1 2 r = M.1 2 r := by
        rw [k3]
        have hne : ¬ r = (M.1 1 10).toNat := by omega
        simp [openM, sil, hne]
      have hst : againM (copyK (openM M (M.1 7 (M.1 2 r).toNat) r) (M.1 2 r).toNat (nmF a b c) i) ((M.1 2 r).toNat + i) (nmF a b c i) = copyK (openM M (M.1 7 (M.1 2 r).toNat) r) (M.1 2 r).toNat (nmF a b c) (i + 1) := rfl
      have ih' := ih (i + 1) (by omega)
      rw [← hst] at ih'
      clear ih hst
      generalize (copyK (openM M (M.1 7 (M.1 2 r).toNat) r) (M.1 2 r).toNat (nmF a b c) i) = M1 at *
      have hfo : (if 0 ≤ (r : Int) ∧ (r : Int) < M1.1 1 10 then M1.1 2 (r : Int).toNat else -1) = M.1 2 r := by rw [if_pos ⟨by omega, by omega⟩, Int.toNat_natCast, k3']
      refine g_iload dX9_copy_95 rfl ?_
      refine g_iload dX9_copy_97 rfl ?_
      refine g_icmp_ge (tgt := 148) dX9_copy_99 rfl (fun h99 => ?_) (fun h99 => ?_)
      · exfalso; omega
      · refine g_aload_n dX9_copy_102 rfl rfl ?_
        refine g_getr dX9_copy_103 fX9_12 rfl rfl ?_
        refine g_aload_n dX9_copy_106 rfl rfl ?_
        refine g_getr dX9_copy_107 fX9_12 rfl rfl ?_
        refine g_iload_n dX9_copy_110 rfl rfl ?_
        refine g_callVr dX9_copy_111 lX9_113 (w_X0_firstOf (M := M1) (by omega) (by omega) (by omega) (by omega) (by omega) (by omega)) rfl rfl rfl rfl (Nat.le_of_ble_eq_true rfl) ?_
        rw [hfo]
        refine g_iload dX9_copy_114 rfl ?_
        refine g_iadd dX9_copy_116 ?_
        refine g_iload dX9_copy_117 rfl ?_
        refine g_if_ne (tgt := 126) dX9_copy_119 rfl (fun h119 => ?_) (fun h119 => ?_)
        · refine g_iload dX9_copy_126 rfl ?_
          refine g_iconst dX9_copy_128 ?_
          refine g_icmp_ne (tgt := 137) dX9_copy_129 rfl (fun h129 => ?_) (fun h129 => ?_)
          · refine g_lload dX9_copy_137 rfl ?_
            rw [show M.1 2 r + (i : Int) = (((M.1 2 r).toNat + i : Nat) : Int) by omega]
            refine g_callVr dX9_copy_139 lX9_116 (w_X0_addAgain (M := M1) (r := (M.1 2 r).toNat + i) (by omega) (by omega) (by omega) (by omega) (by omega) (by omega) (by omega)) rfl rfl rfl rfl (Nat.le_of_ble_eq_true rfl) ?_
            refine g_iinc (ls' := [some _, some _, some _, _, some _, _, some _, _, some _, some _, some _]) dX9_copy_142 rfl rfl ?_
            refine g_goto (tgt := 95) dX9_copy_145 rfl ?_
            first
              | (rw [show nmF a b c i = a by unfold nmF; rw [if_pos (by omega)]] at ih'; exact ih')
              | (rw [show nmF a b c i = b by unfold nmF; rw [if_neg (by omega), if_pos (by omega)]] at ih'; exact ih')
              | (rw [show nmF a b c i = c by unfold nmF; rw [if_neg (by omega), if_neg (by omega)]] at ih'; exact ih')
          · refine g_lload dX9_copy_132 rfl ?_
            refine g_goto (tgt := 139) dX9_copy_134 rfl ?_
            rw [show M.1 2 r + (i : Int) = (((M.1 2 r).toNat + i : Nat) : Int) by omega]
            refine g_callVr dX9_copy_139 lX9_116 (w_X0_addAgain (M := M1) (r := (M.1 2 r).toNat + i) (by omega) (by omega) (by omega) (by omega) (by omega) (by omega) (by omega)) rfl rfl rfl rfl (Nat.le_of_ble_eq_true rfl) ?_
            refine g_iinc (ls' := [some _, some _, some _, _, some _, _, some _, _, some _, some _, some _]) dX9_copy_142 rfl rfl ?_
            refine g_goto (tgt := 95) dX9_copy_145 rfl ?_
            first
              | (rw [show nmF a b c i = a by unfold nmF; rw [if_pos (by omega)]] at ih'; exact ih')
              | (rw [show nmF a b c i = b by unfold nmF; rw [if_neg (by omega), if_pos (by omega)]] at ih'; exact ih')
              | (rw [show nmF a b c i = c by unfold nmF; rw [if_neg (by omega), if_neg (by omega)]] at ih'; exact ih')
        · refine g_lload_n dX9_copy_122 rfl rfl ?_
          refine g_goto (tgt := 139) dX9_copy_123 rfl ?_
          rw [show M.1 2 r + (i : Int) = (((M.1 2 r).toNat + i : Nat) : Int) by omega]
          refine g_callVr dX9_copy_139 lX9_116 (w_X0_addAgain (M := M1) (r := (M.1 2 r).toNat + i) (by omega) (by omega) (by omega) (by omega) (by omega) (by omega) (by omega)) rfl rfl rfl rfl (Nat.le_of_ble_eq_true rfl) ?_
          refine g_iinc (ls' := [some _, some _, some _, _, some _, _, some _, _, some _, some _, some _]) dX9_copy_142 rfl rfl ?_
          refine g_goto (tgt := 95) dX9_copy_145 rfl ?_
          first
            | (rw [show nmF a b c i = a by unfold nmF; rw [if_pos (by omega)]] at ih'; exact ih')
            | (rw [show nmF a b c i = b by unfold nmF; rw [if_neg (by omega), if_pos (by omega)]] at ih'; exact ih')
            | (rw [show nmF a b c i = c by unfold nmF; rw [if_neg (by omega), if_neg (by omega)]] at ih'; exact ih')
  refine g_aload_n dX9_copy_0 rfl rfl ?_
  refine g_getr dX9_copy_1 fX9_12 rfl rfl ?_
  refine g_iload_n dX9_copy_4 rfl rfl ?_
  refine g_callVr dX9_copy_5 lX9_102 (w_X0_isOriginal (by omega) (by omega) hR0 hR8 hN0 hN14 hO) rfl rfl rfl rfl (Nat.le_of_ble_eq_true rfl) ?_
  refine g_if_neB (tgt := 13) dX9_copy_8 rfl (fun h8 => ?_) (fun h8 => ?_)
  · refine g_aload_n dX9_copy_13 rfl rfl ?_
    refine g_getr dX9_copy_14 fX9_12 rfl rfl ?_
    refine g_iload_n dX9_copy_17 rfl rfl ?_
    refine g_callVr dX9_copy_18 lX9_105 (w_X0_sizeOf (by omega) (by omega) hR0 hR8 hN0 hN14) rfl rfl rfl rfl (Nat.le_of_ble_eq_true rfl) ?_
    rw [hsz]
    refine g_istore (ls' := [some _, some _, some _, _, some _, _, some _, _, some _, _, _]) dX9_copy_21 (by decide) rfl ?_
    refine g_lload_n dX9_copy_23 rfl rfl ?_
    refine g_callSr dX9_copy_24 lX9_77 (w_X3_isName) rfl rfl (Nat.le_of_ble_eq_true rfl) ?_
    refine g_if_eqB (tgt := 62) dX9_copy_27 rfl (fun h27 => ?_) (fun h27 => ?_)
    · refine g_iconst dX9_copy_62 ?_
      refine g_istore (ls' := [some _, some _, some _, _, some _, _, some _, _, some _, some _, _]) dX9_copy_63 (by decide) rfl ?_
      refine g_iload dX9_copy_65 rfl ?_
      refine g_if_eq (tgt := 82) dX9_copy_67 rfl (fun _ => ?_) (fun h67 => absurd (by decide) h67)
      refine g_iconst dX9_copy_82 ?_
      refine g_iret dX9_copy_83 rfl ?_
      refine leafN (fun z => ?_)
      obtain ⟨z1, z2, z3, z4, z5, z6⟩ := z
      rw [Int.toNat_natCast] at z3 z4 z6
      first | exact h27 z2 | exact h41 (z3 (by omega)) | exact h55 (z4 (by omega)) | exact h79 ⟨z5, z6⟩
    · refine g_iload dX9_copy_30 rfl ?_
      refine g_iconst dX9_copy_32 ?_
      refine g_icmp_lt (tgt := 44) dX9_copy_33 rfl (fun h33 => ?_) (fun h33 => ?_)
      · refine g_iload dX9_copy_44 rfl ?_
        refine g_iconst dX9_copy_46 ?_
        refine g_icmp_lt (tgt := 58) dX9_copy_47 rfl (fun h47 => ?_) (fun h47 => ?_)
        · refine g_iconst dX9_copy_58 ?_
          refine g_goto (tgt := 63) dX9_copy_59 rfl ?_
          refine g_istore (ls' := [some _, some _, some _, _, some _, _, some _, _, some _, some _, _]) dX9_copy_63 (by decide) rfl ?_
          refine g_iload dX9_copy_65 rfl ?_
          refine g_if_eq (tgt := 82) dX9_copy_67 rfl (fun h67 => absurd h67 (by decide)) (fun _ => ?_)
          refine g_aload_n dX9_copy_70 rfl rfl ?_
          refine g_getr dX9_copy_71 fX9_12 rfl rfl ?_
          refine g_iload dX9_copy_74 rfl ?_
          refine g_callVr dX9_copy_76 lX9_83 (w_X0_hasSpace (by omega) (by omega) hR0 hR8 hN0 hN14) rfl rfl rfl rfl (Nat.le_of_ble_eq_true rfl) ?_
          refine g_if_neB (tgt := 84) dX9_copy_79 rfl (fun h79 => ?_) (fun h79 => ?_)
          · refine g_aload_n dX9_copy_84 rfl rfl ?_
            refine g_getr dX9_copy_85 fX9_12 rfl rfl ?_
            refine g_iload_n dX9_copy_88 rfl rfl ?_
            refine g_callVr dX9_copy_89 lX9_109 (w_X0_openCopy hr hR0 hR8 hN0 hN14 (by omega) ⟨by omega, by omega⟩) rfl rfl rfl rfl (Nat.le_of_ble_eq_true rfl) ?_
            refine g_iconst dX9_copy_92 ?_
            refine g_istore (ls' := [some _, some _, some _, _, some _, _, some _, _, some _, some _, some _]) dX9_copy_93 (by decide) rfl ?_
            refine loop ⟨h8, h27, fun z => ?_, fun z => ?_, by omega, by rw [Int.toNat_natCast]; omega⟩ (M.1 3 r).toNat 0 (by omega)
            · rw [Int.toNat_natCast] at z
              first | exact h41 | (exfalso; omega)
            · rw [Int.toNat_natCast] at z
              first | exact h55 | (exfalso; omega)
          · refine g_iconst dX9_copy_82 ?_
            refine g_iret dX9_copy_83 rfl ?_
            refine leafN (fun z => ?_)
            obtain ⟨z1, z2, z3, z4, z5, z6⟩ := z
            rw [Int.toNat_natCast] at z3 z4 z6
            first | exact h27 z2 | exact h41 (z3 (by omega)) | exact h55 (z4 (by omega)) | exact h79 ⟨z5, z6⟩
        · refine g_lload dX9_copy_50 rfl ?_
          refine g_callSr dX9_copy_52 lX9_77 (w_X3_isName) rfl rfl (Nat.le_of_ble_eq_true rfl) ?_
          refine g_if_eqB (tgt := 62) dX9_copy_55 rfl (fun h55 => ?_) (fun h55 => ?_)
          · refine g_iconst dX9_copy_62 ?_
            refine g_istore (ls' := [some _, some _, some _, _, some _, _, some _, _, some _, some _, _]) dX9_copy_63 (by decide) rfl ?_
            refine g_iload dX9_copy_65 rfl ?_
            refine g_if_eq (tgt := 82) dX9_copy_67 rfl (fun _ => ?_) (fun h67 => absurd (by decide) h67)
            refine g_iconst dX9_copy_82 ?_
            refine g_iret dX9_copy_83 rfl ?_
            refine leafN (fun z => ?_)
            obtain ⟨z1, z2, z3, z4, z5, z6⟩ := z
            rw [Int.toNat_natCast] at z3 z4 z6
            first | exact h27 z2 | exact h41 (z3 (by omega)) | exact h55 (z4 (by omega)) | exact h79 ⟨z5, z6⟩
          · refine g_iconst dX9_copy_58 ?_
            refine g_goto (tgt := 63) dX9_copy_59 rfl ?_
            refine g_istore (ls' := [some _, some _, some _, _, some _, _, some _, _, some _, some _, _]) dX9_copy_63 (by decide) rfl ?_
            refine g_iload dX9_copy_65 rfl ?_
            refine g_if_eq (tgt := 82) dX9_copy_67 rfl (fun h67 => absurd h67 (by decide)) (fun _ => ?_)
            refine g_aload_n dX9_copy_70 rfl rfl ?_
            refine g_getr dX9_copy_71 fX9_12 rfl rfl ?_
            refine g_iload dX9_copy_74 rfl ?_
            refine g_callVr dX9_copy_76 lX9_83 (w_X0_hasSpace (by omega) (by omega) hR0 hR8 hN0 hN14) rfl rfl rfl rfl (Nat.le_of_ble_eq_true rfl) ?_
            refine g_if_neB (tgt := 84) dX9_copy_79 rfl (fun h79 => ?_) (fun h79 => ?_)
            · refine g_aload_n dX9_copy_84 rfl rfl ?_
              refine g_getr dX9_copy_85 fX9_12 rfl rfl ?_
              refine g_iload_n dX9_copy_88 rfl rfl ?_
              refine g_callVr dX9_copy_89 lX9_109 (w_X0_openCopy hr hR0 hR8 hN0 hN14 (by omega) ⟨by omega, by omega⟩) rfl rfl rfl rfl (Nat.le_of_ble_eq_true rfl) ?_
              refine g_iconst dX9_copy_92 ?_
              refine g_istore (ls' := [some _, some _, some _, _, some _, _, some _, _, some _, some _, some _]) dX9_copy_93 (by decide) rfl ?_
              refine loop ⟨h8, h27, fun z => ?_, fun z => ?_, by omega, by rw [Int.toNat_natCast]; omega⟩ (M.1 3 r).toNat 0 (by omega)
              · rw [Int.toNat_natCast] at z
                first | exact h41 | (exfalso; omega)
              · rw [Int.toNat_natCast] at z
                first | exact h55 | (exfalso; omega)
            · refine g_iconst dX9_copy_82 ?_
              refine g_iret dX9_copy_83 rfl ?_
              refine leafN (fun z => ?_)
              obtain ⟨z1, z2, z3, z4, z5, z6⟩ := z
              rw [Int.toNat_natCast] at z3 z4 z6
              first | exact h27 z2 | exact h41 (z3 (by omega)) | exact h55 (z4 (by omega)) | exact h79 ⟨z5, z6⟩
      · refine g_lload dX9_copy_36 rfl ?_
        refine g_callSr dX9_copy_38 lX9_77 (w_X3_isName) rfl rfl (Nat.le_of_ble_eq_true rfl) ?_
        refine g_if_eqB (tgt := 62) dX9_copy_41 rfl (fun h41 => ?_) (fun h41 => ?_)
        · refine g_iconst dX9_copy_62 ?_
          refine g_istore (ls' := [some _, some _, some _, _, some _, _, some _, _, some _, some _, _]) dX9_copy_63 (by decide) rfl ?_
          refine g_iload dX9_copy_65 rfl ?_
          refine g_if_eq (tgt := 82) dX9_copy_67 rfl (fun _ => ?_) (fun h67 => absurd (by decide) h67)
          refine g_iconst dX9_copy_82 ?_
          refine g_iret dX9_copy_83 rfl ?_
          refine leafN (fun z => ?_)
          obtain ⟨z1, z2, z3, z4, z5, z6⟩ := z
          rw [Int.toNat_natCast] at z3 z4 z6
          first | exact h27 z2 | exact h41 (z3 (by omega)) | exact h55 (z4 (by omega)) | exact h79 ⟨z5, z6⟩
        · refine g_iload dX9_copy_44 rfl ?_
          refine g_iconst dX9_copy_46 ?_
          refine g_icmp_lt (tgt := 58) dX9_copy_47 rfl (fun h47 => ?_) (fun h47 => ?_)
          · refine g_iconst dX9_copy_58 ?_
            refine g_goto (tgt := 63) dX9_copy_59 rfl ?_
            refine g_istore (ls' := [some _, some _, some _, _, some _, _, some _, _, some _, some _, _]) dX9_copy_63 (by decide) rfl ?_
            refine g_iload dX9_copy_65 rfl ?_
            refine g_if_eq (tgt := 82) dX9_copy_67 rfl (fun h67 => absurd h67 (by decide)) (fun _ => ?_)
            refine g_aload_n dX9_copy_70 rfl rfl ?_
            refine g_getr dX9_copy_71 fX9_12 rfl rfl ?_
            refine g_iload dX9_copy_74 rfl ?_
            refine g_callVr dX9_copy_76 lX9_83 (w_X0_hasSpace (by omega) (by omega) hR0 hR8 hN0 hN14) rfl rfl rfl rfl (Nat.le_of_ble_eq_true rfl) ?_
            refine g_if_neB (tgt := 84) dX9_copy_79 rfl (fun h79 => ?_) (fun h79 => ?_)
            · refine g_aload_n dX9_copy_84 rfl rfl ?_
              refine g_getr dX9_copy_85 fX9_12 rfl rfl ?_
              refine g_iload_n dX9_copy_88 rfl rfl ?_
              refine g_callVr dX9_copy_89 lX9_109 (w_X0_openCopy hr hR0 hR8 hN0 hN14 (by omega) ⟨by omega, by omega⟩) rfl rfl rfl rfl (Nat.le_of_ble_eq_true rfl) ?_
              refine g_iconst dX9_copy_92 ?_
              refine g_istore (ls' := [some _, some _, some _, _, some _, _, some _, _, some _, some _, some _]) dX9_copy_93 (by decide) rfl ?_
              refine loop ⟨h8, h27, fun z => ?_, fun z => ?_, by omega, by rw [Int.toNat_natCast]; omega⟩ (M.1 3 r).toNat 0 (by omega)
              · rw [Int.toNat_natCast] at z
                first | exact h41 | (exfalso; omega)
              · rw [Int.toNat_natCast] at z
                first | exact h55 | (exfalso; omega)
            · refine g_iconst dX9_copy_82 ?_
              refine g_iret dX9_copy_83 rfl ?_
              refine leafN (fun z => ?_)
              obtain ⟨z1, z2, z3, z4, z5, z6⟩ := z
              rw [Int.toNat_natCast] at z3 z4 z6
              first | exact h27 z2 | exact h41 (z3 (by omega)) | exact h55 (z4 (by omega)) | exact h79 ⟨z5, z6⟩
          · refine g_lload dX9_copy_50 rfl ?_
            refine g_callSr dX9_copy_52 lX9_77 (w_X3_isName) rfl rfl (Nat.le_of_ble_eq_true rfl) ?_
            refine g_if_eqB (tgt := 62) dX9_copy_55 rfl (fun h55 => ?_) (fun h55 => ?_)
            · refine g_iconst dX9_copy_62 ?_
              refine g_istore (ls' := [some _, some _, some _, _, some _, _, some _, _, some _, some _, _]) dX9_copy_63 (by decide) rfl ?_
              refine g_iload dX9_copy_65 rfl ?_
              refine g_if_eq (tgt := 82) dX9_copy_67 rfl (fun _ => ?_) (fun h67 => absurd (by decide) h67)
              refine g_iconst dX9_copy_82 ?_
              refine g_iret dX9_copy_83 rfl ?_
              refine leafN (fun z => ?_)
              obtain ⟨z1, z2, z3, z4, z5, z6⟩ := z
              rw [Int.toNat_natCast] at z3 z4 z6
              first | exact h27 z2 | exact h41 (z3 (by omega)) | exact h55 (z4 (by omega)) | exact h79 ⟨z5, z6⟩
            · refine g_iconst dX9_copy_58 ?_
              refine g_goto (tgt := 63) dX9_copy_59 rfl ?_
              refine g_istore (ls' := [some _, some _, some _, _, some _, _, some _, _, some _, some _, _]) dX9_copy_63 (by decide) rfl ?_
              refine g_iload dX9_copy_65 rfl ?_
              refine g_if_eq (tgt := 82) dX9_copy_67 rfl (fun h67 => absurd h67 (by decide)) (fun _ => ?_)
              refine g_aload_n dX9_copy_70 rfl rfl ?_
              refine g_getr dX9_copy_71 fX9_12 rfl rfl ?_
              refine g_iload dX9_copy_74 rfl ?_
              refine g_callVr dX9_copy_76 lX9_83 (w_X0_hasSpace (by omega) (by omega) hR0 hR8 hN0 hN14) rfl rfl rfl rfl (Nat.le_of_ble_eq_true rfl) ?_
              refine g_if_neB (tgt := 84) dX9_copy_79 rfl (fun h79 => ?_) (fun h79 => ?_)
              · refine g_aload_n dX9_copy_84 rfl rfl ?_
                refine g_getr dX9_copy_85 fX9_12 rfl rfl ?_
                refine g_iload_n dX9_copy_88 rfl rfl ?_
                refine g_callVr dX9_copy_89 lX9_109 (w_X0_openCopy hr hR0 hR8 hN0 hN14 (by omega) ⟨by omega, by omega⟩) rfl rfl rfl rfl (Nat.le_of_ble_eq_true rfl) ?_
                refine g_iconst dX9_copy_92 ?_
                refine g_istore (ls' := [some _, some _, some _, _, some _, _, some _, _, some _, some _, some _]) dX9_copy_93 (by decide) rfl ?_
                refine loop ⟨h8, h27, fun z => ?_, fun z => ?_, by omega, by rw [Int.toNat_natCast]; omega⟩ (M.1 3 r).toNat 0 (by omega)
                · rw [Int.toNat_natCast] at z
                  first | exact h41 | (exfalso; omega)
                · rw [Int.toNat_natCast] at z
                  first | exact h55 | (exfalso; omega)
              · refine g_iconst dX9_copy_82 ?_
                refine g_iret dX9_copy_83 rfl ?_
                refine leafN (fun z => ?_)
                obtain ⟨z1, z2, z3, z4, z5, z6⟩ := z
                rw [Int.toNat_natCast] at z3 z4 z6
                first | exact h27 z2 | exact h41 (z3 (by omega)) | exact h55 (z4 (by omega)) | exact h79 ⟨z5, z6⟩
  · refine g_iconst dX9_copy_11 ?_
    refine g_iret dX9_copy_12 rfl ?_
    exact leafN (fun z => h8 z.1)

theorem w_X9_copyN {d : Nat} {M : Mem} {r : Int} {a b c : Int64} (r1 : -2147483648 ≤ r) (r2 : r < 2147483648) (hr : ¬ (0 ≤ r ∧ r < M.1 1 10)) (hw : Wf M) : WP wdC (d + 4) mX9_copy [vr 0, vi r, vl a, vl b, vl c] M (Ret (some (vi (-1))) M) := by
  obtain ⟨⟨hR0, hR8, hN0, hN14⟩, hwR, hwO, hwC, hwD, hwV, hwL⟩ := id hw
  have hO : ∀ j : Nat, (j : Int) < M.1 1 10 → -1 ≤ M.1 4 j ∧ M.1 4 j < 8 := fun j hj => by have := hwC j hj; omega
  refine wp_of (by decide +kernel) (Nat.le_of_ble_eq_true rfl) ?_
  refine g_aload_n dX9_copy_0 rfl rfl ?_
  refine g_getr dX9_copy_1 fX9_12 rfl rfl ?_
  refine g_iload_n dX9_copy_4 rfl rfl ?_
  refine g_callVr dX9_copy_5 lX9_102 (w_X0_isOriginal r1 r2 hR0 hR8 hN0 hN14 hO) rfl rfl rfl rfl (Nat.le_of_ble_eq_true rfl) ?_
  refine g_if_neB (tgt := 13) dX9_copy_8 rfl (fun h8 => ?_) (fun h8 => ?_)
  · exact absurd h8.1 hr
  · refine g_iconst dX9_copy_11 ?_
    refine g_iret dX9_copy_12 rfl ?_
    exact ⟨rfl, rfl⟩

theorem w_X9_drop {d : Nat} {M : Mem} (hR0 : 0 ≤ M.1 1 10) (hR8 : M.1 1 10 ≤ 8) (hN0 : 0 ≤ M.1 1 11) (hN14 : M.1 1 11 ≤ 14) : WP wdC (d + 3) mX9_drop [vr 0] M (Ret (some (vi (bi (M.1 1 10 ≠ 0)))) (if M.1 1 10 ≠ 0 then closeM (dropM M) else M)) := by
  refine wp_of (by decide +kernel) (Nat.le_of_ble_eq_true rfl) ?_
  refine g_aload_n dX9_drop_0 rfl rfl ?_
  refine g_getr dX9_drop_1 fX9_12 rfl rfl ?_
  refine g_get dX9_drop_4 fX9_120 rfl rfl ?_
  refine g_if_ne (tgt := 12) dX9_drop_7 rfl (fun h7 => ?_) (fun h7 => ?_)
  · refine g_aload_n dX9_drop_12 rfl rfl ?_
    refine g_getr dX9_drop_13 fX9_12 rfl rfl ?_
    refine g_callVr dX9_drop_16 lX9_124 (w_X0_removeLatest hR0 hR8 hN0 hN14 (by omega)) rfl rfl rfl rfl (Nat.le_of_ble_eq_true rfl) ?_
    refine g_aload_n dX9_drop_19 rfl rfl ?_
    refine g_iconst dX9_drop_20 ?_
    refine g_putz dX9_drop_21 fX9_66 rfl rfl rfl (tyX9_ok 7 (by decide)) ?_
    refine g_iconst dX9_drop_24 ?_
    refine g_zret dX9_drop_25 rfl ?_
    first | exact leafI h7 | exact leafJ (fun z => z h7)
  · refine g_iconst dX9_drop_10 ?_
    refine g_zret dX9_drop_11 rfl ?_
    first | exact leafI h7 | exact leafJ (fun z => z h7)

theorem w_X9_laws {d : Nat} {M : Mem} {g mo fa li ro : Int} (g1 : -2147483648 ≤ g) (g2 : g < 2147483648) (mo1 : -2147483648 ≤ mo) (mo2 : mo < 2147483648) (fa1 : -2147483648 ≤ fa) (fa2 : fa < 2147483648) (li1 : -2147483648 ≤ li) (li2 : li < 2147483648) (ro1 : -2147483648 ≤ ro) (ro2 : ro < 2147483648) : WP wdC (d + 3) mX9_laws [vr 0, vi g, vi mo, vi fa, vi li, vi ro] M (Ret (some (vi (bi (lawsOK g mo fa li ro)))) (if lawsOK g mo fa li ro then closeM (lawsM M g mo fa li ro) else M)) := by
  by_cases hok : lawsOK g mo fa li ro
  · have h5 := w_X5_setLaws (d := d + 2) (M := M) g1 g2 mo1 mo2 fa1 fa2 li1 li2 ro1 ro2
    rw [if_pos hok] at h5
    have hn : bi (lawsOK g mo fa li ro) = 1 := bi_t hok
    refine wp_of (by decide +kernel) (Nat.le_of_ble_eq_true rfl) ?_
    refine g_aload_n dX9_laws_0 rfl rfl ?_
    refine g_getr dX9_laws_1 fX9_19 rfl rfl ?_
    refine g_iload_n dX9_laws_4 rfl rfl ?_
    refine g_iload_n dX9_laws_5 rfl rfl ?_
    refine g_iload_n dX9_laws_6 rfl rfl ?_
    refine g_iload dX9_laws_7 rfl ?_
    refine g_iload dX9_laws_9 rfl ?_
    refine g_callVr dX9_laws_11 lX9_127 (h5) rfl rfl rfl rfl (Nat.le_of_ble_eq_true rfl) ?_
    refine g_if_neB (tgt := 19) dX9_laws_14 rfl (fun h14 => ?_) (fun h14 => ?_)
    · refine g_aload_n dX9_laws_19 rfl rfl ?_
      refine g_iconst dX9_laws_20 ?_
      refine g_putz dX9_laws_21 fX9_66 rfl rfl rfl (tyX9_ok 7 (by decide)) ?_
      refine g_iconst dX9_laws_24 ?_
      refine g_zret dX9_laws_25 rfl ?_
      exact leafI hok
    · exact absurd hok h14
  · have h5 := w_X5_setLaws (d := d + 2) (M := M) g1 g2 mo1 mo2 fa1 fa2 li1 li2 ro1 ro2
    rw [if_neg hok] at h5
    refine wp_of (by decide +kernel) (Nat.le_of_ble_eq_true rfl) ?_
    refine g_aload_n dX9_laws_0 rfl rfl ?_
    refine g_getr dX9_laws_1 fX9_19 rfl rfl ?_
    refine g_iload_n dX9_laws_4 rfl rfl ?_
    refine g_iload_n dX9_laws_5 rfl rfl ?_
    refine g_iload_n dX9_laws_6 rfl rfl ?_
    refine g_iload dX9_laws_7 rfl ?_
    refine g_iload dX9_laws_9 rfl ?_
    refine g_callVr dX9_laws_11 lX9_127 (h5) rfl rfl rfl rfl (Nat.le_of_ble_eq_true rfl) ?_
    refine g_if_neB (tgt := 19) dX9_laws_14 rfl (fun h14 => ?_) (fun h14 => ?_)
    · exact absurd h14 hok
    · refine g_iconst dX9_laws_17 ?_
      refine g_zret dX9_laws_18 rfl ?_
      exact leafJ hok

theorem w_X9_budget {d : Nat} {M : Mem} {c p : Int} (c1 : -2147483648 ≤ c) (c2 : c < 2147483648) (p1 : -2147483648 ≤ p) (p2 : p < 2147483648) : WP wdC (d + 3) mX9_budget [vr 0, vi c, vi p] M (Ret (some (vi (bi (budgetOK c p)))) (if budgetOK c p then closeM (budgetM M c p) else M)) := by
  by_cases hok : budgetOK c p
  · have h5 := w_X5_setBudget (d := d + 2) (M := M) c1 c2 p1 p2
    rw [if_pos hok] at h5
    refine wp_of (by decide +kernel) (Nat.le_of_ble_eq_true rfl) ?_
    refine g_aload_n dX9_budget_0 rfl rfl ?_
    refine g_getr dX9_budget_1 fX9_19 rfl rfl ?_
    refine g_iload_n dX9_budget_4 rfl rfl ?_
    refine g_iload_n dX9_budget_5 rfl rfl ?_
    refine g_callVr dX9_budget_6 lX9_142 (h5) rfl rfl rfl rfl (Nat.le_of_ble_eq_true rfl) ?_
    refine g_if_neB (tgt := 14) dX9_budget_9 rfl (fun h9 => ?_) (fun h9 => ?_)
    · refine g_aload_n dX9_budget_14 rfl rfl ?_
      refine g_iconst dX9_budget_15 ?_
      refine g_putz dX9_budget_16 fX9_66 rfl rfl rfl (tyX9_ok 7 (by decide)) ?_
      refine g_iconst dX9_budget_19 ?_
      refine g_zret dX9_budget_20 rfl ?_
      exact leafI hok
    · exact absurd hok h9
  · have h5 := w_X5_setBudget (d := d + 2) (M := M) c1 c2 p1 p2
    rw [if_neg hok] at h5
    refine wp_of (by decide +kernel) (Nat.le_of_ble_eq_true rfl) ?_
    refine g_aload_n dX9_budget_0 rfl rfl ?_
    refine g_getr dX9_budget_1 fX9_19 rfl rfl ?_
    refine g_iload_n dX9_budget_4 rfl rfl ?_
    refine g_iload_n dX9_budget_5 rfl rfl ?_
    refine g_callVr dX9_budget_6 lX9_142 (h5) rfl rfl rfl rfl (Nat.le_of_ble_eq_true rfl) ?_
    refine g_if_neB (tgt := 14) dX9_budget_9 rfl (fun h9 => ?_) (fun h9 => ?_)
    · exact absurd h9 hok
    · refine g_iconst dX9_budget_12 ?_
      refine g_zret dX9_budget_13 rfl ?_
      exact leafJ hok

abbrev soundOK (a b z : Int) : Prop := (0 ≤ a ∧ a < 26) ∧ (0 ≤ b ∧ b < 26) ∧ (z = 1 ∨ a ≠ b)
theorem w_X9_sound {d : Nat} {M : Mem} {a b z : Int} (hz : z = 0 ∨ z = 1) (a1 : -2147483648 ≤ a) (a2 : a < 2147483648) (b1 : -2147483648 ≤ b) (b2 : b < 2147483648) : WP wdC (d + 3) mX9_sound [vr 0, vi a, vi b, vi z] M (Ret (some (vi (bi (soundOK a b z)))) (if soundOK a b z then closeM (alikeM M a b z) else M)) := by
  refine wp_of (by decide +kernel) (Nat.le_of_ble_eq_true rfl) ?_
  refine g_iload_n dX9_sound_0 rfl rfl ?_
  refine g_callSr dX9_sound_1 lX9_131 (w_X3_isLetter (by omega) (by omega)) rfl rfl (Nat.le_of_ble_eq_true rfl) ?_
  refine g_if_eqB (tgt := 23) dX9_sound_4 rfl (fun h4 => ?_) (fun h4 => ?_)
  · refine g_iconst dX9_sound_23 ?_
    refine g_zret dX9_sound_24 rfl ?_
    first | exact leafI ⟨h4, h11, h20⟩ | exact leafJ (fun z => by first | exact h20 z.2.2 | exact h11 z.2.1 | exact h4 z.1)
  · refine g_iload_n dX9_sound_7 rfl rfl ?_
    refine g_callSr dX9_sound_8 lX9_131 (w_X3_isLetter (by omega) (by omega)) rfl rfl (Nat.le_of_ble_eq_true rfl) ?_
    refine g_if_eqB (tgt := 23) dX9_sound_11 rfl (fun h11 => ?_) (fun h11 => ?_)
    · refine g_iconst dX9_sound_23 ?_
      refine g_zret dX9_sound_24 rfl ?_
      first | exact leafI ⟨h4, h11, h20⟩ | exact leafJ (fun z => by first | exact h20 z.2.2 | exact h11 z.2.1 | exact h4 z.1)
    · refine g_iload_n dX9_sound_14 rfl rfl ?_
      refine g_iload_n dX9_sound_15 rfl rfl ?_
      refine g_iload_n dX9_sound_16 rfl rfl ?_
      refine g_callSr dX9_sound_17 lX9_134 (w_X1_canBe hz a1 a2 b1 b2) rfl rfl (Nat.le_of_ble_eq_true rfl) ?_
      refine g_if_neB (tgt := 25) dX9_sound_20 rfl (fun h20 => ?_) (fun h20 => ?_)
      · refine g_aload_n dX9_sound_25 rfl rfl ?_
        refine g_getr dX9_sound_26 fX9_26 rfl rfl ?_
        refine g_iload_n dX9_sound_29 rfl rfl ?_
        refine g_iload_n dX9_sound_30 rfl rfl ?_
        refine g_iload_n dX9_sound_31 rfl rfl ?_
        refine g_callVr dX9_sound_32 lX9_138 (w_X1_setAlike hz h4.1 h4.2 h11.1 h11.2) rfl rfl rfl rfl (Nat.le_of_ble_eq_true rfl) ?_
        refine g_aload_n dX9_sound_35 rfl rfl ?_
        refine g_iconst dX9_sound_36 ?_
        refine g_putz dX9_sound_37 fX9_66 rfl rfl rfl (tyX9_ok 7 (by decide)) ?_
        refine g_iconst dX9_sound_40 ?_
        refine g_zret dX9_sound_41 rfl ?_
        first | exact leafI ⟨h4, h11, h20⟩ | exact leafJ (fun z => by first | exact h20 z.2.2 | exact h11 z.2.1 | exact h4 z.1)
      · refine g_iconst dX9_sound_23 ?_
        refine g_zret dX9_sound_24 rfl ?_
        first | exact leafI ⟨h4, h11, h20⟩ | exact leafJ (fun z => by first | exact h20 z.2.2 | exact h11 z.2.1 | exact h4 z.1)

theorem w_X9_far {d : Nat} {M : Mem} {a b : Int64} (hal : ∀ j : Nat, M.1 14 j = 0 ∨ M.1 14 j = 1) : WP wdC (d + 3) mX9_far [vr 0, vl a, vl b] M (fun v M' => v = some (vi (if NameOK a ∧ NameOK b then distC (M.1 14) a b else -1)) ∧ Fr 15 (1 + 15) M M') := by
  refine wp_of (by decide +kernel) (Nat.le_of_ble_eq_true rfl) ?_
  refine g_lload_n dX9_far_0 rfl rfl ?_
  refine g_callSr dX9_far_1 lX9_77 (w_X3_isName) rfl rfl (Nat.le_of_ble_eq_true rfl) ?_
  refine g_if_eqB (tgt := 26) dX9_far_4 rfl (fun h4 => ?_) (fun h4 => ?_)
  · refine g_iconst dX9_far_26 ?_
    refine g_iret dX9_far_27 rfl ?_
    first | exact ⟨by rw [if_pos ⟨h4, h11⟩], hF⟩ | exact ⟨by rw [if_neg (fun z => by first | exact h11 z.2 | exact h4 z.1)], Fr.rf⟩
  · refine g_lload_n dX9_far_7 rfl rfl ?_
    refine g_callSr dX9_far_8 lX9_77 (w_X3_isName) rfl rfl (Nat.le_of_ble_eq_true rfl) ?_
    refine g_if_eqB (tgt := 26) dX9_far_11 rfl (fun h11 => ?_) (fun h11 => ?_)
    · refine g_iconst dX9_far_26 ?_
      refine g_iret dX9_far_27 rfl ?_
      first | exact ⟨by rw [if_pos ⟨h4, h11⟩], hF⟩ | exact ⟨by rw [if_neg (fun z => by first | exact h11 z.2 | exact h4 z.1)], Fr.rf⟩
    · refine g_aload_n dX9_far_14 rfl rfl ?_
      refine g_getr dX9_far_15 fX9_26 rfl rfl ?_
      refine g_lload_n dX9_far_18 rfl rfl ?_
      refine g_lload_n dX9_far_19 rfl rfl ?_
      refine g_callV dX9_far_20 lX9_146 (w_X1_distance h4 h11 hal) rfl rfl rfl rfl (Nat.le_of_ble_eq_true rfl) ?_
      rintro v M2 ⟨rfl, hF⟩
      show G _ _ _ _ _ _ [vi _] M2
      refine g_goto (tgt := 27) dX9_far_23 rfl ?_
      refine g_iret dX9_far_27 rfl ?_
      first | exact ⟨by rw [if_pos ⟨h4, h11⟩], hF⟩ | exact ⟨by rw [if_neg (fun z => by first | exact h11 z.2 | exact h4 z.1)], Fr.rf⟩

def roleS (M : Mem) (r : Nat) (w : Int) : Int := if w = 0 then M.1 5 r else if w = 1 then M.1 7 r else if w = 2 then M.1 8 r else if w = 3 then M.1 9 r else if w = 4 then M.1 6 r else if w = 5 then M.1 10 r else -1
theorem w_X9_role {d : Nat} {M : Mem} {r : Nat} {w : Int} (hr : (r : Int) < M.1 1 11) (w1 : -2147483648 ≤ w) (w2 : w < 2147483648) (hR0 : 0 ≤ M.1 1 10) (hR8 : M.1 1 10 ≤ 8) (hN0 : 0 ≤ M.1 1 11) (hN14 : M.1 1 11 ≤ 14) : WP wdC (d + 3) mX9_role [vr 0, vi r, vi w] M (Ret (some (vi (roleS M r w))) M) := by
  refine wp_of (by decide +kernel) (Nat.le_of_ble_eq_true rfl) ?_
  refine g_aload_n dX9_role_0 rfl rfl ?_
  refine g_getr dX9_role_1 fX9_12 rfl rfl ?_
  refine g_iload_n dX9_role_4 rfl rfl ?_
  refine g_callVr dX9_role_5 lX9_150 (w_X0_hasRole (by omega) (by omega) hR0 hR8 hN0 hN14) rfl rfl rfl rfl (Nat.le_of_ble_eq_true rfl) ?_
  refine g_if_neB (tgt := 13) dX9_role_8 rfl (fun h8 => ?_) (fun h8 => ?_)
  · refine g_iload_n dX9_role_13 rfl rfl ?_
    by_cases hw : 0 ≤ w ∧ w ≤ 5
    · have hw6 : w = 0 ∨ w = 1 ∨ w = 2 ∨ w = 3 ∨ w = 4 ∨ w = 5 := by omega
      rcases hw6 with rfl | rfl | rfl | rfl | rfl | rfl
      · refine g_tsw (tgt := 52) dX9_role_14 rfl rfl ?_
        refine g_aload_n dX9_role_52 rfl rfl ?_
        refine g_getr dX9_role_53 fX9_12 rfl rfl ?_
        refine g_getr dX9_role_56 fX9_153 rfl rfl ?_
        refine g_iload_n dX9_role_59 rfl rfl ?_
        refine g_iald dX9_role_60 rfl (by decide) ?_
        try simp only [Int.toNat_natCast]
        refine g_iret dX9_role_61 rfl ?_
        exact ⟨rfl, rfl⟩
      · refine g_tsw (tgt := 62) dX9_role_14 rfl rfl ?_
        refine g_aload_n dX9_role_62 rfl rfl ?_
        refine g_getr dX9_role_63 fX9_12 rfl rfl ?_
        refine g_getr dX9_role_66 fX9_157 rfl rfl ?_
        refine g_iload_n dX9_role_69 rfl rfl ?_
        refine g_iald dX9_role_70 rfl (by decide) ?_
        try simp only [Int.toNat_natCast]
        refine g_iret dX9_role_71 rfl ?_
        exact ⟨rfl, rfl⟩
      · refine g_tsw (tgt := 72) dX9_role_14 rfl rfl ?_
        refine g_aload_n dX9_role_72 rfl rfl ?_
        refine g_getr dX9_role_73 fX9_12 rfl rfl ?_
        refine g_getr dX9_role_76 fX9_160 rfl rfl ?_
        refine g_iload_n dX9_role_79 rfl rfl ?_
        refine g_iald dX9_role_80 rfl (by decide) ?_
        try simp only [Int.toNat_natCast]
        refine g_iret dX9_role_81 rfl ?_
        exact ⟨rfl, rfl⟩
      · refine g_tsw (tgt := 82) dX9_role_14 rfl rfl ?_
        refine g_aload_n dX9_role_82 rfl rfl ?_
        refine g_getr dX9_role_83 fX9_12 rfl rfl ?_
        refine g_getr dX9_role_86 fX9_163 rfl rfl ?_
        refine g_iload_n dX9_role_89 rfl rfl ?_
        refine g_iald dX9_role_90 rfl (by decide) ?_
        try simp only [Int.toNat_natCast]
        refine g_iret dX9_role_91 rfl ?_
        exact ⟨rfl, rfl⟩
      · refine g_tsw (tgt := 92) dX9_role_14 rfl rfl ?_
        refine g_aload_n dX9_role_92 rfl rfl ?_
        refine g_getr dX9_role_93 fX9_12 rfl rfl ?_
        refine g_getr dX9_role_96 fX9_166 rfl rfl ?_
        refine g_iload_n dX9_role_99 rfl rfl ?_
        refine g_iald dX9_role_100 rfl (by decide) ?_
        try simp only [Int.toNat_natCast]
        refine g_iret dX9_role_101 rfl ?_
        exact ⟨rfl, rfl⟩
      · refine g_tsw (tgt := 102) dX9_role_14 rfl rfl ?_
        refine g_aload_n dX9_role_102 rfl rfl ?_
        refine g_getr dX9_role_103 fX9_12 rfl rfl ?_
        refine g_getr dX9_role_106 fX9_169 rfl rfl ?_
        refine g_iload_n dX9_role_109 rfl rfl ?_
        refine g_iald dX9_role_110 rfl (by decide) ?_
        try simp only [Int.toNat_natCast]
        refine g_iret dX9_role_111 rfl ?_
        exact ⟨rfl, rfl⟩
    · refine g_tswO (tgt := 112) dX9_role_14 rfl ?_
      refine g_iconst dX9_role_112 ?_
      refine g_iret dX9_role_113 rfl ?_
      exact ⟨by unfold roleS; rw [if_neg (by omega), if_neg (by omega), if_neg (by omega), if_neg (by omega), if_neg (by omega), if_neg (by omega)], rfl⟩
  · exact absurd ⟨by omega, hr⟩ h8
theorem w_X9_roleN {d : Nat} {M : Mem} {r w : Int} (hr : ¬ (0 ≤ r ∧ r < M.1 1 11)) (r1 : -2147483648 ≤ r) (r2 : r < 2147483648) (hR0 : 0 ≤ M.1 1 10) (hR8 : M.1 1 10 ≤ 8) (hN0 : 0 ≤ M.1 1 11) (hN14 : M.1 1 11 ≤ 14) : WP wdC (d + 3) mX9_role [vr 0, vi r, vi w] M (Ret (some (vi (-1))) M) := by
  refine wp_of (by decide +kernel) (Nat.le_of_ble_eq_true rfl) ?_
  refine g_aload_n dX9_role_0 rfl rfl ?_
  refine g_getr dX9_role_1 fX9_12 rfl rfl ?_
  refine g_iload_n dX9_role_4 rfl rfl ?_
  refine g_callVr dX9_role_5 lX9_150 (w_X0_hasRole r1 r2 hR0 hR8 hN0 hN14) rfl rfl rfl rfl (Nat.le_of_ble_eq_true rfl) ?_
  refine g_if_neB (tgt := 13) dX9_role_8 rfl (fun h8 => ?_) (fun h8 => ?_)
  · exact absurd h8 hr
  · refine g_iconst dX9_role_11 ?_
    refine g_iret dX9_role_12 rfl ?_
    exact ⟨rfl, rfl⟩

