/-! MODULE 25: the class's questions. -/
def cstW (D : Mem) (k : Nat) : Int := ((RR D).2.1.getD k ([], 0)).2
def fstD (D : Mem) (a c : Nat) (z : Int) (k : Nat) : Bool := decide ((per (wy D k) a = per (wy D k) c) ↔ z = 1)
abbrev allJ (D : Mem) (a c : Nat) : Prop := ∀ w ∈ (RR D).2.1, per w.1 a = per w.1 c
def personS (D : Mem) (k : Int) (r : Nat) : Int := if isWayP D k then per (wy D k.toNat) r else -1
def costS (D : Mem) (k : Int) : Int := if isWayP D k then cstW D k.toNat else -1
def linkS (D : Mem) (a c : Nat) : Int := if haveP D then (if allJ D a c then 1 else if firstB (fstD D a c 1) (RR D).2.1.length 0 = -1 then 0 else 2) else -1
def firstS (D : Mem) (a c : Nat) (z : Int) : Int := if haveP D then firstB (fstD D a c z) (RR D).2.1.length 0 else -1
noncomputable def whyS (D : Mem) (a c : Nat) : Int := if haveP D ∧ allJ D a c then proofC D a c else -1
def quarrelS (D : Mem) : Int := if (RR D).2.2 = false ∧ (RR D).2.1.length = 0 then quarrelC D else -1
def kinW (D : Mem) (k a c : Nat) : Int := kinC (per (wy D k)) (bl D) a c
def kinS' (D : Mem) (k : Int) (a c : Nat) : Int := if isWayP D k then kinW D k.toNat a c else -1
def alw (f : Nat → Int) (v : Int) : Nat → Nat → Int
  | 0, _ => v
  | n + 1, k => if f k = v then alw f v n (k + 1) else -2
def alwaysS (D : Mem) (a c : Nat) : Int := if haveP D then alw (fun k => kinW D k a c) (kinW D 0 a c) ((RR D).2.1.length - 1) 1 else -3
theorem firstB_congr {P Q : Nat → Bool} : ∀ (n k : Nat), (∀ j, k ≤ j → j < k + n → P j = Q j) → firstB P n k = firstB Q n k
  | 0, _, _ => rfl
  | n + 1, k, h => by
    unfold firstB
    rw [h k (Nat.le_refl _) (by omega), firstB_congr n (k + 1) (fun j h1 h2 => h j (by omega) (by omega))]
theorem firstB_ge (P : Nat → Bool) : ∀ (n k : Nat), firstB P n k = -1 ∨ ((k : Int) ≤ firstB P n k ∧ firstB P n k < k + n)
  | 0, _ => Or.inl rfl
  | n + 1, k => by
    unfold firstB
    split
    · right; omega
    · rcases firstB_ge P n (k + 1) with h | h
      · exact Or.inl h
      · right; omega
theorem parN_congr {w w' : Nat → Nat} (ps : Nat) : ∀ (chs : List Nat) (acc : Nat), (∀ ch ∈ chs, w ch = w' ch ∧ w (ch + 1) = w' (ch + 1) ∧ w (ch + 2) = w' (ch + 2)) → parN w ps chs acc = parN w' ps chs acc
  | [], _, _ => rfl
  | ch :: r, acc, h => by
    obtain ⟨h1, h2, h3⟩ := h ch List.mem_cons_self
    unfold parN
    rw [h1, h2, h3]
    exact parN_congr ps r _ (fun c hc => h c (List.mem_cons_of_mem _ hc))
theorem itN_congr {w w' : Nat → Nat} {chs : List Nat} (h : ∀ ch ∈ chs, w ch = w' ch ∧ w (ch + 1) = w' (ch + 1) ∧ w (ch + 2) = w' (ch + 2)) (ps : Nat) : ∀ n, itN w chs ps n = itN w' chs ps n
  | 0 => rfl
  | n + 1 => by
    unfold itN
    rw [itN_congr h ps n, parN_congr _ chs 0 h]
theorem kinC_congr {w w' : Nat → Nat} {chs : List Nat} {a c : Nat} (h : ∀ r, r < 14 → w r = w' r) (hc : ∀ ch ∈ chs, ch + 3 ≤ 14) (ha : a < 14) (hcc : c < 14) : kinC w chs a c = kinC w' chs a c := by
  have h1 : ∀ ch ∈ chs, w ch = w' ch ∧ w (ch + 1) = w' (ch + 1) ∧ w (ch + 2) = w' (ch + 2) := fun ch hch => by
    have := hc ch hch
    exact ⟨h _ (by omega), h _ (by omega), h _ (by omega)⟩
  unfold kinC
  rw [h a ha, h c hcc, funext (itN_congr h1 (2 ^ w' a)), funext (itN_congr h1 (2 ^ w' c))]
theorem bl_mem {D : Mem} (hw : Wf D) : ∀ ch ∈ bl D, ch + 3 ≤ 14 := fun ch hch => brs_lt hw _ (Nat.le_refl _) _ (List.mem_of_mem_take hch)
theorem kinU_r (U V : Nat → Nat) (s : Nat) (hs : s ≤ 20) : ∀ (n u : Nat), u + n ≤ 11 → ∀ z, kinU U V s n u = some z → -2147483648 ≤ z ∧ z < 2147483648
  | 0, _, _, z, h => by cases h
  | n + 1, u, hu, z, h => by
    unfold kinU at h
    split at h
    · exact kinU_r U V s hs n (u + 1) (by omega) z h
    · cases h; omega
theorem kinS_r (U V : Nat → Nat) : ∀ (n s : Nat), s + n ≤ 21 → -2147483648 ≤ kinS U V n s ∧ kinS U V n s < 2147483648
  | 0, _, _ => by unfold kinS; omega
  | n + 1, s, hs => by
    unfold kinS
    split
    · next z hz => exact kinU_r U V s (by omega) _ _ (by omega) z hz
    · exact kinS_r U V n (s + 1) (by omega)
theorem kinC_r (w : Nat → Nat) (chs : List Nat) (a c : Nat) : -2147483648 ≤ kinC w chs a c ∧ kinC w chs a c < 2147483648 := kinS_r _ _ 21 0 (by omega)
theorem Ask.wf {D M : Mem} (hw : Wf D) (h : Ask D M) : WfB M := (hw.dat h.1).1

theorem w_X9_person {d : Nat} {D M : Mem} {r : Nat} (hro : (r : Int) < D.1 1 11) {k : Int} (k1 : -2147483648 ≤ k) (k2 : k < 2147483648) (hr : Ready D M) : WP wdC (d + 22) mX9_person [vr 0, vi k, vi r] M (fun v M' => v = some (vi (personS D k r)) ∧ Ask D M') := by
  have hw := hr.1
  have hB := (hw.dat hr.2.1).1
  have hRo : M.1 1 11 = D.1 1 11 := by rw [(hr.2.1 1 (by decide) (by decide)).1]
  refine wp_of (by decide +kernel) (Nat.le_of_ble_eq_true rfl) ?_
  obtain ⟨hR0, hR8, hN0, hN14⟩ := id hB
  refine g_aload_n dX9_person_0 rfl rfl ?_
  refine g_getr dX9_person_1 fX9_12 rfl rfl ?_
  refine g_iload_n dX9_person_4 rfl rfl ?_
  refine g_callVr dX9_person_5 lX9_150 (w_X0_hasRole (by omega) (by omega) hR0 hR8 hN0 hN14) rfl rfl rfl rfl (Nat.le_of_ble_eq_true rfl) ?_
  refine g_if_eqB (tgt := 19) dX9_person_8 rfl (fun h8 => ?_) (fun h8 => ?_)
  · exfalso; omega
  · refine g_aload_n dX9_person_11 rfl rfl ?_
    refine g_iload_n dX9_person_12 rfl rfl ?_
    refine g_callV dX9_person_13 lX9_181 (w_X9_isWay (d := d) k1 k2 hr) rfl rfl rfl rfl (Nat.le_of_ble_eq_true rfl) ?_
    rintro v M2 ⟨rfl, hA⟩
    show G _ _ _ _ _ _ [_] M2
    obtain ⟨q1, q2, q3, q4, q5, q6, q7⟩ := id hA.2.2.2.2.2
    change M2.1 24 11 = _ at q1
    change M2.1 24 12 = _ at q2
    obtain ⟨g1, g2, g3, g4⟩ := Ask.wf hw hA
    refine g_if_neB (tgt := 21) dX9_person_16 rfl (fun h16 => ?_) (fun h16 => ?_)
    · refine g_aload_n dX9_person_21 rfl rfl ?_
      refine g_getr dX9_person_22 fX9_44 rfl rfl ?_
      refine g_iload_n dX9_person_25 rfl rfl ?_
      refine g_callVr dX9_person_26 lX9_184 (w_X6_way (M := M2) (by omega) (by rw [q2]; omega) (by omega)) rfl rfl rfl rfl (Nat.le_of_ble_eq_true rfl) ?_
      refine g_iload_n dX9_person_29 rfl rfl ?_
      refine g_callSr dX9_person_30 lX9_188 (w_X9_personIn (by omega)) rfl rfl (Nat.le_of_ble_eq_true rfl) ?_
      refine g_iret dX9_person_33 rfl ?_
      have hd : dig (M2.2 42 k.toNat) r = _ := (q6 k.toNat (by omega) (by omega)).1 r (by omega)
      exact ⟨by unfold personS; rw [if_pos h16, hd]; rfl, hA⟩
    · refine g_iconst dX9_person_19 ?_
      refine g_iret dX9_person_20 rfl ?_
      exact ⟨by unfold personS; rw [if_neg h16], hA⟩

theorem w_X9_cost {d : Nat} {D M : Mem} {k : Int} (k1 : -2147483648 ≤ k) (k2 : k < 2147483648) (hr : Ready D M) : WP wdC (d + 22) mX9_cost [vr 0, vi k] M (fun v M' => v = some (vi (costS D k)) ∧ Ask D M') := by
  have hw := hr.1
  have hB := (hw.dat hr.2.1).1
  have hRo : M.1 1 11 = D.1 1 11 := by rw [(hr.2.1 1 (by decide) (by decide)).1]
  refine wp_of (by decide +kernel) (Nat.le_of_ble_eq_true rfl) ?_
  obtain ⟨hR0, hR8, hN0, hN14⟩ := id hB
  refine g_aload_n dX9_cost_0 rfl rfl ?_
  refine g_iload_n dX9_cost_1 rfl rfl ?_
  refine g_callV dX9_cost_2 lX9_181 (w_X9_isWay (d := d) k1 k2 hr) rfl rfl rfl rfl (Nat.le_of_ble_eq_true rfl) ?_
  rintro v M2 ⟨rfl, hA⟩
  show G _ _ _ _ _ _ [_] M2
  obtain ⟨q1, q2, q3, q4, q5, q6, q7⟩ := id hA.2.2.2.2.2
  change M2.1 24 11 = _ at q1
  change M2.1 24 12 = _ at q2
  obtain ⟨g1, g2, g3, g4⟩ := Ask.wf hw hA
  refine g_if_eqB (tgt := 19) dX9_cost_5 rfl (fun h5 => ?_) (fun h5 => ?_)
  · refine g_iconst dX9_cost_19 ?_
    refine g_iret dX9_cost_20 rfl ?_
    first
      | (have hd : M2.1 43 k.toNat = _ := (q6 k.toNat (by omega) (by omega)).2
         exact ⟨by unfold costS; rw [if_pos h5, hd]; rfl, hA⟩)
      | exact ⟨by unfold costS; rw [if_neg h5], hA⟩
  · refine g_aload_n dX9_cost_8 rfl rfl ?_
    refine g_getr dX9_cost_9 fX9_44 rfl rfl ?_
    refine g_iload_n dX9_cost_12 rfl rfl ?_
    refine g_callVr dX9_cost_13 lX9_192 (w_X6_costOf (M := M2) (by omega) (by rw [q2]; omega) (by omega)) rfl rfl rfl rfl (Nat.le_of_ble_eq_true rfl) ?_
    refine g_goto (tgt := 20) dX9_cost_16 rfl ?_
    refine g_iret dX9_cost_20 rfl ?_
    first
      | (have hd : M2.1 43 k.toNat = _ := (q6 k.toNat (by omega) (by omega)).2
         exact ⟨by unfold costS; rw [if_pos h5, hd]; rfl, hA⟩)
      | exact ⟨by unfold costS; rw [if_neg h5], hA⟩

theorem w_X9_link {d : Nat} {D M : Mem} {a c : Nat} (ha : (a : Int) < D.1 1 11) (hc : (c : Int) < D.1 1 11) (hr : Ready D M) : WP wdC (d + 22) mX9_link [vr 0, vi a, vi c] M (fun v M' => v = some (vi (linkS D a c)) ∧ Ask D M') := by
  have hw := hr.1
  have hB := (hw.dat hr.2.1).1
  have hRo : M.1 1 11 = D.1 1 11 := by rw [(hr.2.1 1 (by decide) (by decide)).1]
  refine wp_of (by decide +kernel) (Nat.le_of_ble_eq_true rfl) ?_
  obtain ⟨hR0, hR8, hN0, hN14⟩ := id hB
  refine g_aload_n dX9_link_0 rfl rfl ?_
  refine g_iload_n dX9_link_1 rfl rfl ?_
  refine g_iload_n dX9_link_2 rfl rfl ?_
  refine g_callVr dX9_link_3 lX9_195 (w_X9_areRoles (by omega) (by omega) (by omega) (by omega) hB) rfl rfl rfl rfl (Nat.le_of_ble_eq_true rfl) ?_
  refine g_if_eqB (tgt := 16) dX9_link_6 rfl (fun h6 => ?_) (fun h6 => ?_)
  · exfalso; omega
  · refine g_aload_n dX9_link_9 rfl rfl ?_
    refine g_callV dX9_link_10 lX9_198 (w_X9_haveWays (d := d) hr) rfl rfl rfl rfl (Nat.le_of_ble_eq_true rfl) ?_
    rintro v M2 ⟨rfl, hA⟩
    show G _ _ _ _ _ _ [_] M2
    obtain ⟨q1, q2, q3, q4, q5, q6, q7⟩ := id hA.2.2.2.2.2
    change M2.1 24 11 = _ at q1
    change M2.1 24 12 = _ at q2
    obtain ⟨g1, g2, g3, g4⟩ := Ask.wf hw hA
    have hR2 : M2.1 1 11 = D.1 1 11 := by rw [(hA.1 1 (by decide) (by decide)).1]
    have hjb := (q7 a (ordAll hw ha)).2.2 c (ordAll hw hc)
    change ((M2.1 27 a).toNat.testBit c = true ↔ allJ D a c) at hjb
    refine g_if_neB (tgt := 18) dX9_link_13 rfl (fun h13 => ?_) (fun h13 => ?_)
    · refine g_aload_n dX9_link_18 rfl rfl ?_
      refine g_getr dX9_link_19 fX9_44 rfl rfl ?_
      refine g_iload_n dX9_link_22 rfl rfl ?_
      refine g_iload_n dX9_link_23 rfl rfl ?_
      refine g_callVr dX9_link_24 lX9_202 (w_X6_joinsAlways (M := M2) g1 g2 g3 g4 (by rw [hR2]; exact ha) (by rw [hR2]; exact hc) ⟨(q7 a (ordAll hw ha)).1, (q7 a (ordAll hw ha)).2.1⟩) rfl rfl rfl rfl (Nat.le_of_ble_eq_true rfl) ?_
      refine g_if_eqB (tgt := 32) dX9_link_27 rfl (fun h27 => ?_) (fun h27 => ?_)
      · refine g_aload_n dX9_link_32 rfl rfl ?_
        refine g_getr dX9_link_33 fX9_44 rfl rfl ?_
        refine g_iload_n dX9_link_36 rfl rfl ?_
        refine g_iload_n dX9_link_37 rfl rfl ?_
        refine g_iconst dX9_link_38 ?_
        refine g_callVr dX9_link_39 lX9_205 (w_X6_firstWay (M := M2) (f := (RR D).2.1.length) (by omega) (by omega) (Or.inr rfl) q2 q5) rfl rfl rfl rfl (Nat.le_of_ble_eq_true rfl) ?_
        have hfb : firstB (fstP M2 a c 1) (RR D).2.1.length 0 = firstB (fstD D a c 1) (RR D).2.1.length 0 := firstB_congr _ _ (fun j _ hj => by
          have e := (q6 j (by omega) (by omega)).1
          have ea : dig (M2.2 42 j) a = per (wy D j) a := e a (by omega)
          have ec : dig (M2.2 42 j) c = per (wy D j) c := e c (by omega)
          unfold fstP fstD
          rw [ea, ec])
        rw [hfb]
        refine g_iconst dX9_link_42 ?_
        have hge := firstB_ge (fstD D a c 1) (RR D).2.1.length 0
        refine g_icmp_ne (tgt := 50) dX9_link_43 rfl (fun h43 => ?_) (fun h43 => ?_)
        · refine g_iconst dX9_link_50 ?_
          refine g_iret dX9_link_51 rfl ?_
          first
            | exact ⟨by unfold linkS; rw [if_pos h13, if_neg (fun z => h27 (hjb.mpr z)), if_pos h43], hA⟩
            | exact ⟨by unfold linkS; rw [if_pos h13, if_neg (fun z => h27 (hjb.mpr z)), if_neg h43], hA⟩
        · refine g_iconst dX9_link_46 ?_
          refine g_goto (tgt := 51) dX9_link_47 rfl ?_
          refine g_iret dX9_link_51 rfl ?_
          first
            | exact ⟨by unfold linkS; rw [if_pos h13, if_neg (fun z => h27 (hjb.mpr z)), if_pos h43], hA⟩
            | exact ⟨by unfold linkS; rw [if_pos h13, if_neg (fun z => h27 (hjb.mpr z)), if_neg h43], hA⟩
      · refine g_iconst dX9_link_30 ?_
        refine g_iret dX9_link_31 rfl ?_
        exact ⟨by unfold linkS; rw [if_pos h13, if_pos (hjb.mp h27)], hA⟩
    · refine g_iconst dX9_link_16 ?_
      refine g_iret dX9_link_17 rfl ?_
      exact ⟨by unfold linkS; rw [if_neg h13], hA⟩

theorem w_X9_first {d : Nat} {D M : Mem} {a c : Nat} (ha : (a : Int) < D.1 1 11) (hc : (c : Int) < D.1 1 11) {z : Int} (hz : z = 0 ∨ z = 1) (hr : Ready D M) : WP wdC (d + 22) mX9_first [vr 0, vi a, vi c, vi z] M (fun v M' => v = some (vi (firstS D a c z)) ∧ Ask D M') := by
  have hw := hr.1
  have hB := (hw.dat hr.2.1).1
  have hRo : M.1 1 11 = D.1 1 11 := by rw [(hr.2.1 1 (by decide) (by decide)).1]
  refine wp_of (by decide +kernel) (Nat.le_of_ble_eq_true rfl) ?_
  obtain ⟨hR0, hR8, hN0, hN14⟩ := id hB
  refine g_aload_n dX9_first_0 rfl rfl ?_
  refine g_iload_n dX9_first_1 rfl rfl ?_
  refine g_iload_n dX9_first_2 rfl rfl ?_
  refine g_callVr dX9_first_3 lX9_195 (w_X9_areRoles (by omega) (by omega) (by omega) (by omega) hB) rfl rfl rfl rfl (Nat.le_of_ble_eq_true rfl) ?_
  refine g_if_eqB (tgt := 16) dX9_first_6 rfl (fun h6 => ?_) (fun h6 => ?_)
  · exfalso; omega
  · refine g_aload_n dX9_first_9 rfl rfl ?_
    refine g_callV dX9_first_10 lX9_198 (w_X9_haveWays (d := d) hr) rfl rfl rfl rfl (Nat.le_of_ble_eq_true rfl) ?_
    rintro v M2 ⟨rfl, hA⟩
    show G _ _ _ _ _ _ [_] M2
    obtain ⟨q1, q2, q3, q4, q5, q6, q7⟩ := id hA.2.2.2.2.2
    change M2.1 24 11 = _ at q1
    change M2.1 24 12 = _ at q2
    obtain ⟨g1, g2, g3, g4⟩ := Ask.wf hw hA
    have hR2 : M2.1 1 11 = D.1 1 11 := by rw [(hA.1 1 (by decide) (by decide)).1]
    have hjb := (q7 a (ordAll hw ha)).2.2 c (ordAll hw hc)
    change ((M2.1 27 a).toNat.testBit c = true ↔ allJ D a c) at hjb
    refine g_if_neB (tgt := 18) dX9_first_13 rfl (fun h13 => ?_) (fun h13 => ?_)
    · refine g_aload_n dX9_first_18 rfl rfl ?_
      refine g_getr dX9_first_19 fX9_44 rfl rfl ?_
      refine g_iload_n dX9_first_22 rfl rfl ?_
      refine g_iload_n dX9_first_23 rfl rfl ?_
      refine g_iload_n dX9_first_24 rfl rfl ?_
      refine g_callVr dX9_first_25 lX9_205 (w_X6_firstWay (M := M2) (f := (RR D).2.1.length) (by omega) (by omega) hz q2 q5) rfl rfl rfl rfl (Nat.le_of_ble_eq_true rfl) ?_
      have hfb : firstB (fstP M2 a c z) (RR D).2.1.length 0 = firstB (fstD D a c z) (RR D).2.1.length 0 := firstB_congr _ _ (fun j _ hj => by
        have e := (q6 j (by omega) (by omega)).1
        have ea : dig (M2.2 42 j) a = per (wy D j) a := e a (by omega)
        have ec : dig (M2.2 42 j) c = per (wy D j) c := e c (by omega)
        unfold fstP fstD
        rw [ea, ec])
      rw [hfb]
      refine g_iret dX9_first_28 rfl ?_
      exact ⟨by unfold firstS; rw [if_pos h13], hA⟩
    · refine g_iconst dX9_first_16 ?_
      refine g_iret dX9_first_17 rfl ?_
      exact ⟨by unfold firstS; rw [if_neg h13], hA⟩

theorem w_X9_why {d : Nat} {D M : Mem} {a c : Nat} (ha : (a : Int) < D.1 1 11) (hc : (c : Int) < D.1 1 11) (hr : Ready D M) : WP wdC (d + 22) mX9_why [vr 0, vi a, vi c] M (fun v M' => v = some (vi (whyS D a c)) ∧ Ask D M') := by
  have hw := hr.1
  have hB := (hw.dat hr.2.1).1
  have hRo : M.1 1 11 = D.1 1 11 := by rw [(hr.2.1 1 (by decide) (by decide)).1]
  refine wp_of (by decide +kernel) (Nat.le_of_ble_eq_true rfl) ?_
  obtain ⟨hR0, hR8, hN0, hN14⟩ := id hB
  refine g_aload_n dX9_why_0 rfl rfl ?_
  refine g_iload_n dX9_why_1 rfl rfl ?_
  refine g_iload_n dX9_why_2 rfl rfl ?_
  refine g_callVr dX9_why_3 lX9_195 (w_X9_areRoles (by omega) (by omega) (by omega) (by omega) hB) rfl rfl rfl rfl (Nat.le_of_ble_eq_true rfl) ?_
  refine g_if_eqB (tgt := 28) dX9_why_6 rfl (fun h6 => ?_) (fun h6 => ?_)
  · exfalso; omega
  · refine g_aload_n dX9_why_9 rfl rfl ?_
    refine g_callV dX9_why_10 lX9_198 (w_X9_haveWays (d := d) hr) rfl rfl rfl rfl (Nat.le_of_ble_eq_true rfl) ?_
    rintro v M2 ⟨rfl, hA⟩
    show G _ _ _ _ _ _ [_] M2
    obtain ⟨q1, q2, q3, q4, q5, q6, q7⟩ := id hA.2.2.2.2.2
    change M2.1 24 11 = _ at q1
    change M2.1 24 12 = _ at q2
    obtain ⟨g1, g2, g3, g4⟩ := Ask.wf hw hA
    have hR2 : M2.1 1 11 = D.1 1 11 := by rw [(hA.1 1 (by decide) (by decide)).1]
    have hjb := (q7 a (ordAll hw ha)).2.2 c (ordAll hw hc)
    change ((M2.1 27 a).toNat.testBit c = true ↔ allJ D a c) at hjb
    refine g_if_eqB (tgt := 28) dX9_why_13 rfl (fun h13 => ?_) (fun h13 => ?_)
    · refine g_iconst dX9_why_28 ?_
      refine g_iret dX9_why_29 rfl ?_
      exact ⟨by unfold whyS; rw [if_neg (fun z => by first | exact h25 (hjb.mpr z.2) | exact h13 z.1)], hA⟩
    · refine g_aload_n dX9_why_16 rfl rfl ?_
      refine g_getr dX9_why_17 fX9_44 rfl rfl ?_
      refine g_iload_n dX9_why_20 rfl rfl ?_
      refine g_iload_n dX9_why_21 rfl rfl ?_
      refine g_callVr dX9_why_22 lX9_202 (w_X6_joinsAlways (M := M2) g1 g2 g3 g4 (by rw [hR2]; exact ha) (by rw [hR2]; exact hc) ⟨(q7 a (ordAll hw ha)).1, (q7 a (ordAll hw ha)).2.1⟩) rfl rfl rfl rfl (Nat.le_of_ble_eq_true rfl) ?_
      refine g_if_neB (tgt := 30) dX9_why_25 rfl (fun h25 => ?_) (fun h25 => ?_)
      · refine g_aload_n dX9_why_30 rfl rfl ?_
        refine g_getr dX9_why_31 fX9_53 rfl rfl ?_
        refine g_iload_n dX9_why_34 rfl rfl ?_
        refine g_iload_n dX9_why_35 rfl rfl ?_
        refine g_callV dX9_why_36 lX9_209 (w_X7_leastProof (d := d + 1) hw hA.1 hA.2.2.1 hA.2.2.2.2.1 ha hc) rfl rfl rfl rfl (Nat.le_of_ble_eq_true rfl) ?_
        rintro v M3 ⟨rfl, f1, f2⟩
        show G _ _ _ _ _ _ [vi _] M3
        refine g_iret dX9_why_39 rfl ?_
        have hA3 : Ask D M3 := by
          refine ⟨hA.1.tr (f1.dat (by decide)), ?_, hA.2.2.1.fr f1 (by decide), ?_, f2, ?_⟩
          · rw [(f1 0 (Or.inl (by decide))).1]; exact hA.2.1
          · refine ⟨?_, fun i hi => ?_⟩
            · rw [(f1 67 (Or.inr (by decide))).1]; exact hA.2.2.2.1.1
            · rw [(f1 68 (Or.inr (by decide))).1]; exact hA.2.2.2.1.2 i hi
          · refine hA.2.2.2.2.2.eq ?_ ?_ ?_ ?_ ?_ ?_
            · rw [(f1 24 (Or.inl (by decide))).1]
            · rw [(f1 24 (Or.inl (by decide))).1]
            · rw [(f1 24 (Or.inl (by decide))).1]
            · rw [(f1 (24 + 3) (Or.inl (by decide))).1]
            · rw [(f1 (24 + 18) (Or.inl (by decide))).2]
            · rw [(f1 (24 + 19) (Or.inl (by decide))).1]
        exact ⟨by unfold whyS; rw [if_pos ⟨h13, hjb.mp h25⟩], hA3⟩
      · refine g_iconst dX9_why_28 ?_
        refine g_iret dX9_why_29 rfl ?_
        exact ⟨by unfold whyS; rw [if_neg (fun z => by first | exact h25 (hjb.mpr z.2) | exact h13 z.1)], hA⟩

theorem w_X9_quarrel {d : Nat} {D M : Mem}  (hr : Ready D M) : WP wdC (d + 22) mX9_quarrel [vr 0] M (fun v M' => v = some (vi (quarrelS D)) ∧ Ask D M') := by
  have hw := hr.1
  have hB := (hw.dat hr.2.1).1
  have hRo : M.1 1 11 = D.1 1 11 := by rw [(hr.2.1 1 (by decide) (by decide)).1]
  refine wp_of (by decide +kernel) (Nat.le_of_ble_eq_true rfl) ?_
  obtain ⟨hR0, hR8, hN0, hN14⟩ := id hB
  refine g_aload_n dX9_quarrel_0 rfl rfl ?_
  refine g_callV dX9_quarrel_1 lX9_172 (w_X9_seekWays (d := d + 1) hr) rfl rfl rfl rfl (Nat.le_of_ble_eq_true rfl) ?_
  rintro v M2 ⟨rfl, hA⟩
  show G _ _ _ _ _ _ [] M2
  obtain ⟨q1, q2, q3, q4, q5, q6, q7⟩ := id hA.2.2.2.2.2
  change M2.1 24 11 = _ at q1
  change M2.1 24 12 = _ at q2
  change M2.1 24 13 = _ at q3
  refine g_aload_n dX9_quarrel_4 rfl rfl ?_
  refine g_getr dX9_quarrel_5 fX9_44 rfl rfl ?_
  refine g_get dX9_quarrel_8 fX9_175 rfl rfl ?_
  try simp only [sil, sjl, Nat.reduceAdd, Nat.reduceEqDiff, eq_self, false_and, and_false, true_and, and_true, if_false, if_true, reduceIte]
  rw [q3]
  have hbb : (if (RR D).2.2 = true then (1 : Int) else 0) = 0 ∨ (if (RR D).2.2 = true then (1 : Int) else 0) = 1 := by split <;> simp
  refine g_if_ne (tgt := 24) dX9_quarrel_11 rfl (fun h11 => ?_) (fun h11 => ?_)
  · refine g_iconst dX9_quarrel_24 ?_
    refine g_iret dX9_quarrel_25 rfl ?_
    first
      | (have h0 := spent_1 h11
         exact ⟨by unfold quarrelS; rw [if_neg (fun z => by rw [h0] at z; cases z.1)], hA⟩)
      | exact ⟨by unfold quarrelS; rw [if_neg (fun z => by omega)], hA⟩
  · refine g_aload_n dX9_quarrel_14 rfl rfl ?_
    refine g_getr dX9_quarrel_15 fX9_44 rfl rfl ?_
    refine g_get dX9_quarrel_18 fX9_178 rfl rfl ?_
    try simp only [sil, sjl, Nat.reduceAdd, Nat.reduceEqDiff, eq_self, false_and, and_false, true_and, and_true, if_false, if_true, reduceIte]
    rw [q2]
    refine g_if_le (tgt := 26) dX9_quarrel_21 rfl (fun h21 => ?_) (fun h21 => ?_)
    · refine g_aload_n dX9_quarrel_26 rfl rfl ?_
      refine g_getr dX9_quarrel_27 fX9_53 rfl rfl ?_
      refine g_callV dX9_quarrel_30 lX9_213 (w_X7_leastQuarrel (d := d + 1) hw hA.1 hA.2.2.1 hA.2.2.2.2.1) rfl rfl rfl rfl (Nat.le_of_ble_eq_true rfl) ?_
      rintro v M3 ⟨rfl, f1, f2⟩
      show G _ _ _ _ _ _ [vi _] M3
      refine g_iret dX9_quarrel_33 rfl ?_
      have h0 := spent_0 h11
      have hA3 : Ask D M3 := by
        refine ⟨hA.1.tr (f1.dat (by decide)), ?_, hA.2.2.1.fr f1 (by decide), ?_, f2, ?_⟩
        · rw [(f1 0 (Or.inl (by decide))).1]; exact hA.2.1
        · refine ⟨?_, fun i hi => ?_⟩
          · rw [(f1 67 (Or.inr (by decide))).1]; exact hA.2.2.2.1.1
          · rw [(f1 68 (Or.inr (by decide))).1]; exact hA.2.2.2.1.2 i hi
        · refine hA.2.2.2.2.2.eq ?_ ?_ ?_ ?_ ?_ ?_
          · rw [(f1 24 (Or.inl (by decide))).1]
          · rw [(f1 24 (Or.inl (by decide))).1]
          · rw [(f1 24 (Or.inl (by decide))).1]
          · rw [(f1 (24 + 3) (Or.inl (by decide))).1]
          · rw [(f1 (24 + 18) (Or.inl (by decide))).2]
          · rw [(f1 (24 + 19) (Or.inl (by decide))).1]
      exact ⟨by unfold quarrelS; rw [if_pos ⟨h0, by omega⟩], hA3⟩
    · refine g_iconst dX9_quarrel_24 ?_
      refine g_iret dX9_quarrel_25 rfl ?_
      first
        | (have h0 := spent_1 h11
           exact ⟨by unfold quarrelS; rw [if_neg (fun z => by rw [h0] at z; cases z.1)], hA⟩)
        | exact ⟨by unfold quarrelS; rw [if_neg (fun z => by omega)], hA⟩

theorem w_X9_kin {d : Nat} {D M : Mem} {a c : Nat} (ha : (a : Int) < D.1 1 11) (hc : (c : Int) < D.1 1 11) {k : Int} (k1 : -2147483648 ≤ k) (k2 : k < 2147483648) (hr : Ready D M) : WP wdC (d + 22) mX9_kin [vr 0, vi k, vi a, vi c] M (fun v M' => v = some (vi (kinS' D k a c)) ∧ Ask D M') := by
  have hw := hr.1
  have hB := (hw.dat hr.2.1).1
  have hRo : M.1 1 11 = D.1 1 11 := by rw [(hr.2.1 1 (by decide) (by decide)).1]
  refine wp_of (by decide +kernel) (Nat.le_of_ble_eq_true rfl) ?_
  obtain ⟨hR0, hR8, hN0, hN14⟩ := id hB
  refine g_aload_n dX9_kin_0 rfl rfl ?_
  refine g_iload_n dX9_kin_1 rfl rfl ?_
  refine g_iload_n dX9_kin_2 rfl rfl ?_
  refine g_callVr dX9_kin_3 lX9_195 (w_X9_areRoles (by omega) (by omega) (by omega) (by omega) hB) rfl rfl rfl rfl (Nat.le_of_ble_eq_true rfl) ?_
  refine g_if_eqB (tgt := 17) dX9_kin_6 rfl (fun h6 => ?_) (fun h6 => ?_)
  · exfalso; omega
  · refine g_aload_n dX9_kin_9 rfl rfl ?_
    refine g_iload_n dX9_kin_10 rfl rfl ?_
    refine g_callV dX9_kin_11 lX9_181 (w_X9_isWay (d := d) k1 k2 hr) rfl rfl rfl rfl (Nat.le_of_ble_eq_true rfl) ?_
    rintro v M2 ⟨rfl, hA⟩
    show G _ _ _ _ _ _ [_] M2
    obtain ⟨q1, q2, q3, q4, q5, q6, q7⟩ := id hA.2.2.2.2.2
    change M2.1 24 11 = _ at q1
    change M2.1 24 12 = _ at q2
    obtain ⟨g1, g2, g3, g4⟩ := Ask.wf hw hA
    refine g_if_neB (tgt := 19) dX9_kin_14 rfl (fun h14 => ?_) (fun h14 => ?_)
    · refine g_aload_n dX9_kin_19 rfl rfl ?_
      refine g_getr dX9_kin_20 fX9_62 rfl rfl ?_
      refine g_aload_n dX9_kin_23 rfl rfl ?_
      refine g_getr dX9_kin_24 fX9_44 rfl rfl ?_
      refine g_iload_n dX9_kin_27 rfl rfl ?_
      refine g_callVr dX9_kin_28 lX9_184 (w_X6_way (M := M2) (by omega) (by rw [q2]; omega) (by omega)) rfl rfl rfl rfl (Nat.le_of_ble_eq_true rfl) ?_
      refine g_iload_n dX9_kin_31 rfl rfl ?_
      refine g_iload_n dX9_kin_32 rfl rfl ?_
      refine g_callV dX9_kin_33 lX9_216 (w_X2_tell (D := D) (M := M2) (d := d + 18) hw hA.2.2.2.1 (by omega) (by omega)) rfl rfl rfl rfl (Nat.le_of_ble_eq_true rfl) ?_
      rintro v M3 ⟨rfl, f1⟩
      show G _ _ _ _ _ _ [vi _] M3
      refine g_iret dX9_kin_36 rfl ?_
      have hA3 : Ask D M3 := by
        refine ⟨fun p h1 h2 => ?_, ?_, ?_, ?_, fun s => ?_, ?_⟩
        · have := f1 p (by omega) (by omega); rw [this.1, this.2]; exact hA.1 p h1 h2
        · rw [(f1 0 (by decide) (by decide)).1]; exact hA.2.1
        · obtain ⟨t1, t2, t3⟩ := hA.2.2.1
          refine ⟨fun o ho => ?_, by rw [(f1 16 (by decide) (by decide)).1]; exact t2, by rw [(f1 16 (by decide) (by decide)).1]; exact t3⟩
          have := t1 o ho
          unfold TabO at this ⊢
          rw [(f1 17 (by decide) (by decide)).1, (f1 18 (by decide) (by decide)).1, (f1 19 (by decide) (by decide)).1, (f1 20 (by decide) (by decide)).1, (f1 21 (by decide) (by decide)).1, (f1 22 (by decide) (by decide)).1, (f1 23 (by decide) (by decide)).1]
          exact this
        · refine ⟨?_, fun i hi => ?_⟩
          · rw [(f1 67 (by decide) (by decide)).1]; exact hA.2.2.2.1.1
          · rw [(f1 68 (by decide) (by decide)).1]; exact hA.2.2.2.1.2 i hi
        · have := hA.2.2.2.2.1 s
          unfold SetOK at this ⊢
          rw [(f1 65 (by decide) (by decide)).1, (f1 66 (by decide) (by decide)).1]
          exact this
        · refine hA.2.2.2.2.2.eq ?_ ?_ ?_ ?_ ?_ ?_
          · rw [(f1 24 (by decide) (by decide)).1]
          · rw [(f1 24 (by decide) (by decide)).1]
          · rw [(f1 24 (by decide) (by decide)).1]
          · rw [(f1 (24 + 3) (by decide) (by decide)).1]
          · rw [(f1 (24 + 18) (by decide) (by decide)).2]
          · rw [(f1 (24 + 19) (by decide) (by decide)).1]
      have hd : kinC (dig (M2.2 42 k.toNat)) (bl D) a c = kinW D k.toNat a c := kinC_congr (fun r hr => (q6 k.toNat (by omega) (by omega)).1 r hr) (bl_mem hw) (by omega) (by omega)
      exact ⟨by unfold kinS'; rw [if_pos h14, hd], hA3⟩
    · refine g_iconst dX9_kin_17 ?_
      refine g_iret dX9_kin_18 rfl ?_
      exact ⟨by unfold kinS'; rw [if_neg h14], hA⟩

theorem w_X9_always {d : Nat} {D M : Mem} {a c : Nat} (ha : (a : Int) < D.1 1 11) (hc : (c : Int) < D.1 1 11) (hr : Ready D M) : WP wdC (d + 22) mX9_always [vr 0, vi a, vi c] M (fun v M' => v = some (vi (alwaysS D a c)) ∧ Ask D M') := by
  have hw := hr.1
  have hB := (hw.dat hr.2.1).1
  have hRo : M.1 1 11 = D.1 1 11 := by rw [(hr.2.1 1 (by decide) (by decide)).1]
  refine wp_of (by decide +kernel) (Nat.le_of_ble_eq_true rfl) ?_
  obtain ⟨hR0, hR8, hN0, hN14⟩ := id hB
  have loop : ∀ n k : Nat, k + n = (RR D).2.1.length → ∀ M2 : Mem, Ask D M2 → alw (fun k => kinW D k a c) (kinW D 0 a c) n k = alwaysS D a c → G wdC mX9_always (d + 22) (fun v M' => v = some (vi (alwaysS D a c)) ∧ Ask D M') 40 [some (vr 0), some (vi a), some (vi c), some (vi (kinW D 0 a c)), some (vi k)] [] M2 := by
    intro n
    induction n with
    | zero =>
      intro k hk M2 hA hfin
      obtain ⟨q1, q2, q3, q4, q5, q6, q7⟩ := id hA.2.2.2.2.2
      change M2.1 24 12 = _ at q2
      refine g_iload dX9_always_40 rfl ?_
      refine g_aload_n dX9_always_42 rfl rfl ?_
      refine g_getr dX9_always_43 fX9_44 rfl rfl ?_
      refine g_get dX9_always_46 fX9_178 rfl rfl ?_
      rw [q2]
      refine g_icmp_ge (tgt := 83) dX9_always_49 rfl (fun h49 => ?_) (fun h49 => ?_)
      · refine g_iload_n dX9_always_83 rfl rfl ?_
        refine g_iret dX9_always_84 rfl ?_
        exact ⟨by rw [← hfin]; rfl, hA⟩
      · exfalso; omega
    | succ n ih =>
      intro k hk M2 hA hfin
      obtain ⟨q1, q2, q3, q4, q5, q6, q7⟩ := id hA.2.2.2.2.2
      change M2.1 24 12 = _ at q2
      refine g_iload dX9_always_40 rfl ?_
      refine g_aload_n dX9_always_42 rfl rfl ?_
      refine g_getr dX9_always_43 fX9_44 rfl rfl ?_
      refine g_get dX9_always_46 fX9_178 rfl rfl ?_
      rw [q2]
      refine g_icmp_ge (tgt := 83) dX9_always_49 rfl (fun h49 => ?_) (fun h49 => ?_)
      · exfalso; omega
      · refine g_aload_n dX9_always_52 rfl rfl ?_
        refine g_getr dX9_always_53 fX9_62 rfl rfl ?_
        refine g_aload_n dX9_always_56 rfl rfl ?_
        refine g_getr dX9_always_57 fX9_44 rfl rfl ?_
        refine g_iload dX9_always_60 rfl ?_
        refine g_callVr dX9_always_62 lX9_184 (w_X6_way (M := M2) (k := (k : Int)) (by omega) (by rw [q2]; omega) (by omega)) rfl rfl rfl rfl (Nat.le_of_ble_eq_true rfl) ?_
        simp only [Int.toNat_natCast]
        refine g_iload_n dX9_always_65 rfl rfl ?_
        refine g_iload_n dX9_always_66 rfl rfl ?_
        refine g_callV dX9_always_67 lX9_216 (w_X2_tell (D := D) (M := M2) (d := d + 18) hw hA.2.2.2.1 (by omega) (by omega)) rfl rfl rfl rfl (Nat.le_of_ble_eq_true rfl) ?_
        rintro v M3 ⟨rfl, f1⟩
        show G _ _ _ _ _ _ [vi _] M3
        have hA3 : Ask D M3 := by
          refine ⟨fun p h1 h2 => ?_, ?_, ?_, ?_, fun s => ?_, ?_⟩
          · have := f1 p (by omega) (by omega); rw [this.1, this.2]; exact hA.1 p h1 h2
          · rw [(f1 0 (by decide) (by decide)).1]; exact hA.2.1
          · obtain ⟨t1, t2, t3⟩ := hA.2.2.1
            refine ⟨fun o ho => ?_, by rw [(f1 16 (by decide) (by decide)).1]; exact t2, by rw [(f1 16 (by decide) (by decide)).1]; exact t3⟩
            have := t1 o ho
            unfold TabO at this ⊢
            rw [(f1 17 (by decide) (by decide)).1, (f1 18 (by decide) (by decide)).1, (f1 19 (by decide) (by decide)).1, (f1 20 (by decide) (by decide)).1, (f1 21 (by decide) (by decide)).1, (f1 22 (by decide) (by decide)).1, (f1 23 (by decide) (by decide)).1]
            exact this
          · refine ⟨?_, fun i hi => ?_⟩
            · rw [(f1 67 (by decide) (by decide)).1]; exact hA.2.2.2.1.1
            · rw [(f1 68 (by decide) (by decide)).1]; exact hA.2.2.2.1.2 i hi
          · have := hA.2.2.2.2.1 s
            unfold SetOK at this ⊢
            rw [(f1 65 (by decide) (by decide)).1, (f1 66 (by decide) (by decide)).1]
            exact this
          · refine hA.2.2.2.2.2.eq ?_ ?_ ?_ ?_ ?_ ?_
            · rw [(f1 24 (by decide) (by decide)).1]
            · rw [(f1 24 (by decide) (by decide)).1]
            · rw [(f1 24 (by decide) (by decide)).1]
            · rw [(f1 (24 + 3) (by decide) (by decide)).1]
            · rw [(f1 (24 + 18) (by decide) (by decide)).2]
            · rw [(f1 (24 + 19) (by decide) (by decide)).1]
        have hd : kinC (dig (M2.2 42 k)) (bl D) a c = kinW D k a c := kinC_congr (fun r hr => (q6 k (by omega) (by omega)).1 r hr) (bl_mem hw) (by omega) (by omega)
        rw [hd]
        have r1 : -2147483648 ≤ kinW D k a c ∧ kinW D k a c < 2147483648 := kinC_r _ _ _ _
        have r2 : -2147483648 ≤ kinW D 0 a c ∧ kinW D 0 a c < 2147483648 := kinC_r _ _ _ _
        refine g_iload_n dX9_always_70 rfl rfl ?_
        refine g_icmp_eq (tgt := 77) dX9_always_71 rfl (fun h71 => ?_) (fun h71 => ?_)
        · refine g_iinc (ls' := [some _, some _, some _, some _, some _]) dX9_always_77 rfl rfl ?_
          refine g_goto (tgt := 40) dX9_always_80 rfl ?_
          unfold alw at hfin
          rw [if_pos h71] at hfin
          exact ih (k + 1) (by omega) M3 hA3 hfin
        · refine g_bipush dX9_always_74 rfl ?_
          refine g_iret dX9_always_76 rfl ?_
          unfold alw at hfin
          rw [if_neg h71] at hfin
          exact ⟨by rw [← hfin], hA3⟩
  refine g_aload_n dX9_always_0 rfl rfl ?_
  refine g_iload_n dX9_always_1 rfl rfl ?_
  refine g_iload_n dX9_always_2 rfl rfl ?_
  refine g_callVr dX9_always_3 lX9_195 (w_X9_areRoles (by omega) (by omega) (by omega) (by omega) hB) rfl rfl rfl rfl (Nat.le_of_ble_eq_true rfl) ?_
  refine g_if_eqB (tgt := 16) dX9_always_6 rfl (fun h6 => ?_) (fun h6 => ?_)
  · exfalso; omega
  · refine g_aload_n dX9_always_9 rfl rfl ?_
    refine g_callV dX9_always_10 lX9_198 (w_X9_haveWays (d := d) hr) rfl rfl rfl rfl (Nat.le_of_ble_eq_true rfl) ?_
    rintro v M2 ⟨rfl, hA⟩
    show G _ _ _ _ _ _ [_] M2
    obtain ⟨q1, q2, q3, q4, q5, q6, q7⟩ := id hA.2.2.2.2.2
    change M2.1 24 11 = _ at q1
    change M2.1 24 12 = _ at q2
    obtain ⟨g1, g2, g3, g4⟩ := Ask.wf hw hA
    refine g_if_neB (tgt := 19) dX9_always_13 rfl (fun h13 => ?_) (fun h13 => ?_)
    · refine g_aload_n dX9_always_19 rfl rfl ?_
      refine g_getr dX9_always_20 fX9_62 rfl rfl ?_
      refine g_aload_n dX9_always_23 rfl rfl ?_
      refine g_getr dX9_always_24 fX9_44 rfl rfl ?_
      refine g_iconst dX9_always_27 ?_
      refine g_callVr dX9_always_28 lX9_184 (w_X6_way (M := M2) (k := (0 : Int)) (by omega) (by rw [q2]; omega) (by omega)) rfl rfl rfl rfl (Nat.le_of_ble_eq_true rfl) ?_
      show G _ _ _ _ _ _ [vl (M2.2 42 0), vr _] M2
      refine g_iload_n dX9_always_31 rfl rfl ?_
      refine g_iload_n dX9_always_32 rfl rfl ?_
      refine g_callV dX9_always_33 lX9_216 (w_X2_tell (D := D) (M := M2) (d := d + 18) hw hA.2.2.2.1 (by omega) (by omega)) rfl rfl rfl rfl (Nat.le_of_ble_eq_true rfl) ?_
      rintro v M3 ⟨rfl, f1⟩
      show G _ _ _ _ _ _ [vi _] M3
      have hA3 : Ask D M3 := by
        refine ⟨fun p h1 h2 => ?_, ?_, ?_, ?_, fun s => ?_, ?_⟩
        · have := f1 p (by omega) (by omega); rw [this.1, this.2]; exact hA.1 p h1 h2
        · rw [(f1 0 (by decide) (by decide)).1]; exact hA.2.1
        · obtain ⟨t1, t2, t3⟩ := hA.2.2.1
          refine ⟨fun o ho => ?_, by rw [(f1 16 (by decide) (by decide)).1]; exact t2, by rw [(f1 16 (by decide) (by decide)).1]; exact t3⟩
          have := t1 o ho
          unfold TabO at this ⊢
          rw [(f1 17 (by decide) (by decide)).1, (f1 18 (by decide) (by decide)).1, (f1 19 (by decide) (by decide)).1, (f1 20 (by decide) (by decide)).1, (f1 21 (by decide) (by decide)).1, (f1 22 (by decide) (by decide)).1, (f1 23 (by decide) (by decide)).1]
          exact this
        · refine ⟨?_, fun i hi => ?_⟩
          · rw [(f1 67 (by decide) (by decide)).1]; exact hA.2.2.2.1.1
          · rw [(f1 68 (by decide) (by decide)).1]; exact hA.2.2.2.1.2 i hi
        · have := hA.2.2.2.2.1 s
          unfold SetOK at this ⊢
          rw [(f1 65 (by decide) (by decide)).1, (f1 66 (by decide) (by decide)).1]
          exact this
        · refine hA.2.2.2.2.2.eq ?_ ?_ ?_ ?_ ?_ ?_
          · rw [(f1 24 (by decide) (by decide)).1]
          · rw [(f1 24 (by decide) (by decide)).1]
          · rw [(f1 24 (by decide) (by decide)).1]
          · rw [(f1 (24 + 3) (by decide) (by decide)).1]
          · rw [(f1 (24 + 18) (by decide) (by decide)).2]
          · rw [(f1 (24 + 19) (by decide) (by decide)).1]
      have hd : kinC (dig (M2.2 42 0)) (bl D) a c = kinW D 0 a c := kinC_congr (fun r hr => (q6 0 (by omega) (by omega)).1 r hr) (bl_mem hw) (by omega) (by omega)
      rw [hd]
      refine g_istore_n (ls' := [some _, some _, some _, some _, _]) dX9_always_36 rfl (by decide) rfl ?_
      refine g_iconst dX9_always_37 ?_
      refine g_istore (ls' := [some _, some _, some _, some _, some _]) dX9_always_38 (by decide) rfl ?_
      exact loop ((RR D).2.1.length - 1) 1 (by omega) M3 hA3 (by unfold alwaysS; rw [if_pos h13])
    · refine g_bipush dX9_always_16 rfl ?_
      refine g_iret dX9_always_18 rfl ?_
      exact ⟨by unfold alwaysS; rw [if_neg h13], hA⟩

def aboutS (M : Mem) (w : Int) : Int := if w = 0 then M.1 1 10 else if w = 1 then M.1 1 11 else if w = 2 then M.1 12 5 else if w = 3 then M.1 24 11 else if w = 4 then M.1 12 0 else if w = 5 then M.1 12 1 else if w = 6 then M.1 12 2 else if w = 7 then M.1 12 3 else if w = 8 then M.1 12 4 else if w = 9 then M.1 12 6 else -1
theorem w_X9_about {d : Nat} {M : Mem} {w : Int} (w1 : -2147483648 ≤ w) (w2 : w < 2147483648) : WP wdC d mX9_about [vr 0, vi w] M (Ret (some (vi (aboutS M w))) M) := by
  refine wp_of (by decide +kernel) (Nat.le_of_ble_eq_true rfl) ?_
  refine g_iload_n dX9_about_0 rfl rfl ?_
  by_cases hw : 0 ≤ w ∧ w ≤ 9
  · have hw6 : w = 0 ∨ w = 1 ∨ w = 2 ∨ w = 3 ∨ w = 4 ∨ w = 5 ∨ w = 6 ∨ w = 7 ∨ w = 8 ∨ w = 9 := by omega
    rcases hw6 with rfl | rfl | rfl | rfl | rfl | rfl | rfl | rfl | rfl | rfl
    · refine g_tsw (tgt := 56) dX9_about_1 rfl rfl ?_
      refine g_aload_n dX9_about_56 rfl rfl ?_
      refine g_getr dX9_about_57 fX9_12 rfl rfl ?_
      refine g_get dX9_about_60 fX9_120 rfl rfl ?_
      refine g_iret dX9_about_63 rfl ?_
      exact ⟨rfl, rfl⟩
    · refine g_tsw (tgt := 64) dX9_about_1 rfl rfl ?_
      refine g_aload_n dX9_about_64 rfl rfl ?_
      refine g_getr dX9_about_65 fX9_12 rfl rfl ?_
      refine g_get dX9_about_68 fX9_220 rfl rfl ?_
      refine g_iret dX9_about_71 rfl ?_
      exact ⟨rfl, rfl⟩
    · refine g_tsw (tgt := 72) dX9_about_1 rfl rfl ?_
      refine g_aload_n dX9_about_72 rfl rfl ?_
      refine g_getr dX9_about_73 fX9_19 rfl rfl ?_
      refine g_get dX9_about_76 fX9_223 rfl rfl ?_
      refine g_iret dX9_about_79 rfl ?_
      exact ⟨rfl, rfl⟩
    · refine g_tsw (tgt := 80) dX9_about_1 rfl rfl ?_
      refine g_aload_n dX9_about_80 rfl rfl ?_
      refine g_getr dX9_about_81 fX9_44 rfl rfl ?_
      refine g_get dX9_about_84 fX9_226 rfl rfl ?_
      refine g_iret dX9_about_87 rfl ?_
      exact ⟨rfl, rfl⟩
    · refine g_tsw (tgt := 88) dX9_about_1 rfl rfl ?_
      refine g_aload_n dX9_about_88 rfl rfl ?_
      refine g_getr dX9_about_89 fX9_19 rfl rfl ?_
      refine g_get dX9_about_92 fX9_229 rfl rfl ?_
      refine g_iret dX9_about_95 rfl ?_
      exact ⟨rfl, rfl⟩
    · refine g_tsw (tgt := 96) dX9_about_1 rfl rfl ?_
      refine g_aload_n dX9_about_96 rfl rfl ?_
      refine g_getr dX9_about_97 fX9_19 rfl rfl ?_
      refine g_get dX9_about_100 fX9_232 rfl rfl ?_
      refine g_iret dX9_about_103 rfl ?_
      exact ⟨rfl, rfl⟩
    · refine g_tsw (tgt := 104) dX9_about_1 rfl rfl ?_
      refine g_aload_n dX9_about_104 rfl rfl ?_
      refine g_getr dX9_about_105 fX9_19 rfl rfl ?_
      refine g_get dX9_about_108 fX9_235 rfl rfl ?_
      refine g_iret dX9_about_111 rfl ?_
      exact ⟨rfl, rfl⟩
    · refine g_tsw (tgt := 112) dX9_about_1 rfl rfl ?_
      refine g_aload_n dX9_about_112 rfl rfl ?_
      refine g_getr dX9_about_113 fX9_19 rfl rfl ?_
      refine g_get dX9_about_116 fX9_238 rfl rfl ?_
      refine g_iret dX9_about_119 rfl ?_
      exact ⟨rfl, rfl⟩
    · refine g_tsw (tgt := 120) dX9_about_1 rfl rfl ?_
      refine g_aload_n dX9_about_120 rfl rfl ?_
      refine g_getr dX9_about_121 fX9_19 rfl rfl ?_
      refine g_get dX9_about_124 fX9_241 rfl rfl ?_
      refine g_iret dX9_about_127 rfl ?_
      exact ⟨rfl, rfl⟩
    · refine g_tsw (tgt := 128) dX9_about_1 rfl rfl ?_
      refine g_aload_n dX9_about_128 rfl rfl ?_
      refine g_getr dX9_about_129 fX9_19 rfl rfl ?_
      refine g_get dX9_about_132 fX9_244 rfl rfl ?_
      refine g_iret dX9_about_135 rfl ?_
      exact ⟨rfl, rfl⟩
  · refine g_tswO (tgt := 136) dX9_about_1 rfl ?_
    refine g_iconst dX9_about_136 ?_
    refine g_iret dX9_about_137 rfl ?_
    exact ⟨by unfold aboutS; rw [if_neg (by omega), if_neg (by omega), if_neg (by omega), if_neg (by omega), if_neg (by omega), if_neg (by omega), if_neg (by omega), if_neg (by omega), if_neg (by omega), if_neg (by omega)], rfl⟩

