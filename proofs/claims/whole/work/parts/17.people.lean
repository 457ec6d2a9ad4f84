/-! MODULE 13: the persons of the way that is being sought (of the seeker at b: 24, 45). -/
theorem band_r (a b : Int) : -2147483648 ≤ band a b ∧ band a b < 2147483648 := ⟨Int32.le_toInt _, Int32.toInt_lt _⟩
def TabD (D M : Mem) : Prop := (∀ o : Nat, (o : Int) < D.1 1 11 → TabO D M o) ∧ M.1 16 10 = D.1 12 5 ∧ M.1 16 11 = D.1 12 6
def Per (b : Nat) (D M : Mem) (q : Nat) (ms : List Nat) : Prop := ms ≠ [] ∧ M.1 (b + 6) q = fold1 max (ms.map (eF D)) ∧ M.1 (b + 7) q = fold1 min (ms.map (lF D)) ∧ M.1 (b + 8) q = fold1 bor (ms.map (mF D)) ∧ M.1 (b + 9) q = fold1 max (ms.map (alF D)) ∧ M.1 (b + 10) q = fold1 min (ms.map (deF D)) ∧ M.1 (b + 11) q = ms.length ∧ ∀ i, i < ms.length → M.1 (b + 12) (q * 14 + i) = (ms.getD i 0 : Nat)
def Rg (x : Int) : Prop := -2000000 ≤ x ∧ x ≤ 2000000
theorem Rg.lo {x : Int} (h : Rg x) : -2000000 ≤ x := h.1
theorem Rg.hi {x : Int} (h : Rg x) : x ≤ 2000000 := h.2
theorem fold_rg {f : Int → Int → Int} (hf : ∀ a b, Rg a → Rg b → Rg (f a b)) : ∀ (l : List Int) (a : Int), Rg a → (∀ x ∈ l, Rg x) → Rg (l.foldl f a)
  | [], a, ha, _ => ha
  | x :: r, a, ha, hl => fold_rg hf r (f a x) (hf a x ha (hl x List.mem_cons_self)) (fun y hy => hl y (List.mem_cons_of_mem _ hy))
theorem fold1_rg {f : Int → Int → Int} (hf : ∀ a b, Rg a → Rg b → Rg (f a b)) {l : List Int} (hl : ∀ x ∈ l, Rg x) : Rg (fold1 f l) := by
  cases l with
  | nil => show Rg 0; exact ⟨by decide, by decide⟩
  | cons a r => exact fold_rg hf r a (hl a List.mem_cons_self) (fun y hy => hl y (List.mem_cons_of_mem _ hy))
theorem max_rg (a b : Int) (h1 : Rg a) (h2 : Rg b) : Rg (max a b) := by unfold Rg at *; omega
theorem min_rg (a b : Int) (h1 : Rg a) (h2 : Rg b) : Rg (min a b) := by unfold Rg at *; omega
theorem F_rg {D : Mem} (hw : Wf D) {o : Nat} (ho : (o : Int) < D.1 1 11) : Rg (eF D o) ∧ Rg (lF D o) ∧ Rg (alF D o) ∧ Rg (deF D o) := by
  obtain ⟨-, -, -, -, -, hV, hL⟩ := hw
  obtain ⟨h1, h2, h3, h4, h5, h6, h7, h8, -⟩ := hV o ho
  obtain ⟨hl, -, -⟩ := hL
  unfold lawsOK at hl
  unfold eF lF alF deF ebF lbF Rg
  refine ⟨?_, ?_, ?_, ?_⟩ <;> (repeat' split) <;> omega
theorem map_rg {D : Mem} (F : Mem → Nat → Int) {ms : List Nat} (h : ∀ p ∈ ms, Rg (F D p)) : ∀ x ∈ ms.map (F D), Rg x := by
  intro x hx
  obtain ⟨p, hp, rfl⟩ := List.mem_map.mp hx
  exact h p hp
theorem addC_sum {D : Mem} {o : Nat} {ms : List Nat} (h : ms ≠ []) : addC D o ms = sumI (ms.map (apF D o)) := by
  cases ms with
  | nil => exact absurd rfl h
  | cons p r => rfl
theorem sumI_rg : ∀ (l : List Int), (∀ x ∈ l, 0 ≤ x ∧ x ≤ 16) → 0 ≤ sumI l ∧ sumI l ≤ 16 * l.length
  | [], _ => by simp [sumI]
  | x :: r, h => by
    have h1 := sumI_rg r (fun y hy => h y (List.mem_cons_of_mem _ hy))
    have h2 := h x List.mem_cons_self
    simp only [sumI, List.length_cons]
    omega
theorem addC_rg {D : Mem} (hw : Wf D) {o : Nat} {ms : List Nat} (hl : ms.length ≤ 14) : 0 ≤ addC D o ms ∧ addC D o ms ≤ 224 := by
  have hb := hw.2.2.2.2.2.2.2.1
  unfold budgetOK at hb
  cases ms with
  | nil => show 0 ≤ D.1 12 6 ∧ D.1 12 6 ≤ 224; omega
  | cons p r =>
    have := sumI_rg ((p :: r).map (apF D o)) (fun x hx => by
      obtain ⟨p', -, rfl⟩ := List.mem_map.mp hx
      exact distC_r _ _ _)
    rw [List.length_map] at this
    show 0 ≤ sumI _ ∧ sumI _ ≤ 224
    omega

theorem w_X4_admits_W {d : Nat} {M : Mem} {D : Mem} {ppl q o : Nat} {ms : List Nat} (hw : Wf D) (hT : TabD D M) (ho : (o : Int) < D.1 1 11) (hc : M.1 29 13 = ppl) (hp : ppl ≤ 13) (hq : (q = ppl ∧ ms = []) ∨ (q < ppl ∧ Per 24 D M q ms)) (hm : ∀ p ∈ ms, (p : Int) < D.1 1 11) : WP wdC (d + 1) mX4_admits [vr 29, vi q, vi o] M (Ret (some (vi (bi (feC D o ms = true)))) M) := by
  refine wp_of (by decide +kernel) (Nat.le_of_ble_eq_true rfl) ?_
  obtain ⟨hT1, -, -⟩ := hT
  obtain ⟨t1, t2, t3, t4, t5, t6, -⟩ := hT1 o ho
  have hN := hw.1
  unfold WfB at hN
  obtain ⟨g1, g2, g3, g4⟩ := F_rg hw ho
  unfold Rg at g1 g2 g3 g4
  rcases hq with ⟨rfl, rfl⟩ | ⟨hq, hne, p1, p2, p3, p4, p5, p6, p7⟩
  · refine g_iload_n dX4_admits_0 rfl rfl ?_
    refine g_callSr dX4_admits_1 lX4_56 (w_X9_isPlace (by omega) (by omega)) rfl rfl (Nat.le_of_ble_eq_true rfl) ?_
    refine g_if_eqB (tgt := 14) dX4_admits_4 rfl (fun h4 => ?_) (fun h4 => ?_)
    · exfalso; omega
    · refine g_iload_n dX4_admits_7 rfl rfl ?_
      refine g_callSr dX4_admits_8 lX4_56 (w_X9_isPlace (by omega) (by omega)) rfl rfl (Nat.le_of_ble_eq_true rfl) ?_
      refine g_if_neB (tgt := 16) dX4_admits_11 rfl (fun h11 => ?_) (fun h11 => ?_)
      · refine g_iload_n dX4_admits_16 rfl rfl ?_
        refine g_aload_n dX4_admits_17 rfl rfl ?_
        refine g_get dX4_admits_18 fX4_48 rfl rfl ?_
        refine g_icmp_lt (tgt := 51) dX4_admits_21 rfl (fun h21 => ?_) (fun h21 => ?_)
        · exfalso; omega
        · refine g_aload_n dX4_admits_24 rfl rfl ?_
          refine g_getr dX4_admits_25 fX4_52 rfl rfl ?_
          refine g_getr dX4_admits_28 fX4_60 rfl rfl ?_
          refine g_iload_n dX4_admits_31 rfl rfl ?_
          refine g_iald dX4_admits_32 rfl (by decide) ?_
          try simp only [Int.toNat_natCast]
          refine g_aload_n dX4_admits_33 rfl rfl ?_
          refine g_getr dX4_admits_34 fX4_52 rfl rfl ?_
          refine g_getr dX4_admits_37 fX4_63 rfl rfl ?_
          refine g_iload_n dX4_admits_40 rfl rfl ?_
          refine g_iald dX4_admits_41 rfl (by decide) ?_
          try simp only [Int.toNat_natCast]
          rw [t1, t2]
          refine g_icmp_gt (tgt := 49) dX4_admits_42 rfl (fun h42 => ?_) (fun h42 => ?_)
          · refine g_iconst dX4_admits_49 ?_
            refine g_zret dX4_admits_50 rfl ?_
            first | exact leafT (decide_eq_true (by omega)) | exact leafF (fun z => absurd (of_decide_eq_true z) (by omega))
          · refine g_iconst dX4_admits_45 ?_
            refine g_goto (tgt := 50) dX4_admits_46 rfl ?_
            refine g_zret dX4_admits_50 rfl ?_
            first | exact leafT (decide_eq_true (by omega)) | exact leafF (fun z => absurd (of_decide_eq_true z) (by omega))
      · exfalso; omega
  · have r1 : Rg (fold1 max (ms.map (eF D))) := fold1_rg max_rg (map_rg eF (fun p hp => (F_rg hw (hm p hp)).1))
    have r2 : Rg (fold1 min (ms.map (lF D))) := fold1_rg min_rg (map_rg lF (fun p hp => (F_rg hw (hm p hp)).2.1))
    have r4 : Rg (fold1 max (ms.map (alF D))) := fold1_rg max_rg (map_rg alF (fun p hp => (F_rg hw (hm p hp)).2.2.1))
    have r5 : Rg (fold1 min (ms.map (deF D))) := fold1_rg min_rg (map_rg deF (fun p hp => (F_rg hw (hm p hp)).2.2.2))
    unfold Rg at r1 r2 r4 r5
    have hbr := band_r (fold1 bor (ms.map (mF D))) (cF D o)
    have hfe : feC D o ms = true ↔ (band (fold1 bor (ms.map (mF D))) (cF D o) = 0 ∧ max (fold1 max (ms.map (eF D))) (eF D o) ≤ min (fold1 min (ms.map (lF D))) (lF D o) ∧ max (fold1 max (ms.map (alF D))) (alF D o) ≤ min (fold1 min (ms.map (deF D))) (deF D o)) := by
      cases ms with
      | nil => exact absurd rfl hne
      | cons p r => exact decide_eq_true_iff
    change M.1 30 q = _ at p1
    change M.1 31 q = _ at p2
    change M.1 32 q = _ at p3
    change M.1 33 q = _ at p4
    change M.1 34 q = _ at p5
    refine g_iload_n dX4_admits_0 rfl rfl ?_
    refine g_callSr dX4_admits_1 lX4_56 (w_X9_isPlace (by omega) (by omega)) rfl rfl (Nat.le_of_ble_eq_true rfl) ?_
    refine g_if_eqB (tgt := 14) dX4_admits_4 rfl (fun h4 => ?_) (fun h4 => ?_)
    · exfalso; omega
    · refine g_iload_n dX4_admits_7 rfl rfl ?_
      refine g_callSr dX4_admits_8 lX4_56 (w_X9_isPlace (by omega) (by omega)) rfl rfl (Nat.le_of_ble_eq_true rfl) ?_
      refine g_if_neB (tgt := 16) dX4_admits_11 rfl (fun h11 => ?_) (fun h11 => ?_)
      · refine g_iload_n dX4_admits_16 rfl rfl ?_
        refine g_aload_n dX4_admits_17 rfl rfl ?_
        refine g_get dX4_admits_18 fX4_48 rfl rfl ?_
        refine g_icmp_lt (tgt := 51) dX4_admits_21 rfl (fun h21 => ?_) (fun h21 => ?_)
        · refine g_aload_n dX4_admits_51 rfl rfl ?_
          refine g_getr dX4_admits_52 fX4_18 rfl rfl ?_
          refine g_iload_n dX4_admits_55 rfl rfl ?_
          refine g_iald dX4_admits_56 rfl (by decide) ?_
          try simp only [Int.toNat_natCast]
          refine g_aload_n dX4_admits_57 rfl rfl ?_
          refine g_getr dX4_admits_58 fX4_52 rfl rfl ?_
          refine g_getr dX4_admits_61 fX4_64 rfl rfl ?_
          refine g_iload_n dX4_admits_64 rfl rfl ?_
          refine g_iald dX4_admits_65 rfl (by decide) ?_
          try simp only [Int.toNat_natCast]
          refine g_iand dX4_admits_66 ?_
          rw [p3, t4]
          refine g_if_ne (tgt := 152) dX4_admits_67 rfl (fun h67 => ?_) (fun h67 => ?_)
          · refine g_iconst dX4_admits_152 ?_
            refine g_zret dX4_admits_153 rfl ?_
            first | exact leafT (hfe.mpr ⟨by omega, by omega, by omega⟩) | exact leafF (fun z => by have := hfe.mp z; omega)
          · refine g_aload_n dX4_admits_70 rfl rfl ?_
            refine g_getr dX4_admits_71 fX4_9 rfl rfl ?_
            refine g_iload_n dX4_admits_74 rfl rfl ?_
            refine g_iald dX4_admits_75 rfl (by decide) ?_
            try simp only [Int.toNat_natCast]
            refine g_aload_n dX4_admits_76 rfl rfl ?_
            refine g_getr dX4_admits_77 fX4_52 rfl rfl ?_
            refine g_getr dX4_admits_80 fX4_60 rfl rfl ?_
            refine g_iload_n dX4_admits_83 rfl rfl ?_
            refine g_iald dX4_admits_84 rfl (by decide) ?_
            try simp only [Int.toNat_natCast]
            rw [p1, t1]
            refine g_max dX4_admits_85 lX4_67 (Nat.le_of_ble_eq_true rfl) ?_
            refine g_aload_n dX4_admits_88 rfl rfl ?_
            refine g_getr dX4_admits_89 fX4_15 rfl rfl ?_
            refine g_iload_n dX4_admits_92 rfl rfl ?_
            refine g_iald dX4_admits_93 rfl (by decide) ?_
            try simp only [Int.toNat_natCast]
            refine g_aload_n dX4_admits_94 rfl rfl ?_
            refine g_getr dX4_admits_95 fX4_52 rfl rfl ?_
            refine g_getr dX4_admits_98 fX4_63 rfl rfl ?_
            refine g_iload_n dX4_admits_101 rfl rfl ?_
            refine g_iald dX4_admits_102 rfl (by decide) ?_
            try simp only [Int.toNat_natCast]
            rw [p2, t2]
            refine g_min dX4_admits_103 lX4_73 (Nat.le_of_ble_eq_true rfl) ?_
            refine g_icmp_gt (tgt := 152) dX4_admits_106 rfl (fun h106 => ?_) (fun h106 => ?_)
            · refine g_iconst dX4_admits_152 ?_
              refine g_zret dX4_admits_153 rfl ?_
              first | exact leafT (hfe.mpr ⟨by omega, by omega, by omega⟩) | exact leafF (fun z => by have := hfe.mp z; omega)
            · refine g_aload_n dX4_admits_109 rfl rfl ?_
              refine g_getr dX4_admits_110 fX4_21 rfl rfl ?_
              refine g_iload_n dX4_admits_113 rfl rfl ?_
              refine g_iald dX4_admits_114 rfl (by decide) ?_
              try simp only [Int.toNat_natCast]
              refine g_aload_n dX4_admits_115 rfl rfl ?_
              refine g_getr dX4_admits_116 fX4_52 rfl rfl ?_
              refine g_getr dX4_admits_119 fX4_76 rfl rfl ?_
              refine g_iload_n dX4_admits_122 rfl rfl ?_
              refine g_iald dX4_admits_123 rfl (by decide) ?_
              try simp only [Int.toNat_natCast]
              rw [p4, t5]
              refine g_max dX4_admits_124 lX4_67 (Nat.le_of_ble_eq_true rfl) ?_
              refine g_aload_n dX4_admits_127 rfl rfl ?_
              refine g_getr dX4_admits_128 fX4_24 rfl rfl ?_
              refine g_iload_n dX4_admits_131 rfl rfl ?_
              refine g_iald dX4_admits_132 rfl (by decide) ?_
              try simp only [Int.toNat_natCast]
              refine g_aload_n dX4_admits_133 rfl rfl ?_
              refine g_getr dX4_admits_134 fX4_52 rfl rfl ?_
              refine g_getr dX4_admits_137 fX4_77 rfl rfl ?_
              refine g_iload_n dX4_admits_140 rfl rfl ?_
              refine g_iald dX4_admits_141 rfl (by decide) ?_
              try simp only [Int.toNat_natCast]
              rw [p5, t6]
              refine g_min dX4_admits_142 lX4_73 (Nat.le_of_ble_eq_true rfl) ?_
              refine g_icmp_gt (tgt := 152) dX4_admits_145 rfl (fun h145 => ?_) (fun h145 => ?_)
              · refine g_iconst dX4_admits_152 ?_
                refine g_zret dX4_admits_153 rfl ?_
                first | exact leafT (hfe.mpr ⟨by omega, by omega, by omega⟩) | exact leafF (fun z => by have := hfe.mp z; omega)
              · refine g_iconst dX4_admits_148 ?_
                refine g_goto (tgt := 153) dX4_admits_149 rfl ?_
                refine g_zret dX4_admits_153 rfl ?_
                first | exact leafT (hfe.mpr ⟨by omega, by omega, by omega⟩) | exact leafF (fun z => by have := hfe.mp z; omega)
        · exfalso; omega
      · exfalso; omega

theorem w_X4_added_W {d : Nat} {M : Mem} {D : Mem} {ppl q o : Nat} {ms : List Nat} (hw : Wf D) (hT : TabD D M) (ho : (o : Int) < D.1 1 11) (hc : M.1 29 13 = ppl) (hp : ppl ≤ 13) (hq : (q = ppl ∧ ms = []) ∨ (q < ppl ∧ Per 24 D M q ms)) (hm : ∀ p ∈ ms, p < o) (hl : ms.length ≤ 13) : WP wdC (d + 1) mX4_added [vr 29, vi q, vi o] M (Ret (some (vi (addC D o ms))) M) := by
  refine wp_of (by decide +kernel) (Nat.le_of_ble_eq_true rfl) ?_
  obtain ⟨hT1, -, hT3⟩ := hT
  obtain ⟨-, -, -, -, -, -, t7⟩ := hT1 o ho
  have hN := hw.1
  unfold WfB at hN
  rcases hq with ⟨rfl, rfl⟩ | ⟨hq, hne, p1, p2, p3, p4, p5, p6, p7⟩
  · refine g_iload_n dX4_added_0 rfl rfl ?_
    refine g_callSr dX4_added_1 lX4_56 (w_X9_isPlace (by omega) (by omega)) rfl rfl (Nat.le_of_ble_eq_true rfl) ?_
    refine g_if_eqB (tgt := 14) dX4_added_4 rfl (fun h4 => ?_) (fun h4 => ?_)
    · exfalso; omega
    · refine g_iload_n dX4_added_7 rfl rfl ?_
      refine g_callSr dX4_added_8 lX4_56 (w_X9_isPlace (by omega) (by omega)) rfl rfl (Nat.le_of_ble_eq_true rfl) ?_
      refine g_if_neB (tgt := 16) dX4_added_11 rfl (fun h11 => ?_) (fun h11 => ?_)
      · refine g_iload_n dX4_added_16 rfl rfl ?_
        refine g_aload_n dX4_added_17 rfl rfl ?_
        refine g_get dX4_added_18 fX4_48 rfl rfl ?_
        refine g_icmp_lt (tgt := 32) dX4_added_21 rfl (fun h21 => ?_) (fun h21 => ?_)
        · exfalso; omega
        · refine g_aload_n dX4_added_24 rfl rfl ?_
          refine g_getr dX4_added_25 fX4_52 rfl rfl ?_
          refine g_get dX4_added_28 fX4_78 rfl rfl ?_
          refine g_iret dX4_added_31 rfl ?_
          refine ⟨?_, rfl⟩
          rw [hT3]
          rfl
      · exfalso; omega
  · change M.1 35 q = _ at p6
    have loop : ∀ n i : Nat, i + n = ms.length → G wdC mX4_added (d + 1) (Ret (some (vi (addC D o ms))) M) 37 [some (vr 29), some (vi q), some (vi o), some (vi (sumI ((ms.take i).map (apF D o)))), some (vi i)] [] M := by
      intro n
      induction n with
      | zero =>
        intro i hi
        refine g_iload dX4_added_37 rfl ?_
        refine g_aload_n dX4_added_39 rfl rfl ?_
        refine g_getr dX4_added_40 fX4_27 rfl rfl ?_
        refine g_iload_n dX4_added_43 rfl rfl ?_
        refine g_iald dX4_added_44 rfl (by decide) ?_
        try simp only [Int.toNat_natCast]
        refine g_icmp_ge (tgt := 89) dX4_added_45 rfl (fun h45 => ?_) (fun h45 => ?_)
        · refine g_iload_n dX4_added_89 rfl rfl ?_
          refine g_iret dX4_added_90 rfl ?_
          refine ⟨?_, rfl⟩
          rw [addC_sum hne, List.take_of_length_le (by omega)]
        · exfalso; omega
      | succ n ih =>
        intro i hi
        have hmi : ms.getD i 0 ∈ ms := by
          rw [List.getD_eq_getElem?_getD, List.getElem?_eq_getElem (by omega)]
          exact List.getElem_mem _
        have hp7 : M.1 36 (q * 14 + i) = _ := p7 i (by omega)
        have hlt := hm _ hmi
        have e1 : ((q : Int) * 14 + i).toNat = q * 14 + i := by omega
        have e2 : ((o : Int) * 14 + (ms.getD i 0 : Nat)).toNat = o * 14 + ms.getD i 0 := by omega
        have t8 := t7 _ hlt
        refine g_iload dX4_added_37 rfl ?_
        refine g_aload_n dX4_added_39 rfl rfl ?_
        refine g_getr dX4_added_40 fX4_27 rfl rfl ?_
        refine g_iload_n dX4_added_43 rfl rfl ?_
        refine g_iald dX4_added_44 rfl (by decide) ?_
        try simp only [Int.toNat_natCast]
        refine g_icmp_ge (tgt := 89) dX4_added_45 rfl (fun h45 => ?_) (fun h45 => ?_)
        · exfalso; omega
        · refine g_iload dX4_added_48 rfl ?_
          refine g_bipush dX4_added_50 rfl ?_
          refine g_icmp_ge (tgt := 89) dX4_added_52 rfl (fun h52 => ?_) (fun h52 => ?_)
          · exfalso; omega
          · refine g_iload_n dX4_added_55 rfl rfl ?_
            refine g_aload_n dX4_added_56 rfl rfl ?_
            refine g_getr dX4_added_57 fX4_52 rfl rfl ?_
            refine g_getr dX4_added_60 fX4_81 rfl rfl ?_
            refine g_iload_n dX4_added_63 rfl rfl ?_
            refine g_bipush dX4_added_64 rfl ?_
            refine g_imul dX4_added_66 ?_
            refine g_aload_n dX4_added_67 rfl rfl ?_
            refine g_getr dX4_added_68 fX4_30 rfl rfl ?_
            refine g_iload_n dX4_added_71 rfl rfl ?_
            refine g_bipush dX4_added_72 rfl ?_
            refine g_imul dX4_added_74 ?_
            refine g_iload dX4_added_75 rfl ?_
            refine g_iadd dX4_added_77 ?_
            refine g_iald dX4_added_78 rfl (by decide) ?_
            try simp only [Int.toNat_natCast]
            rw [e1, hp7]
            refine g_iadd dX4_added_79 ?_
            refine g_iald dX4_added_80 rfl (by decide) ?_
            try simp only [Int.toNat_natCast]
            rw [e2, t8]
            refine g_iadd dX4_added_81 ?_
            refine g_istore_n (ls' := [some _, some _, some _, some _, some _]) dX4_added_82 rfl (by decide) rfl ?_
            refine g_iinc (ls' := [some _, some _, some _, some _, some _]) dX4_added_83 rfl rfl ?_
            refine g_goto (tgt := 37) dX4_added_86 rfl ?_
            have h9 := ih (i + 1) (by omega)
            rw [List.take_add_one, List.map_append, sumI_app, List.getElem?_eq_getElem (by omega)] at h9
            have e3 : ms.getD i 0 = ms[i]'(by omega) := by rw [List.getD_eq_getElem?_getD, List.getElem?_eq_getElem (by omega)]; rfl
            rw [e3]
            simpa [sumI, kl] using h9
    refine g_iload_n dX4_added_0 rfl rfl ?_
    refine g_callSr dX4_added_1 lX4_56 (w_X9_isPlace (by omega) (by omega)) rfl rfl (Nat.le_of_ble_eq_true rfl) ?_
    refine g_if_eqB (tgt := 14) dX4_added_4 rfl (fun h4 => ?_) (fun h4 => ?_)
    · exfalso; omega
    · refine g_iload_n dX4_added_7 rfl rfl ?_
      refine g_callSr dX4_added_8 lX4_56 (w_X9_isPlace (by omega) (by omega)) rfl rfl (Nat.le_of_ble_eq_true rfl) ?_
      refine g_if_neB (tgt := 16) dX4_added_11 rfl (fun h11 => ?_) (fun h11 => ?_)
      · refine g_iload_n dX4_added_16 rfl rfl ?_
        refine g_aload_n dX4_added_17 rfl rfl ?_
        refine g_get dX4_added_18 fX4_48 rfl rfl ?_
        refine g_icmp_lt (tgt := 32) dX4_added_21 rfl (fun h21 => ?_) (fun h21 => ?_)
        · refine g_iconst dX4_added_32 ?_
          refine g_istore_n (ls' := [some _, some _, some _, some _, _]) dX4_added_33 rfl (by decide) rfl ?_
          refine g_iconst dX4_added_34 ?_
          refine g_istore (ls' := [some _, some _, some _, some _, some _]) dX4_added_35 (by decide) rfl ?_
          exact loop ms.length 0 (by omega)
        · exfalso; omega
      · exfalso; omega

theorem w_X4_admits_V {d : Nat} {M : Mem} {D : Mem} {ppl q o : Nat} {ms : List Nat} (hw : Wf D) (hT : TabD D M) (ho : (o : Int) < D.1 1 11) (hc : M.1 50 13 = ppl) (hp : ppl ≤ 13) (hq : (q = ppl ∧ ms = []) ∨ (q < ppl ∧ Per 45 D M q ms)) (hm : ∀ p ∈ ms, (p : Int) < D.1 1 11) : WP wdC (d + 1) mX4_admits [vr 50, vi q, vi o] M (Ret (some (vi (bi (feC D o ms = true)))) M) := by
  refine wp_of (by decide +kernel) (Nat.le_of_ble_eq_true rfl) ?_
  obtain ⟨hT1, -, -⟩ := hT
  obtain ⟨t1, t2, t3, t4, t5, t6, -⟩ := hT1 o ho
  have hN := hw.1
  unfold WfB at hN
  obtain ⟨g1, g2, g3, g4⟩ := F_rg hw ho
  unfold Rg at g1 g2 g3 g4
  rcases hq with ⟨rfl, rfl⟩ | ⟨hq, hne, p1, p2, p3, p4, p5, p6, p7⟩
  · refine g_iload_n dX4_admits_0 rfl rfl ?_
    refine g_callSr dX4_admits_1 lX4_56 (w_X9_isPlace (by omega) (by omega)) rfl rfl (Nat.le_of_ble_eq_true rfl) ?_
    refine g_if_eqB (tgt := 14) dX4_admits_4 rfl (fun h4 => ?_) (fun h4 => ?_)
    · exfalso; omega
    · refine g_iload_n dX4_admits_7 rfl rfl ?_
      refine g_callSr dX4_admits_8 lX4_56 (w_X9_isPlace (by omega) (by omega)) rfl rfl (Nat.le_of_ble_eq_true rfl) ?_
      refine g_if_neB (tgt := 16) dX4_admits_11 rfl (fun h11 => ?_) (fun h11 => ?_)
      · refine g_iload_n dX4_admits_16 rfl rfl ?_
        refine g_aload_n dX4_admits_17 rfl rfl ?_
        refine g_get dX4_admits_18 fX4_48 rfl rfl ?_
        refine g_icmp_lt (tgt := 51) dX4_admits_21 rfl (fun h21 => ?_) (fun h21 => ?_)
        · exfalso; omega
        · refine g_aload_n dX4_admits_24 rfl rfl ?_
          refine g_getr dX4_admits_25 fX4_52 rfl rfl ?_
          refine g_getr dX4_admits_28 fX4_60 rfl rfl ?_
          refine g_iload_n dX4_admits_31 rfl rfl ?_
          refine g_iald dX4_admits_32 rfl (by decide) ?_
          try simp only [Int.toNat_natCast]
          refine g_aload_n dX4_admits_33 rfl rfl ?_
          refine g_getr dX4_admits_34 fX4_52 rfl rfl ?_
          refine g_getr dX4_admits_37 fX4_63 rfl rfl ?_
          refine g_iload_n dX4_admits_40 rfl rfl ?_
          refine g_iald dX4_admits_41 rfl (by decide) ?_
          try simp only [Int.toNat_natCast]
          rw [t1, t2]
          refine g_icmp_gt (tgt := 49) dX4_admits_42 rfl (fun h42 => ?_) (fun h42 => ?_)
          · refine g_iconst dX4_admits_49 ?_
            refine g_zret dX4_admits_50 rfl ?_
            first | exact leafT (decide_eq_true (by omega)) | exact leafF (fun z => absurd (of_decide_eq_true z) (by omega))
          · refine g_iconst dX4_admits_45 ?_
            refine g_goto (tgt := 50) dX4_admits_46 rfl ?_
            refine g_zret dX4_admits_50 rfl ?_
            first | exact leafT (decide_eq_true (by omega)) | exact leafF (fun z => absurd (of_decide_eq_true z) (by omega))
      · exfalso; omega
  · have r1 : Rg (fold1 max (ms.map (eF D))) := fold1_rg max_rg (map_rg eF (fun p hp => (F_rg hw (hm p hp)).1))
    have r2 : Rg (fold1 min (ms.map (lF D))) := fold1_rg min_rg (map_rg lF (fun p hp => (F_rg hw (hm p hp)).2.1))
    have r4 : Rg (fold1 max (ms.map (alF D))) := fold1_rg max_rg (map_rg alF (fun p hp => (F_rg hw (hm p hp)).2.2.1))
    have r5 : Rg (fold1 min (ms.map (deF D))) := fold1_rg min_rg (map_rg deF (fun p hp => (F_rg hw (hm p hp)).2.2.2))
    unfold Rg at r1 r2 r4 r5
    have hbr := band_r (fold1 bor (ms.map (mF D))) (cF D o)
    have hfe : feC D o ms = true ↔ (band (fold1 bor (ms.map (mF D))) (cF D o) = 0 ∧ max (fold1 max (ms.map (eF D))) (eF D o) ≤ min (fold1 min (ms.map (lF D))) (lF D o) ∧ max (fold1 max (ms.map (alF D))) (alF D o) ≤ min (fold1 min (ms.map (deF D))) (deF D o)) := by
      cases ms with
      | nil => exact absurd rfl hne
      | cons p r => exact decide_eq_true_iff
    change M.1 51 q = _ at p1
    change M.1 52 q = _ at p2
    change M.1 53 q = _ at p3
    change M.1 54 q = _ at p4
    change M.1 55 q = _ at p5
    refine g_iload_n dX4_admits_0 rfl rfl ?_
    refine g_callSr dX4_admits_1 lX4_56 (w_X9_isPlace (by omega) (by omega)) rfl rfl (Nat.le_of_ble_eq_true rfl) ?_
    refine g_if_eqB (tgt := 14) dX4_admits_4 rfl (fun h4 => ?_) (fun h4 => ?_)
    · exfalso; omega
    · refine g_iload_n dX4_admits_7 rfl rfl ?_
      refine g_callSr dX4_admits_8 lX4_56 (w_X9_isPlace (by omega) (by omega)) rfl rfl (Nat.le_of_ble_eq_true rfl) ?_
      refine g_if_neB (tgt := 16) dX4_admits_11 rfl (fun h11 => ?_) (fun h11 => ?_)
      · refine g_iload_n dX4_admits_16 rfl rfl ?_
        refine g_aload_n dX4_admits_17 rfl rfl ?_
        refine g_get dX4_admits_18 fX4_48 rfl rfl ?_
        refine g_icmp_lt (tgt := 51) dX4_admits_21 rfl (fun h21 => ?_) (fun h21 => ?_)
        · refine g_aload_n dX4_admits_51 rfl rfl ?_
          refine g_getr dX4_admits_52 fX4_18 rfl rfl ?_
          refine g_iload_n dX4_admits_55 rfl rfl ?_
          refine g_iald dX4_admits_56 rfl (by decide) ?_
          try simp only [Int.toNat_natCast]
          refine g_aload_n dX4_admits_57 rfl rfl ?_
          refine g_getr dX4_admits_58 fX4_52 rfl rfl ?_
          refine g_getr dX4_admits_61 fX4_64 rfl rfl ?_
          refine g_iload_n dX4_admits_64 rfl rfl ?_
          refine g_iald dX4_admits_65 rfl (by decide) ?_
          try simp only [Int.toNat_natCast]
          refine g_iand dX4_admits_66 ?_
          rw [p3, t4]
          refine g_if_ne (tgt := 152) dX4_admits_67 rfl (fun h67 => ?_) (fun h67 => ?_)
          · refine g_iconst dX4_admits_152 ?_
            refine g_zret dX4_admits_153 rfl ?_
            first | exact leafT (hfe.mpr ⟨by omega, by omega, by omega⟩) | exact leafF (fun z => by have := hfe.mp z; omega)
          · refine g_aload_n dX4_admits_70 rfl rfl ?_
            refine g_getr dX4_admits_71 fX4_9 rfl rfl ?_
            refine g_iload_n dX4_admits_74 rfl rfl ?_
            refine g_iald dX4_admits_75 rfl (by decide) ?_
            try simp only [Int.toNat_natCast]
            refine g_aload_n dX4_admits_76 rfl rfl ?_
            refine g_getr dX4_admits_77 fX4_52 rfl rfl ?_
            refine g_getr dX4_admits_80 fX4_60 rfl rfl ?_
            refine g_iload_n dX4_admits_83 rfl rfl ?_
            refine g_iald dX4_admits_84 rfl (by decide) ?_
            try simp only [Int.toNat_natCast]
            rw [p1, t1]
            refine g_max dX4_admits_85 lX4_67 (Nat.le_of_ble_eq_true rfl) ?_
            refine g_aload_n dX4_admits_88 rfl rfl ?_
            refine g_getr dX4_admits_89 fX4_15 rfl rfl ?_
            refine g_iload_n dX4_admits_92 rfl rfl ?_
            refine g_iald dX4_admits_93 rfl (by decide) ?_
            try simp only [Int.toNat_natCast]
            refine g_aload_n dX4_admits_94 rfl rfl ?_
            refine g_getr dX4_admits_95 fX4_52 rfl rfl ?_
            refine g_getr dX4_admits_98 fX4_63 rfl rfl ?_
            refine g_iload_n dX4_admits_101 rfl rfl ?_
            refine g_iald dX4_admits_102 rfl (by decide) ?_
            try simp only [Int.toNat_natCast]
            rw [p2, t2]
            refine g_min dX4_admits_103 lX4_73 (Nat.le_of_ble_eq_true rfl) ?_
            refine g_icmp_gt (tgt := 152) dX4_admits_106 rfl (fun h106 => ?_) (fun h106 => ?_)
            · refine g_iconst dX4_admits_152 ?_
              refine g_zret dX4_admits_153 rfl ?_
              first | exact leafT (hfe.mpr ⟨by omega, by omega, by omega⟩) | exact leafF (fun z => by have := hfe.mp z; omega)
            · refine g_aload_n dX4_admits_109 rfl rfl ?_
              refine g_getr dX4_admits_110 fX4_21 rfl rfl ?_
              refine g_iload_n dX4_admits_113 rfl rfl ?_
              refine g_iald dX4_admits_114 rfl (by decide) ?_
              try simp only [Int.toNat_natCast]
              refine g_aload_n dX4_admits_115 rfl rfl ?_
              refine g_getr dX4_admits_116 fX4_52 rfl rfl ?_
              refine g_getr dX4_admits_119 fX4_76 rfl rfl ?_
              refine g_iload_n dX4_admits_122 rfl rfl ?_
              refine g_iald dX4_admits_123 rfl (by decide) ?_
              try simp only [Int.toNat_natCast]
              rw [p4, t5]
              refine g_max dX4_admits_124 lX4_67 (Nat.le_of_ble_eq_true rfl) ?_
              refine g_aload_n dX4_admits_127 rfl rfl ?_
              refine g_getr dX4_admits_128 fX4_24 rfl rfl ?_
              refine g_iload_n dX4_admits_131 rfl rfl ?_
              refine g_iald dX4_admits_132 rfl (by decide) ?_
              try simp only [Int.toNat_natCast]
              refine g_aload_n dX4_admits_133 rfl rfl ?_
              refine g_getr dX4_admits_134 fX4_52 rfl rfl ?_
              refine g_getr dX4_admits_137 fX4_77 rfl rfl ?_
              refine g_iload_n dX4_admits_140 rfl rfl ?_
              refine g_iald dX4_admits_141 rfl (by decide) ?_
              try simp only [Int.toNat_natCast]
              rw [p5, t6]
              refine g_min dX4_admits_142 lX4_73 (Nat.le_of_ble_eq_true rfl) ?_
              refine g_icmp_gt (tgt := 152) dX4_admits_145 rfl (fun h145 => ?_) (fun h145 => ?_)
              · refine g_iconst dX4_admits_152 ?_
                refine g_zret dX4_admits_153 rfl ?_
                first | exact leafT (hfe.mpr ⟨by omega, by omega, by omega⟩) | exact leafF (fun z => by have := hfe.mp z; omega)
              · refine g_iconst dX4_admits_148 ?_
                refine g_goto (tgt := 153) dX4_admits_149 rfl ?_
                refine g_zret dX4_admits_153 rfl ?_
                first | exact leafT (hfe.mpr ⟨by omega, by omega, by omega⟩) | exact leafF (fun z => by have := hfe.mp z; omega)
        · exfalso; omega
      · exfalso; omega

theorem w_X4_added_V {d : Nat} {M : Mem} {D : Mem} {ppl q o : Nat} {ms : List Nat} (hw : Wf D) (hT : TabD D M) (ho : (o : Int) < D.1 1 11) (hc : M.1 50 13 = ppl) (hp : ppl ≤ 13) (hq : (q = ppl ∧ ms = []) ∨ (q < ppl ∧ Per 45 D M q ms)) (hm : ∀ p ∈ ms, p < o) (hl : ms.length ≤ 13) : WP wdC (d + 1) mX4_added [vr 50, vi q, vi o] M (Ret (some (vi (addC D o ms))) M) := by
  refine wp_of (by decide +kernel) (Nat.le_of_ble_eq_true rfl) ?_
  obtain ⟨hT1, -, hT3⟩ := hT
  obtain ⟨-, -, -, -, -, -, t7⟩ := hT1 o ho
  have hN := hw.1
  unfold WfB at hN
  rcases hq with ⟨rfl, rfl⟩ | ⟨hq, hne, p1, p2, p3, p4, p5, p6, p7⟩
  · refine g_iload_n dX4_added_0 rfl rfl ?_
    refine g_callSr dX4_added_1 lX4_56 (w_X9_isPlace (by omega) (by omega)) rfl rfl (Nat.le_of_ble_eq_true rfl) ?_
    refine g_if_eqB (tgt := 14) dX4_added_4 rfl (fun h4 => ?_) (fun h4 => ?_)
    · exfalso; omega
    · refine g_iload_n dX4_added_7 rfl rfl ?_
      refine g_callSr dX4_added_8 lX4_56 (w_X9_isPlace (by omega) (by omega)) rfl rfl (Nat.le_of_ble_eq_true rfl) ?_
      refine g_if_neB (tgt := 16) dX4_added_11 rfl (fun h11 => ?_) (fun h11 => ?_)
      · refine g_iload_n dX4_added_16 rfl rfl ?_
        refine g_aload_n dX4_added_17 rfl rfl ?_
        refine g_get dX4_added_18 fX4_48 rfl rfl ?_
        refine g_icmp_lt (tgt := 32) dX4_added_21 rfl (fun h21 => ?_) (fun h21 => ?_)
        · exfalso; omega
        · refine g_aload_n dX4_added_24 rfl rfl ?_
          refine g_getr dX4_added_25 fX4_52 rfl rfl ?_
          refine g_get dX4_added_28 fX4_78 rfl rfl ?_
          refine g_iret dX4_added_31 rfl ?_
          refine ⟨?_, rfl⟩
          rw [hT3]
          rfl
      · exfalso; omega
  · change M.1 56 q = _ at p6
    have loop : ∀ n i : Nat, i + n = ms.length → G wdC mX4_added (d + 1) (Ret (some (vi (addC D o ms))) M) 37 [some (vr 50), some (vi q), some (vi o), some (vi (sumI ((ms.take i).map (apF D o)))), some (vi i)] [] M := by
      intro n
      induction n with
      | zero =>
        intro i hi
        refine g_iload dX4_added_37 rfl ?_
        refine g_aload_n dX4_added_39 rfl rfl ?_
        refine g_getr dX4_added_40 fX4_27 rfl rfl ?_
        refine g_iload_n dX4_added_43 rfl rfl ?_
        refine g_iald dX4_added_44 rfl (by decide) ?_
        try simp only [Int.toNat_natCast]
        refine g_icmp_ge (tgt := 89) dX4_added_45 rfl (fun h45 => ?_) (fun h45 => ?_)
        · refine g_iload_n dX4_added_89 rfl rfl ?_
          refine g_iret dX4_added_90 rfl ?_
          refine ⟨?_, rfl⟩
          rw [addC_sum hne, List.take_of_length_le (by omega)]
        · exfalso; omega
      | succ n ih =>
        intro i hi
        have hmi : ms.getD i 0 ∈ ms := by
          rw [List.getD_eq_getElem?_getD, List.getElem?_eq_getElem (by omega)]
          exact List.getElem_mem _
        have hp7 : M.1 57 (q * 14 + i) = _ := p7 i (by omega)
        have hlt := hm _ hmi
        have e1 : ((q : Int) * 14 + i).toNat = q * 14 + i := by omega
        have e2 : ((o : Int) * 14 + (ms.getD i 0 : Nat)).toNat = o * 14 + ms.getD i 0 := by omega
        have t8 := t7 _ hlt
        refine g_iload dX4_added_37 rfl ?_
        refine g_aload_n dX4_added_39 rfl rfl ?_
        refine g_getr dX4_added_40 fX4_27 rfl rfl ?_
        refine g_iload_n dX4_added_43 rfl rfl ?_
        refine g_iald dX4_added_44 rfl (by decide) ?_
        try simp only [Int.toNat_natCast]
        refine g_icmp_ge (tgt := 89) dX4_added_45 rfl (fun h45 => ?_) (fun h45 => ?_)
        · exfalso; omega
        · refine g_iload dX4_added_48 rfl ?_
          refine g_bipush dX4_added_50 rfl ?_
          refine g_icmp_ge (tgt := 89) dX4_added_52 rfl (fun h52 => ?_) (fun h52 => ?_)
          · exfalso; omega
          · refine g_iload_n dX4_added_55 rfl rfl ?_
            refine g_aload_n dX4_added_56 rfl rfl ?_
            refine g_getr dX4_added_57 fX4_52 rfl rfl ?_
            refine g_getr dX4_added_60 fX4_81 rfl rfl ?_
            refine g_iload_n dX4_added_63 rfl rfl ?_
            refine g_bipush dX4_added_64 rfl ?_
            refine g_imul dX4_added_66 ?_
            refine g_aload_n dX4_added_67 rfl rfl ?_
            refine g_getr dX4_added_68 fX4_30 rfl rfl ?_
            refine g_iload_n dX4_added_71 rfl rfl ?_
            refine g_bipush dX4_added_72 rfl ?_
            refine g_imul dX4_added_74 ?_
            refine g_iload dX4_added_75 rfl ?_
            refine g_iadd dX4_added_77 ?_
            refine g_iald dX4_added_78 rfl (by decide) ?_
            try simp only [Int.toNat_natCast]
            rw [e1, hp7]
            refine g_iadd dX4_added_79 ?_
            refine g_iald dX4_added_80 rfl (by decide) ?_
            try simp only [Int.toNat_natCast]
            rw [e2, t8]
            refine g_iadd dX4_added_81 ?_
            refine g_istore_n (ls' := [some _, some _, some _, some _, some _]) dX4_added_82 rfl (by decide) rfl ?_
            refine g_iinc (ls' := [some _, some _, some _, some _, some _]) dX4_added_83 rfl rfl ?_
            refine g_goto (tgt := 37) dX4_added_86 rfl ?_
            have h9 := ih (i + 1) (by omega)
            rw [List.take_add_one, List.map_append, sumI_app, List.getElem?_eq_getElem (by omega)] at h9
            have e3 : ms.getD i 0 = ms[i]'(by omega) := by rw [List.getD_eq_getElem?_getD, List.getElem?_eq_getElem (by omega)]; rfl
            rw [e3]
            simpa [sumI, kl] using h9
    refine g_iload_n dX4_added_0 rfl rfl ?_
    refine g_callSr dX4_added_1 lX4_56 (w_X9_isPlace (by omega) (by omega)) rfl rfl (Nat.le_of_ble_eq_true rfl) ?_
    refine g_if_eqB (tgt := 14) dX4_added_4 rfl (fun h4 => ?_) (fun h4 => ?_)
    · exfalso; omega
    · refine g_iload_n dX4_added_7 rfl rfl ?_
      refine g_callSr dX4_added_8 lX4_56 (w_X9_isPlace (by omega) (by omega)) rfl rfl (Nat.le_of_ble_eq_true rfl) ?_
      refine g_if_neB (tgt := 16) dX4_added_11 rfl (fun h11 => ?_) (fun h11 => ?_)
      · refine g_iload_n dX4_added_16 rfl rfl ?_
        refine g_aload_n dX4_added_17 rfl rfl ?_
        refine g_get dX4_added_18 fX4_48 rfl rfl ?_
        refine g_icmp_lt (tgt := 32) dX4_added_21 rfl (fun h21 => ?_) (fun h21 => ?_)
        · refine g_iconst dX4_added_32 ?_
          refine g_istore_n (ls' := [some _, some _, some _, some _, _]) dX4_added_33 rfl (by decide) rfl ?_
          refine g_iconst dX4_added_34 ?_
          refine g_istore (ls' := [some _, some _, some _, some _, some _]) dX4_added_35 (by decide) rfl ?_
          exact loop ms.length 0 (by omega)
        · exfalso; omega
      · exfalso; omega

