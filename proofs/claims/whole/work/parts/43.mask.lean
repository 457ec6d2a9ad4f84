/-! MODULE 39: what the reference answers when it has sought. -/
def SoughtM (D M : Mem) : Prop := (((RR D).2.2 = true ∧ M.1 0 37 = 0 ∧ M.1 0 38 = 1) ∨ ((RR D).2.2 = false ∧ M.1 0 37 = (RR D).2.1.length ∧ M.1 0 38 = 0)) ∧ M.1 0 39 = (RR D).1 ∧ (RR D).2.1.length ≤ 3000 ∧ ∀ i, i < (RR D).2.1.length → (∀ r : Nat, (r : Int) < D.1 1 11 → M.1 19 (14 * i + r) = per (wy D i) r) ∧ M.1 20 i = ((RR D).2.1.getD i ([], 0)).2 ∧ ∀ x ∈ wy D i, x.2 < 15
def AskM (D M M' : Mem) : Prop := MDat M M' ∧ M'.1 0 21 = 1 ∧ SoughtM D M'
def ReadyM (D M : Mem) : Prop := Wf D ∧ DR D M ∧ (M.1 0 21 = 0 ∨ (M.1 0 21 = 1 ∧ SoughtM D M))
theorem ordAll_eq {D : Mem} (hw : Wf D) : ordOf D (allS D) = List.range (nN D) := by
  unfold ordOf
  refine List.filter_eq_self.mpr (fun o ho => ?_)
  rw [List.mem_range] at ho
  have := ordAll hw (o := o) (by have := hw.1.2.2.1; unfold nN at ho; omega)
  exact (mem_ordOf.mp this).2
theorem rng_getD {n j : Nat} (h : j < n) : (List.range n).getD j 0 = j := by
  rw [List.getD_eq_getElem?_getD, List.getElem?_range h]; rfl

theorem w_X10_soughtAll {d : Nat} {D M : Mem} (hr : ReadyM D M) : WP wdM (d + 4) mX10_soughtAll [vr 0] M (fun v M' => v = none ∧ AskM D M M') := by
  refine wp_of (by decide +kernel) (Nat.le_of_ble_eq_true rfl) ?_
  obtain ⟨hw, hD, hs⟩ := id hr
  obtain ⟨t1, t2, t3, t4⟩ := hD.bd hw
  have hro := hD.1.2.1
  have loop : ∀ n i : Nat, i + n = nN D → M.1 0 21 = 0 → ∀ M1 : Mem, MDat M M1 → M1.1 0 28 = M.1 0 13 → (∀ j, j < i → M1.1 15 j = (j : Nat)) → G wdM mX10_soughtAll (d + 4) (fun v M' => v = none ∧ AskM D M M') 18 [some (vr 0), some (vi i)] [] M1 := by
    intro n
    unfold nN
    induction n with
    | zero =>
      intro i hi h0 M1 hM h28 hth
      have hN : M1.1 0 13 = D.1 1 11 := by rw [hM.1 13 (by decide) (by decide)]; exact hro
      have hlen : (ordOf D (allS D)).length = nN D := by rw [ordAll_eq hw]; simp
      have hN2 : nN D = (D.1 1 11).toNat := rfl
      have hsk := w_X10_seek (d := d) (D := D) (M := M1) (ord := ordOf D (allS D)) (pz := 0) hw (hD.dat hM) (ordOK_of hw (closed_all hw)) (sink0 hw (ordOK_of hw (closed_all hw))) (by omega) (by rw [h28, hlen, hro]; omega) (fun j hj => by rw [ordAll_eq hw, rng_getD (by omega)]; exact hth j (by omega)) (fun M' z1 z2 z3 _ _ _ => ⟨⟨z1, z2, by decide, by decide, z3⟩, fun i hi => absurd hi (by show ¬ i < 0; omega)⟩)
      refine g_iload_n dX10_soughtAll_18 rfl rfl ?_
      refine g_aload_n dX10_soughtAll_19 rfl rfl ?_
      refine g_get dX10_soughtAll_20 fX10_117 rfl rfl ?_
      rw [hN]
      refine g_icmp_ge (tgt := 39) dX10_soughtAll_23 rfl (fun h23 => ?_) (fun h23 => ?_)
      · refine g_aload_n dX10_soughtAll_39 rfl rfl ?_
        refine g_iconst dX10_soughtAll_40 ?_
        refine g_callV dX10_soughtAll_41 lX10_208 (hsk) rfl rfl rfl rfl (Nat.le_of_ble_eq_true rfl) ?_
        rintro v M3 ⟨rfl, hK3, hF3⟩
        show G _ _ _ _ _ _ [] M3
        have hq : SK0 (ordOf D (allS D)) M3 (RR D) := hK3
        obtain ⟨⟨k1, k2, k3, k4, k5⟩, k6⟩ := hq
        have hsp : (M3.1 0 31 = 0 ∧ (RR D).2.2 = false) ∨ (M3.1 0 31 = 1 ∧ (RR D).2.2 = true) := by
          rw [k5]
          cases (RR D).2.2
          · exact Or.inl ⟨rfl, rfl⟩
          · exact Or.inr ⟨rfl, rfl⟩
        refine g_aload_n dX10_soughtAll_44 rfl rfl ?_
        refine g_aload_n dX10_soughtAll_45 rfl rfl ?_
        refine g_get dX10_soughtAll_46 fX10_191 rfl rfl ?_
        try simp only [sil, sjl, Nat.reduceAdd, Nat.reduceEqDiff, eq_self, false_and, and_false, true_and, and_true, if_false, if_true, reduceIte]
        refine g_if_eq (tgt := 56) dX10_soughtAll_49 rfl (fun h49 => ?_) (fun h49 => ?_)
        · refine g_aload_n dX10_soughtAll_56 rfl rfl ?_
          refine g_get dX10_soughtAll_57 fX10_185 rfl rfl ?_
          try simp only [sil, sjl, Nat.reduceAdd, Nat.reduceEqDiff, eq_self, false_and, and_false, true_and, and_true, if_false, if_true, reduceIte]
          refine g_puti dX10_soughtAll_60 fX10_211 rfl rfl rfl (tyX10_ok 37 (by decide)) ?_
          refine g_aload_n dX10_soughtAll_63 rfl rfl ?_
          refine g_aload_n dX10_soughtAll_64 rfl rfl ?_
          refine g_get dX10_soughtAll_65 fX10_191 rfl rfl ?_
          try simp only [sil, sjl, Nat.reduceAdd, Nat.reduceEqDiff, eq_self, false_and, and_false, true_and, and_true, if_false, if_true, reduceIte]
          refine g_putz dX10_soughtAll_68 fX10_214 rfl rfl rfl (tyX10_ok 38 (by decide)) ?_
          refine g_aload_n dX10_soughtAll_71 rfl rfl ?_
          refine g_aload_n dX10_soughtAll_72 rfl rfl ?_
          refine g_get dX10_soughtAll_73 fX10_188 rfl rfl ?_
          try simp only [sil, sjl, Nat.reduceAdd, Nat.reduceEqDiff, eq_self, false_and, and_false, true_and, and_true, if_false, if_true, reduceIte]
          refine g_puti dX10_soughtAll_76 fX10_217 rfl rfl rfl (tyX10_ok 39 (by decide)) ?_
          refine g_aload_n dX10_soughtAll_79 rfl rfl ?_
          refine g_iconst dX10_soughtAll_80 ?_
          refine g_putz dX10_soughtAll_81 fX10_120 rfl rfl rfl (tyX10_ok 21 (by decide)) ?_
          refine g_vret dX10_soughtAll_84 rfl ?_
          refine ⟨rfl, (((((hM.tr hF3.mdat).si _ _ _).si _ _ _).si _ _ _).si _ _ _), by rw [sil, if_pos ⟨rfl, rfl⟩], ?_, ?_, k4, fun i hi => ⟨fun r hr2 => ?_, ?_, (k6 i hi).2.2⟩⟩
          · rcases hsp with ⟨e1, e2⟩ | ⟨e1, e2⟩
            · right
              refine ⟨e2, ?_, ?_⟩
              · first | (exfalso; omega) | (simp [sil]; exact k2)
              · simp [sil]; exact e1
            · left
              refine ⟨e2, ?_, ?_⟩
              · first | (exfalso; omega) | simp [sil]
              · simp [sil]; exact e1
          · simp [sil]; exact k1
          · rw [si_1 _ _ _ _ _ (by decide), si_1 _ _ _ _ _ (by decide), si_1 _ _ _ _ _ (by decide), si_1 _ _ _ _ _ (by decide)]
            have h := (k6 i hi).1 r (by omega)
            rw [ordAll_eq hw, rng_getD (by omega)] at h
            exact h
          · rw [si_1 _ _ _ _ _ (by decide), si_1 _ _ _ _ _ (by decide), si_1 _ _ _ _ _ (by decide), si_1 _ _ _ _ _ (by decide)]
            exact (k6 i hi).2.1
        · refine g_iconst dX10_soughtAll_52 ?_
          refine g_goto (tgt := 60) dX10_soughtAll_53 rfl ?_
          refine g_puti dX10_soughtAll_60 fX10_211 rfl rfl rfl (tyX10_ok 37 (by decide)) ?_
          refine g_aload_n dX10_soughtAll_63 rfl rfl ?_
          refine g_aload_n dX10_soughtAll_64 rfl rfl ?_
          refine g_get dX10_soughtAll_65 fX10_191 rfl rfl ?_
          try simp only [sil, sjl, Nat.reduceAdd, Nat.reduceEqDiff, eq_self, false_and, and_false, true_and, and_true, if_false, if_true, reduceIte]
          refine g_putz dX10_soughtAll_68 fX10_214 rfl rfl rfl (tyX10_ok 38 (by decide)) ?_
          refine g_aload_n dX10_soughtAll_71 rfl rfl ?_
          refine g_aload_n dX10_soughtAll_72 rfl rfl ?_
          refine g_get dX10_soughtAll_73 fX10_188 rfl rfl ?_
          try simp only [sil, sjl, Nat.reduceAdd, Nat.reduceEqDiff, eq_self, false_and, and_false, true_and, and_true, if_false, if_true, reduceIte]
          refine g_puti dX10_soughtAll_76 fX10_217 rfl rfl rfl (tyX10_ok 39 (by decide)) ?_
          refine g_aload_n dX10_soughtAll_79 rfl rfl ?_
          refine g_iconst dX10_soughtAll_80 ?_
          refine g_putz dX10_soughtAll_81 fX10_120 rfl rfl rfl (tyX10_ok 21 (by decide)) ?_
          refine g_vret dX10_soughtAll_84 rfl ?_
          refine ⟨rfl, (((((hM.tr hF3.mdat).si _ _ _).si _ _ _).si _ _ _).si _ _ _), by rw [sil, if_pos ⟨rfl, rfl⟩], ?_, ?_, k4, fun i hi => ⟨fun r hr2 => ?_, ?_, (k6 i hi).2.2⟩⟩
          · rcases hsp with ⟨e1, e2⟩ | ⟨e1, e2⟩
            · right
              refine ⟨e2, ?_, ?_⟩
              · first | (exfalso; omega) | (simp [sil]; exact k2)
              · simp [sil]; exact e1
            · left
              refine ⟨e2, ?_, ?_⟩
              · first | (exfalso; omega) | simp [sil]
              · simp [sil]; exact e1
          · simp [sil]; exact k1
          · rw [si_1 _ _ _ _ _ (by decide), si_1 _ _ _ _ _ (by decide), si_1 _ _ _ _ _ (by decide), si_1 _ _ _ _ _ (by decide)]
            have h := (k6 i hi).1 r (by omega)
            rw [ordAll_eq hw, rng_getD (by omega)] at h
            exact h
          · rw [si_1 _ _ _ _ _ (by decide), si_1 _ _ _ _ _ (by decide), si_1 _ _ _ _ _ (by decide), si_1 _ _ _ _ _ (by decide)]
            exact (k6 i hi).2.1
      · exfalso; omega
    | succ n ih =>
      intro i hi h0 M1 hM h28 hth
      have hN : M1.1 0 13 = D.1 1 11 := by rw [hM.1 13 (by decide) (by decide)]; exact hro
      refine g_iload_n dX10_soughtAll_18 rfl rfl ?_
      refine g_aload_n dX10_soughtAll_19 rfl rfl ?_
      refine g_get dX10_soughtAll_20 fX10_117 rfl rfl ?_
      rw [hN]
      refine g_icmp_ge (tgt := 39) dX10_soughtAll_23 rfl (fun h23 => ?_) (fun h23 => ?_)
      · exfalso; omega
      · refine g_aload_n dX10_soughtAll_26 rfl rfl ?_
        refine g_getr dX10_soughtAll_27 fX10_70 rfl rfl ?_
        refine g_iload_n dX10_soughtAll_30 rfl rfl ?_
        refine g_iload_n dX10_soughtAll_31 rfl rfl ?_
        refine g_iast dX10_soughtAll_32 rfl (by decide) ?_
        try simp only [Int.toNat_natCast]
        refine g_iinc (ls' := [some _, some _]) dX10_soughtAll_33 rfl rfl ?_
        refine g_goto (tgt := 18) dX10_soughtAll_36 rfl ?_
        refine ih (i + 1) (by omega) h0 _ (hM.si _ _ _) (by rw [sil, if_neg (by omega)]; exact h28) (fun j hj => ?_)
        rw [sil]
        by_cases hji : j = i
        · subst hji; rw [if_pos ⟨rfl, rfl⟩]
        · rw [if_neg (by omega)]; exact hth j (by omega)
  refine g_aload_n dX10_soughtAll_0 rfl rfl ?_
  refine g_get dX10_soughtAll_1 fX10_120 rfl rfl ?_
  refine g_if_eq (tgt := 8) dX10_soughtAll_4 rfl (fun h4 => ?_) (fun h4 => ?_)
  · refine g_aload_n dX10_soughtAll_8 rfl rfl ?_
    refine g_aload_n dX10_soughtAll_9 rfl rfl ?_
    refine g_get dX10_soughtAll_10 fX10_117 rfl rfl ?_
    refine g_puti dX10_soughtAll_13 fX10_173 rfl rfl rfl (tyX10_ok 28 (by decide)) ?_
    refine g_iconst dX10_soughtAll_16 ?_
    refine g_istore_n (ls' := [some _, some _]) dX10_soughtAll_17 rfl (by decide) rfl ?_
    exact loop (nN D) 0 (by omega) h4 _ (MDat.rf.si _ _ _) (by rw [sil, if_pos ⟨rfl, rfl⟩]) (fun j hj => absurd hj (by omega))
  · refine g_vret dX10_soughtAll_7 rfl ?_
    have h1 : M.1 0 21 = 1 ∧ SoughtM D M := hs.resolve_left h4
    exact ⟨rfl, MDat.rf, h1.1, h1.2⟩

theorem w_X10_ways {d : Nat} {D M : Mem} (hr : ReadyM D M) : WP wdM (d + 5) mX10_ways [vr 0] M (fun v M' => v = some (vi (if (RR D).2.2 = true then -2 else (RR D).2.1.length)) ∧ AskM D M M') := by
  refine wp_of (by decide +kernel) (Nat.le_of_ble_eq_true rfl) ?_
  refine g_aload_n dX10_ways_0 rfl rfl ?_
  refine g_callV dX10_ways_1 lX10_220 (w_X10_soughtAll (d := d) hr) rfl rfl rfl rfl (Nat.le_of_ble_eq_true rfl) ?_
  rintro v M2 ⟨rfl, hA⟩
  show G _ _ _ _ _ _ [] M2
  obtain ⟨q1, q2, q3, q4⟩ := id hA.2.2
  refine g_aload_n dX10_ways_4 rfl rfl ?_
  refine g_get dX10_ways_5 fX10_214 rfl rfl ?_
  try simp only [sil, sjl, Nat.reduceAdd, Nat.reduceEqDiff, eq_self, false_and, and_false, true_and, and_true, if_false, if_true, reduceIte]
  refine g_if_eq (tgt := 16) dX10_ways_8 rfl (fun h8 => ?_) (fun h8 => ?_)
  · refine g_aload_n dX10_ways_16 rfl rfl ?_
    refine g_get dX10_ways_17 fX10_211 rfl rfl ?_
    try simp only [sil, sjl, Nat.reduceAdd, Nat.reduceEqDiff, eq_self, false_and, and_false, true_and, and_true, if_false, if_true, reduceIte]
    refine g_iret dX10_ways_20 rfl ?_
    refine ⟨?_, hA⟩
    rcases q1 with ⟨e1, e2, e3⟩ | ⟨e1, e2, e3⟩
    · first
      | (rw [if_pos e1]; done)
      | (exfalso; omega)
    · rw [if_neg (by rw [e1]; decide)]
      first | rw [e2] | (exfalso; omega)
  · refine g_bipush dX10_ways_11 rfl ?_
    refine g_goto (tgt := 20) dX10_ways_13 rfl ?_
    refine g_iret dX10_ways_20 rfl ?_
    refine ⟨?_, hA⟩
    rcases q1 with ⟨e1, e2, e3⟩ | ⟨e1, e2, e3⟩
    · first
      | (rw [if_pos e1]; done)
      | (exfalso; omega)
    · rw [if_neg (by rw [e1]; decide)]
      first | rw [e2] | (exfalso; omega)

theorem w_X10_isWay {d : Nat} {D M : Mem} {k : Int} (k1 : -2147483648 ≤ k) (k2 : k < 2147483648) (hr : ReadyM D M) : WP wdM (d + 5) mX10_isWay [vr 0, vi k] M (fun v M' => v = some (vi (bi (isWayP D k))) ∧ AskM D M M') := by
  refine wp_of (by decide +kernel) (Nat.le_of_ble_eq_true rfl) ?_
  refine g_aload_n dX10_isWay_0 rfl rfl ?_
  refine g_callV dX10_isWay_1 lX10_220 (w_X10_soughtAll (d := d) hr) rfl rfl rfl rfl (Nat.le_of_ble_eq_true rfl) ?_
  rintro v M2 ⟨rfl, hA⟩
  show G _ _ _ _ _ _ [] M2
  obtain ⟨q1, q2, q3, q4⟩ := id hA.2.2
  refine g_iload_n dX10_isWay_4 rfl rfl ?_
  refine g_if_lt (tgt := 20) dX10_isWay_5 rfl (fun h5 => ?_) (fun h5 => ?_)
  · refine g_iconst dX10_isWay_20 ?_
    refine g_zret dX10_isWay_21 rfl ?_
    refine ⟨?_, hA⟩
    rcases q1 with ⟨e1, e2, e3⟩ | ⟨e1, e2, e3⟩
    · have hz : ¬ isWayP D k := fun z => by have z1 := z.1; rw [e1] at z1; cases z1
      first
      | (rw [bi_f hz]; done)
      | (exfalso; omega)
    · first
      | (have hz : isWayP D k := by
           refine ⟨e1, ?_, ?_⟩ <;> omega
         rw [bi_t hz])
      | (have hz : ¬ isWayP D k := fun z => by
           have z1 := z.2.1
           have z2 := z.2.2
           omega
         rw [bi_f hz])
  · refine g_iload_n dX10_isWay_8 rfl rfl ?_
    refine g_aload_n dX10_isWay_9 rfl rfl ?_
    refine g_get dX10_isWay_10 fX10_211 rfl rfl ?_
    try simp only [sil, sjl, Nat.reduceAdd, Nat.reduceEqDiff, eq_self, false_and, and_false, true_and, and_true, if_false, if_true, reduceIte]
    refine g_icmp_ge (tgt := 20) dX10_isWay_13 rfl (fun h13 => ?_) (fun h13 => ?_)
    · refine g_iconst dX10_isWay_20 ?_
      refine g_zret dX10_isWay_21 rfl ?_
      refine ⟨?_, hA⟩
      rcases q1 with ⟨e1, e2, e3⟩ | ⟨e1, e2, e3⟩
      · have hz : ¬ isWayP D k := fun z => by have z1 := z.1; rw [e1] at z1; cases z1
        first
        | (rw [bi_f hz]; done)
        | (exfalso; omega)
      · first
        | (have hz : isWayP D k := by
             refine ⟨e1, ?_, ?_⟩ <;> omega
           rw [bi_t hz])
        | (have hz : ¬ isWayP D k := fun z => by
             have z1 := z.2.1
             have z2 := z.2.2
             omega
           rw [bi_f hz])
    · refine g_iconst dX10_isWay_16 ?_
      refine g_goto (tgt := 21) dX10_isWay_17 rfl ?_
      refine g_zret dX10_isWay_21 rfl ?_
      refine ⟨?_, hA⟩
      rcases q1 with ⟨e1, e2, e3⟩ | ⟨e1, e2, e3⟩
      · have hz : ¬ isWayP D k := fun z => by have z1 := z.1; rw [e1] at z1; cases z1
        first
        | (rw [bi_f hz]; done)
        | (exfalso; omega)
      · first
        | (have hz : isWayP D k := by
             refine ⟨e1, ?_, ?_⟩ <;> omega
           rw [bi_t hz])
        | (have hz : ¬ isWayP D k := fun z => by
             have z1 := z.2.1
             have z2 := z.2.2
             omega
           rw [bi_f hz])
theorem w_X10_at {d : Nat} {M : Mem} {w r : Nat} (hw : w < 3000) (hr : r < 14) : WP wdM d mX10_at [vr 0, vi w, vi r] M (Ret (some (vi (M.1 19 (14 * w + r)))) M) := by
  refine wp_of (by decide +kernel) (Nat.le_of_ble_eq_true rfl) ?_
  have ef : (14 * (w : Int) + (r : Int)).toNat = 14 * w + r := by omega
  refine g_aload_n dX10_at_0 rfl rfl ?_
  refine g_getr dX10_at_1 fX10_83 rfl rfl ?_
  refine g_bipush dX10_at_4 rfl ?_
  refine g_iload_n dX10_at_6 rfl rfl ?_
  refine g_imul dX10_at_7 ?_
  refine g_iload_n dX10_at_8 rfl rfl ?_
  refine g_iadd dX10_at_9 ?_
  refine g_bald dX10_at_10 rfl (Or.inr rfl) (by decide) ?_
  try simp only [Int.toNat_natCast]
  rw [ef]
  refine g_iret dX10_at_11 rfl ?_
  exact ⟨rfl, rfl⟩

