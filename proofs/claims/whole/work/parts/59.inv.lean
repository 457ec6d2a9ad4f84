/-! MODULE 55: the two objects side by side: what is told. -/
theorem SoughtD.hi {D M M1 : Mem} (h : ∀ p, 16 ≤ p → M1.1 p = M.1 p ∧ M1.2 p = M.2 p) (hs : SoughtD D M) : SoughtD D M1 := by
  have e : ∀ p, 16 ≤ p → M1.1 p = M.1 p := fun p hp => (h p hp).1
  obtain ⟨⟨h1, h2, h3⟩, ⟨k1, k2⟩, h4, h5⟩ := hs
  refine ⟨⟨fun o ho => ?_, by rw [e 16 (by decide)]; exact h2, by rw [e 16 (by decide)]; exact h3⟩, ⟨by rw [e 67 (by decide)]; exact k1, by rw [e 68 (by decide)]; exact k2⟩, fun s => ?_, ?_⟩
  · have := h1 o ho
    unfold TabO at this ⊢
    rw [e 17 (by decide), e 18 (by decide), e 19 (by decide), e 20 (by decide), e 21 (by decide), e 22 (by decide), e 23 (by decide)]
    exact this
  · unfold SetOK
    rw [e 65 (by decide), e 66 (by decide)]
    exact h4 s
  · exact h5.eq (by rw [e 24 (by decide)]) (by rw [e 24 (by decide)]) (by rw [e 24 (by decide)]) (e _ (by decide)) ((h _ (by decide)).2) (e _ (by decide))
theorem SoughtM.eq {D M M1 : Mem} (h0 : ∀ k, k = 37 ∨ k = 38 ∨ k = 39 → M1.1 0 k = M.1 0 k) (h1 : M1.1 19 = M.1 19) (h2 : M1.1 20 = M.1 20) (hs : SoughtM D M) : SoughtM D M1 := by
  unfold SoughtM at hs ⊢
  rw [h0 37 (by omega), h0 38 (by omega), h0 39 (by omega), h1, h2]
  exact hs
theorem SoughtM.re {D D1 M : Mem} (hD : Dat D D1) (hs : SoughtM D M) : SoughtM D1 M := by
  unfold SoughtM wy at hs ⊢
  rw [RR_dat hD, (hD 1 (by decide) (by decide)).1]
  exact hs
theorem DR.re {D D1 M : Mem} (h : Dat D D1) (hr : DR D M) : DR D1 M := by
  unfold DR DRb DRo DRl nR at hr ⊢
  rw [(h 1 (by decide) (by decide)).1, (h 2 (by decide) (by decide)).1, (h 4 (by decide) (by decide)).1, (h 5 (by decide) (by decide)).1, (h 6 (by decide) (by decide)).1, (h 7 (by decide) (by decide)).1, (h 8 (by decide) (by decide)).1, (h 9 (by decide) (by decide)).1, (h 10 (by decide) (by decide)).1, (h 11 (by decide) (by decide)).2, (h 12 (by decide) (by decide)).1, (h 14 (by decide) (by decide)).1]
  exact hr
theorem Book.re {D D1 M M1 : Mem} (h : Dat D D1) (hM : MDat M M1) (hb : Book D M) : Book D1 M1 := by
  obtain ⟨h1, h2, h3, h4⟩ := hb
  refine ⟨h1.dat h, (h2.dat hM).re h, ?_, ?_⟩
  · have h3 := h3.dat hM
    unfold DRk at h3 ⊢
    rw [(h 1 (by decide) (by decide)).1, (h 2 (by decide) (by decide)).1, (h 3 (by decide) (by decide)).1, (h 4 (by decide) (by decide)).1, (h 6 (by decide) (by decide)).1]
    exact h3
  · unfold Full at h4 ⊢
    rw [(h 1 (by decide) (by decide)).1, (h 3 (by decide) (by decide)).1, (h 4 (by decide) (by decide)).1]
    exact h4
/-- the class's object and the reference's stand in the same state -/
def Inv (MC MM : Mem) : Prop := Book MC MM ∧ ((MC.1 0 7 = 0 ∧ MM.1 0 21 = 0) ∨ (MC.1 0 7 = 1 ∧ MM.1 0 21 = 1 ∧ SoughtD MC MC ∧ SoughtM MC MM)) ∧ MC.1 24 11 = MM.1 0 39
theorem Inv.ready {MC MM : Mem} (h : Inv MC MM) : Ready MC MC := ⟨h.1.1, Dat.rf, h.2.1.imp (fun z => z.1) (fun z => ⟨z.1, z.2.2.1⟩)⟩
theorem Inv.readyM {MC MM : Mem} (h : Inv MC MM) : ReadyM MC MM := ⟨h.1.1, h.1.2.1, h.2.1.imp (fun z => z.2) (fun z => ⟨z.2.1, z.2.2.2⟩)⟩
theorem Inv.ask {MC MM MC' MM' : Mem} (h : Inv MC MM) (hc : Ask MC MC') (hm : AskM MC MM MM') : Inv MC' MM' := by
  obtain ⟨c1, c2, c3⟩ := hc
  obtain ⟨m1, m2, m3⟩ := hm
  refine ⟨h.1.re c1 m1, Or.inr ⟨c2, m2, c3.re c1, m3.re c1⟩, ?_⟩
  rw [c3.2.2.2.1, m3.2.1]
def PairAt (yC yM : MD) (As : List AV) (MC MM : Mem) : Prop := ∃ P1 P2 : Option AV → Mem → Prop, WP wdC 24 yC (vr 0 :: As) MC P1 ∧ WP wdM 24 yM (vr 0 :: As) MM P2 ∧ ∀ v MC', P1 v MC' → ∃ z, v = some (vi z) ∧ ∀ w MM', P2 w MM' → w = some (vi z) ∧ Inv MC' MM'
def Pair (yC yM : MD) (As : List AV) : Prop := ∀ MC MM, Inv MC MM → PairAt yC yM As MC MM
theorem pair_ret {yC yM : MD} {As : List AV} {MC MM mC mM : Mem} {z : Int} (h1 : WP wdC 24 yC (vr 0 :: As) MC (Ret (some (vi z)) mC)) (h2 : WP wdM 24 yM (vr 0 :: As) MM (Ret (some (vi z)) mM)) (h3 : Inv mC mM) : PairAt yC yM As MC MM := by
  refine ⟨_, _, h1, h2, ?_⟩
  rintro v MC' ⟨rfl, rfl⟩
  refine ⟨z, rfl, ?_⟩
  rintro w MM' ⟨rfl, rfl⟩
  exact ⟨rfl, h3⟩
theorem pair_ask {yC yM : MD} {As : List AV} {MC MM : Mem} {z : Int} (hI : Inv MC MM) (h1 : WP wdC 24 yC (vr 0 :: As) MC (fun v M' => v = some (vi z) ∧ Ask MC M')) (h2 : WP wdM 24 yM (vr 0 :: As) MM (fun v M' => v = some (vi z) ∧ AskM MC MM M')) : PairAt yC yM As MC MM := by
  refine ⟨_, _, h1, h2, ?_⟩
  rintro v MC' ⟨rfl, a1⟩
  refine ⟨z, rfl, ?_⟩
  rintro w MM' ⟨rfl, a2⟩
  exact ⟨rfl, hI.ask a1 a2⟩
theorem Inv.bd {MC MM : Mem} (h : Inv MC MM) : (0 ≤ MC.1 1 10 ∧ MC.1 1 10 ≤ 8 ∧ 0 ≤ MC.1 1 11 ∧ MC.1 1 11 ≤ 14) ∧ (0 ≤ MM.1 0 12 ∧ MM.1 0 12 ≤ 8 ∧ 0 ≤ MM.1 0 13 ∧ MM.1 0 13 ≤ 14) ∧ MM.1 0 12 = MC.1 1 10 ∧ MM.1 0 13 = MC.1 1 11 := ⟨h.1.1.1, h.1.2.1.bd h.1.1, h.1.2.1.1.1, h.1.2.1.1.2.1⟩
/-- a record more in both -/
theorem Inv.add {MC MM D M : Mem} (h : Inv MC MM) {y ori rk : Int} {kd sx ag cp : Nat → Int} {nm : Nat → Int64} {n : Nat} (hm : Mid MC D y ori kd sx ag cp nm n) (hM : MMid MM M y ori rk kd sx ag cp nm n) (h8 : MC.1 1 10 < 8) (hn : 1 ≤ n ∧ n ≤ 3) (h14 : MC.1 1 11 + n ≤ 14) (hy : 0 ≤ y ∧ y ≤ 3000) (hrk : 0 ≤ rk ∧ rk ≤ 4) (hv : ∀ i, i < n → 0 ≤ kd i ∧ kd i ≤ 7 ∧ 0 ≤ sx i ∧ sx i ≤ 2 ∧ -1 ≤ ag i ∧ ag i ≤ 120 ∧ NameOK (nm i)) (hc : OriOK MC y ori rk kd sx ag cp n) : Inv (closeM D) M := by
  refine ⟨book_add h.1 hm.close hM h8 hn h14 hy hrk hv hc, Or.inl ⟨by unfold closeM; rw [sil, if_pos ⟨rfl, rfl⟩], hM.1.2.2.1⟩, ?_⟩
  show D.1 24 11 = _
  rw [hm.2.2.2.2.2.2.2, hM.1.2.2.2 39 (by decide) (by decide) (by decide)]
  exact h.2.2
theorem lt1 {P : Nat → Prop} (h0 : P 0) : ∀ i, i < 1 → P i := fun i hi => by
  have e : i = 0 := by omega
  rw [e]; exact h0
theorem lt2 {P : Nat → Prop} (h0 : P 0) (h1 : P 1) : ∀ i, i < 2 → P i := fun i hi => by
  rcases (show i = 0 ∨ i = 1 by omega) with rfl | rfl
  · exact h0
  · exact h1
theorem lt3 {P : Nat → Prop} (h0 : P 0) (h1 : P 1) (h2 : P 2) : ∀ i, i < 3 → P i := fun i hi => by
  rcases (show i = 0 ∨ i = 1 ∨ i = 2 by omega) with rfl | rfl | rfl
  · exact h0
  · exact h1
  · exact h2

theorem p_birth {y s : Int} {c m f : Int64} (y1 : -2147483648 ≤ y) (y2 : y < 2147483648) (s1 : -2147483648 ≤ s) (s2 : s < 2147483648) : Pair mX9_birth mX10_birth [vi y, vi s, vl c, vl m, vl f] := by
  intro MC MM hI
  obtain ⟨⟨b1, b2, b3, b4⟩, ⟨c1, c2, c3, c4⟩, e1, e2⟩ := hI.bd
  have hB : WfB MC := hI.1.1.1
  have hBM := hI.1.2.1.bd hI.1.1
  have hC := w_X9_birth (d := 21) (M := MC) (c := c) (m := m) (f := f) y1 y2 s1 s2 b1 b2 b3 b4
  have hM := w_X10_birth (d := 21) (M := MM) (c := c) (m := m) (f := f) y1 y2 s1 s2 c1 c2 c3 c4
  have hiff : mbirthOK MM y s c m f ↔ birthOK MC y s c m f := by unfold mbirthOK birthOK; rw [e1, e2]
  by_cases hok : birthOK MC y s c m f
  · have hok2 := hiff.mpr hok
    rw [if_pos hok, if_pos hok] at hC
    rw [if_pos hok2, if_pos hok2, e1] at hM
    refine pair_ret hC hM ?_
    have m1 : Mid MC _ y (-1) (fun i => if i = 0 then 0 else if i = 1 then 1 else 2) (fun i => if i = 0 then s else if i = 1 then 1 else 2) (fun i => if i = 0 then -1 else if i = 1 then -1 else -1) (fun _ => -1) (nmF c m f) 3 := (Mid.add hB (Mid.add hB (Mid.add hB (Mid.opn hB) rfl) rfl) rfl)
    have m2 : MMid MM _ y (-1) 0 (fun i => if i = 0 then 0 else if i = 1 then 1 else 2) (fun i => if i = 0 then s else if i = 1 then 1 else 2) (fun i => if i = 0 then -1 else if i = 1 then -1 else -1) (fun _ => -1) (nmF c m f) 3 := (MMid.add hBM (MMid.add hBM (MMid.add hBM (MMid.opn hBM))))
    obtain ⟨qy, qs, qc, qm, qf, q8, q14⟩ := hok
    exact hI.add m1 m2 q8 (by decide) (by push_cast; omega) qy (by decide) (lt3 ⟨by simp, by simp, qs.1, qs.2, by simp, by simp, qc⟩ ⟨by simp, by simp, by simp, by simp, by simp, by simp, qm⟩ ⟨by simp, by simp, by simp, by simp, by simp, by simp, qf⟩) (Or.inl ⟨rfl, fun _ _ => rfl, by decide⟩)
  · have hok2 : ¬ mbirthOK MM y s c m f := fun z => hok (hiff.mp z)
    rw [if_neg hok, if_neg hok] at hC
    rw [if_neg hok2, if_neg hok2] at hM
    exact pair_ret hC hM hI

theorem p_wedding {y : Int} {c m : Int64} (y1 : -2147483648 ≤ y) (y2 : y < 2147483648) : Pair mX9_wedding mX10_wedding [vi y, vl c, vl m] := by
  intro MC MM hI
  obtain ⟨⟨b1, b2, b3, b4⟩, ⟨c1, c2, c3, c4⟩, e1, e2⟩ := hI.bd
  have hB : WfB MC := hI.1.1.1
  have hBM := hI.1.2.1.bd hI.1.1
  have hC := w_X9_wedding (d := 21) (M := MC) (c := c) (m := m) y1 y2 b1 b2 b3 b4
  have hM := w_X10_wedding (d := 21) (M := MM) (c := c) (m := m) y1 y2 c1 c2 c3 c4
  have hiff : mweddingOK MM y c m ↔ weddingOK MC y c m := by unfold mweddingOK weddingOK; rw [e1, e2]
  by_cases hok : weddingOK MC y c m
  · have hok2 := hiff.mpr hok
    rw [if_pos hok, if_pos hok] at hC
    rw [if_pos hok2, if_pos hok2, e1] at hM
    refine pair_ret hC hM ?_
    have m1 : Mid MC _ y (-1) (fun i => if i = 0 then 3 else if i = 1 then 4 else 4) (fun i => if i = 0 then 1 else if i = 1 then 2 else 2) (fun i => if i = 0 then -1 else if i = 1 then -1 else -1) (fun _ => -1) (nmF c m m) 2 := (Mid.add hB (Mid.add hB (Mid.opn hB) rfl) rfl)
    have m2 : MMid MM _ y (-1) 2 (fun i => if i = 0 then 3 else if i = 1 then 4 else 4) (fun i => if i = 0 then 1 else if i = 1 then 2 else 2) (fun i => if i = 0 then -1 else if i = 1 then -1 else -1) (fun _ => -1) (nmF c m m) 2 := (MMid.add hBM (MMid.add hBM (MMid.opn hBM)))
    obtain ⟨qy, qc, qm, q8, q14⟩ := hok
    exact hI.add m1 m2 q8 (by decide) (by push_cast; omega) qy (by decide) (lt2 ⟨by simp, by simp, by simp, by simp, by simp, by simp, qc⟩ ⟨by simp, by simp, by simp, by simp, by simp, by simp, qm⟩) (Or.inl ⟨rfl, fun _ _ => rfl, by exact ⟨fun z => absurd z (by decide), fun z => absurd z.1 (by decide)⟩⟩)
  · have hok2 : ¬ mweddingOK MM y c m := fun z => hok (hiff.mp z)
    rw [if_neg hok, if_neg hok] at hC
    rw [if_neg hok2, if_neg hok2] at hM
    exact pair_ret hC hM hI

theorem p_found {y s : Int} {c : Int64} (y1 : -2147483648 ≤ y) (y2 : y < 2147483648) (s1 : -2147483648 ≤ s) (s2 : s < 2147483648) : Pair mX9_found mX10_found [vi y, vi s, vl c] := by
  intro MC MM hI
  obtain ⟨⟨b1, b2, b3, b4⟩, ⟨c1, c2, c3, c4⟩, e1, e2⟩ := hI.bd
  have hB : WfB MC := hI.1.1.1
  have hBM := hI.1.2.1.bd hI.1.1
  have hC := w_X9_found (d := 20) (M := MC) (n := c) y1 y2 s1 s2 b1 b2 b3 b4
  have hM := w_X10_found (d := 21) (M := MM) (n := c) y1 y2 s1 s2 c1 c2 c3 c4
  have hiff : msingleOK MM y s c (-1) ↔ singleOK MC y s c (-1) := by unfold msingleOK singleOK; rw [e1, e2]
  by_cases hok : singleOK MC y s c (-1)
  · have hok2 := hiff.mpr hok
    rw [if_pos hok, if_pos hok] at hC
    rw [if_pos hok2, if_pos hok2, e1] at hM
    refine pair_ret hC hM ?_
    have m1 : Mid MC _ y (-1) (fun i => if i = 0 then 0 else if i = 1 then 0 else 0) (fun i => if i = 0 then s else if i = 1 then s else s) (fun i => if i = 0 then -1 else if i = 1 then -1 else -1) (fun _ => -1) (nmF c c c) 1 := (Mid.add hB (Mid.opn hB) rfl)
    have m2 : MMid MM _ y (-1) 1 (fun i => if i = 0 then 0 else if i = 1 then 0 else 0) (fun i => if i = 0 then s else if i = 1 then s else s) (fun i => if i = 0 then -1 else if i = 1 then -1 else -1) (fun _ => -1) (nmF c c c) 1 := (MMid.add hBM (MMid.opn hBM))
    obtain ⟨qy, qs, qc, qa, q8, q14⟩ := hok
    exact hI.add m1 m2 q8 (by decide) (by push_cast; omega) qy (by decide) (lt1 ⟨by simp, by simp, qs.1, qs.2, by simp, by simp, qc⟩) (Or.inl ⟨rfl, fun _ _ => rfl, by exact ⟨fun z => absurd z (by decide), fun z => absurd z.1 (by decide)⟩⟩)
  · have hok2 : ¬ msingleOK MM y s c (-1) := fun z => hok (hiff.mp z)
    rw [if_neg hok, if_neg hok] at hC
    rw [if_neg hok2, if_neg hok2] at hM
    exact pair_ret hC hM hI

theorem p_death {y s a : Int} {c : Int64} (y1 : -2147483648 ≤ y) (y2 : y < 2147483648) (s1 : -2147483648 ≤ s) (s2 : s < 2147483648) (a1 : -2147483648 ≤ a) (a2 : a < 2147483648) : Pair mX9_death mX10_death [vi y, vi s, vl c, vi a] := by
  intro MC MM hI
  obtain ⟨⟨b1, b2, b3, b4⟩, ⟨c1, c2, c3, c4⟩, e1, e2⟩ := hI.bd
  have hB : WfB MC := hI.1.1.1
  have hBM := hI.1.2.1.bd hI.1.1
  have hC := w_X9_death (d := 20) (M := MC) (n := c) y1 y2 s1 s2 a1 a2 b1 b2 b3 b4
  have hM := w_X10_death (d := 20) (M := MM) (n := c) y1 y2 s1 s2 a1 a2 c1 c2 c3 c4
  have hiff : msingleOK MM y s c a ↔ singleOK MC y s c a := by unfold msingleOK singleOK; rw [e1, e2]
  by_cases hok : singleOK MC y s c a
  · have hok2 := hiff.mpr hok
    rw [if_pos hok, if_pos hok] at hC
    rw [if_pos hok2, if_pos hok2, e1] at hM
    refine pair_ret hC hM ?_
    have m1 : Mid MC _ y (-1) (fun i => if i = 0 then 5 else if i = 1 then 5 else 5) (fun i => if i = 0 then s else if i = 1 then s else s) (fun i => if i = 0 then a else if i = 1 then a else a) (fun _ => -1) (nmF c c c) 1 := (Mid.add hB (Mid.opn hB) rfl)
    have m2 : MMid MM _ y (-1) 3 (fun i => if i = 0 then 5 else if i = 1 then 5 else 5) (fun i => if i = 0 then s else if i = 1 then s else s) (fun i => if i = 0 then a else if i = 1 then a else a) (fun _ => -1) (nmF c c c) 1 := (MMid.add hBM (MMid.opn hBM))
    obtain ⟨qy, qs, qc, qa, q8, q14⟩ := hok
    exact hI.add m1 m2 q8 (by decide) (by push_cast; omega) qy (by decide) (lt1 ⟨by simp, by simp, qs.1, qs.2, qa.1, qa.2, qc⟩) (Or.inl ⟨rfl, fun _ _ => rfl, by exact ⟨fun z => absurd z (by decide), fun z => absurd z.1 (by decide)⟩⟩)
  · have hok2 : ¬ msingleOK MM y s c a := fun z => hok (hiff.mp z)
    rw [if_neg hok, if_neg hok] at hC
    rw [if_neg hok2, if_neg hok2] at hM
    exact pair_ret hC hM hI

theorem p_list {y s a : Int} {c : Int64} (y1 : -2147483648 ≤ y) (y2 : y < 2147483648) (s1 : -2147483648 ≤ s) (s2 : s < 2147483648) (a1 : -2147483648 ≤ a) (a2 : a < 2147483648) : Pair mX9_list mX10_list [vi y, vi s, vl c, vi a] := by
  intro MC MM hI
  obtain ⟨⟨b1, b2, b3, b4⟩, ⟨c1, c2, c3, c4⟩, e1, e2⟩ := hI.bd
  have hB : WfB MC := hI.1.1.1
  have hBM := hI.1.2.1.bd hI.1.1
  have hC := w_X9_list (d := 20) (M := MC) (n := c) y1 y2 s1 s2 a1 a2 b1 b2 b3 b4
  have hM := w_X10_list (d := 20) (M := MM) (n := c) y1 y2 s1 s2 a1 a2 c1 c2 c3 c4
  have hiff : msingleOK MM y s c a ↔ singleOK MC y s c a := by unfold msingleOK singleOK; rw [e1, e2]
  by_cases hok : singleOK MC y s c a
  · have hok2 := hiff.mpr hok
    rw [if_pos hok, if_pos hok] at hC
    rw [if_pos hok2, if_pos hok2, e1] at hM
    refine pair_ret hC hM ?_
    have m1 : Mid MC _ y (-1) (fun i => if i = 0 then 6 else if i = 1 then 6 else 6) (fun i => if i = 0 then s else if i = 1 then s else s) (fun i => if i = 0 then a else if i = 1 then a else a) (fun _ => -1) (nmF c c c) 1 := (Mid.add hB (Mid.opn hB) rfl)
    have m2 : MMid MM _ y (-1) 3 (fun i => if i = 0 then 6 else if i = 1 then 6 else 6) (fun i => if i = 0 then s else if i = 1 then s else s) (fun i => if i = 0 then a else if i = 1 then a else a) (fun _ => -1) (nmF c c c) 1 := (MMid.add hBM (MMid.opn hBM))
    obtain ⟨qy, qs, qc, qa, q8, q14⟩ := hok
    exact hI.add m1 m2 q8 (by decide) (by push_cast; omega) qy (by decide) (lt1 ⟨by simp, by simp, qs.1, qs.2, qa.1, qa.2, qc⟩) (Or.inl ⟨rfl, fun _ _ => rfl, by exact ⟨fun z => absurd z (by decide), fun z => absurd z.1 (by decide)⟩⟩)
  · have hok2 : ¬ msingleOK MM y s c a := fun z => hok (hiff.mp z)
    rw [if_neg hok, if_neg hok] at hC
    rw [if_neg hok2, if_neg hok2] at hM
    exact pair_ret hC hM hI

theorem p_witness1 {y s : Int} {c m : Int64} (y1 : -2147483648 ≤ y) (y2 : y < 2147483648) (s1 : -2147483648 ≤ s) (s2 : s < 2147483648) : Pair mX9_witness mX10_witness [vi y, vi s, vl c, vi (-1), vl m] := by
  intro MC MM hI
  obtain ⟨⟨b1, b2, b3, b4⟩, ⟨c1, c2, c3, c4⟩, e1, e2⟩ := hI.bd
  have hB : WfB MC := hI.1.1.1
  have hBM := hI.1.2.1.bd hI.1.1
  have hC := w_X9_witness1 (d := 20) (M := MC) (n := c) (m := m) y1 y2 s1 s2 b1 b2 b3 b4
  have hM := w_X10_witness1 (d := 20) (M := MM) (n := c) (m := m) y1 y2 s1 s2 c1 c2 c3 c4
  have hiff : msingleOK MM y s c (-1) ↔ singleOK MC y s c (-1) := by unfold msingleOK singleOK; rw [e1, e2]
  by_cases hok : singleOK MC y s c (-1)
  · have hok2 := hiff.mpr hok
    rw [if_pos hok, if_pos hok] at hC
    rw [if_pos hok2, if_pos hok2, e1] at hM
    refine pair_ret hC hM ?_
    have m1 : Mid MC _ y (-1) (fun i => if i = 0 then 7 else if i = 1 then 7 else 7) (fun i => if i = 0 then s else if i = 1 then s else s) (fun i => if i = 0 then -1 else if i = 1 then -1 else -1) (fun _ => -1) (nmF c c c) 1 := (Mid.add hB (Mid.opn hB) rfl)
    have m2 : MMid MM _ y (-1) 4 (fun i => if i = 0 then 7 else if i = 1 then 7 else 7) (fun i => if i = 0 then s else if i = 1 then s else s) (fun i => if i = 0 then -1 else if i = 1 then -1 else -1) (fun _ => -1) (nmF c c c) 1 := (MMid.add hBM (MMid.opn hBM))
    obtain ⟨qy, qs, qc, qa, q8, q14⟩ := hok
    exact hI.add m1 m2 q8 (by decide) (by push_cast; omega) qy (by decide) (lt1 ⟨by simp, by simp, qs.1, qs.2, by simp, by simp, qc⟩) (Or.inl ⟨rfl, fun _ _ => rfl, by exact ⟨fun z => absurd z (by decide), fun z => absurd z.1 (by decide)⟩⟩)
  · have hok2 : ¬ msingleOK MM y s c (-1) := fun z => hok (hiff.mp z)
    rw [if_neg hok, if_neg hok] at hC
    rw [if_neg hok2, if_neg hok2] at hM
    exact pair_ret hC hM hI

theorem p_witness2 {y s t : Int} {c m : Int64} (ht : t ≠ -1) (y1 : -2147483648 ≤ y) (y2 : y < 2147483648) (s1 : -2147483648 ≤ s) (s2 : s < 2147483648) (t1 : -2147483648 ≤ t) (t2 : t < 2147483648) : Pair mX9_witness mX10_witness [vi y, vi s, vl c, vi t, vl m] := by
  intro MC MM hI
  obtain ⟨⟨b1, b2, b3, b4⟩, ⟨c1, c2, c3, c4⟩, e1, e2⟩ := hI.bd
  have hB : WfB MC := hI.1.1.1
  have hBM := hI.1.2.1.bd hI.1.1
  have hC := w_X9_witness (d := 21) (M := MC) (c := c) (m := m) ht y1 y2 s1 s2 t1 t2 b1 b2 b3 b4
  have hM := w_X10_witness (d := 21) (M := MM) (c := c) (m := m) ht y1 y2 s1 s2 t1 t2 c1 c2 c3 c4
  have hiff : mtwoOK MM y s t c m ↔ twoOK MC y s t c m := by unfold mtwoOK twoOK; rw [e1, e2]
  by_cases hok : twoOK MC y s t c m
  · have hok2 := hiff.mpr hok
    rw [if_pos hok, if_pos hok] at hC
    rw [if_pos hok2, if_pos hok2, e1] at hM
    refine pair_ret hC hM ?_
    have m1 : Mid MC _ y (-1) (fun i => if i = 0 then 7 else if i = 1 then 7 else 7) (fun i => if i = 0 then s else if i = 1 then t else t) (fun i => if i = 0 then -1 else if i = 1 then -1 else -1) (fun _ => -1) (nmF c m m) 2 := (Mid.add hB (Mid.add hB (Mid.opn hB) rfl) rfl)
    have m2 : MMid MM _ y (-1) 4 (fun i => if i = 0 then 7 else if i = 1 then 7 else 7) (fun i => if i = 0 then s else if i = 1 then t else t) (fun i => if i = 0 then -1 else if i = 1 then -1 else -1) (fun _ => -1) (nmF c m m) 2 := (MMid.add hBM (MMid.add hBM (MMid.opn hBM)))
    obtain ⟨qy, qs, qt, qc, qm, q8, q14⟩ := hok
    exact hI.add m1 m2 q8 (by decide) (by push_cast; omega) qy (by decide) (lt2 ⟨by simp, by simp, qs.1, qs.2, by simp, by simp, qc⟩ ⟨by simp, by simp, qt.1, qt.2, by simp, by simp, qm⟩) (Or.inl ⟨rfl, fun _ _ => rfl, by exact ⟨fun z => absurd z (by decide), fun z => absurd z.1 (by decide)⟩⟩)
  · have hok2 : ¬ mtwoOK MM y s t c m := fun z => hok (hiff.mp z)
    rw [if_neg hok, if_neg hok] at hC
    rw [if_neg hok2, if_neg hok2] at hM
    exact pair_ret hC hM hI

