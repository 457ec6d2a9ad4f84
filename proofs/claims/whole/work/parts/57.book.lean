/-! MODULE 53: a record more in both books (pure). -/
theorem sjx (M : Mem) (p k p' k' : Nat) (x : Int64) : (sj M p k x).2 p' k' = if p' = p ∧ k' = k then x else M.2 p' k' := rfl
theorem openM_f (M : Mem) (y o : Int) : (∀ p, p ≠ 1 → p ≠ 2 → p ≠ 3 → p ≠ 4 → (openM M y o).1 p = M.1 p) ∧ (openM M y o).2 = M.2 ∧ (openM M y o).1 1 10 = M.1 1 10 + 1 ∧ (openM M y o).1 1 11 = M.1 1 11 ∧ (openM M y o).1 1 12 = y ∧ (∀ r, (openM M y o).1 2 r = if r = (M.1 1 10).toNat then M.1 1 11 else M.1 2 r) ∧ (∀ r, (openM M y o).1 3 r = if r = (M.1 1 10).toNat then 0 else M.1 3 r) ∧ (∀ r, (openM M y o).1 4 r = if r = (M.1 1 10).toNat then o else M.1 4 r) := by
  refine ⟨fun p h1 h2 h3 h4 => ?_, rfl, ?_, ?_, ?_, fun r => ?_, fun r => ?_, fun r => ?_⟩
  · unfold openM; rw [si_1 _ _ _ _ _ h1, si_1 _ _ _ _ _ h1, si_1 _ _ _ _ _ h4, si_1 _ _ _ _ _ h3, si_1 _ _ _ _ _ h2]
  all_goals simp [openM, sil]
theorem addM_f (M : Mem) (k s : Int) (n : Int64) (a : Int) : (∀ p, p ≠ 1 → p ≠ 3 → (p < 5 ∨ 10 < p) → (addM M k s n a).1 p = M.1 p) ∧ (addM M k s n a).1 1 10 = M.1 1 10 ∧ (addM M k s n a).1 1 11 = M.1 1 11 + 1 ∧ (addM M k s n a).1 1 12 = M.1 1 12 ∧ (∀ r, (addM M k s n a).1 3 r = if r = (M.1 1 10 - 1).toNat then M.1 3 r + 1 else M.1 3 r) ∧ (∀ o, (addM M k s n a).1 5 o = (if o = (M.1 1 11).toNat then M.1 1 10 - 1 else M.1 5 o) ∧ (addM M k s n a).1 6 o = (if o = (M.1 1 11).toNat then k else M.1 6 o) ∧ (addM M k s n a).1 7 o = (if o = (M.1 1 11).toNat then M.1 1 12 else M.1 7 o) ∧ (addM M k s n a).1 8 o = (if o = (M.1 1 11).toNat then s else M.1 8 o) ∧ (addM M k s n a).1 9 o = (if o = (M.1 1 11).toNat then a else M.1 9 o) ∧ (addM M k s n a).1 10 o = (if o = (M.1 1 11).toNat then -1 else M.1 10 o) ∧ (addM M k s n a).2 11 o = (if o = (M.1 1 11).toNat then n else M.2 11 o)) := by
  refine ⟨fun p h1 h2 h3 => ?_, ?_, ?_, ?_, fun r => ?_, fun o => ⟨?_, ?_, ?_, ?_, ?_, ?_, ?_⟩⟩
  · unfold addM; rw [si_1 _ _ _ _ _ h1, si_1 _ _ _ _ _ h2, si_1 _ _ _ _ _ (by omega), sjl, si_1 _ _ _ _ _ (by omega), si_1 _ _ _ _ _ (by omega), si_1 _ _ _ _ _ (by omega), si_1 _ _ _ _ _ (by omega), si_1 _ _ _ _ _ (by omega)]
  · simp [addM, sil, sjl]
  · simp [addM, sil, sjl]
  · simp [addM, sil, sjl]
  · simp [addM, sil, sjl]
    by_cases h : r = (M.1 1 10).toNat - 1
    · rw [if_pos h, if_pos h, h]
    · rw [if_neg h, if_neg h]
  all_goals simp [addM, sil, sjl, si_J, sjx]
/-- D is D0 with a record more, of n roles -/
def Mid (D0 D : Mem) (y ori : Int) (kd sx ag cp : Nat → Int) (nm : Nat → Int64) (n : Nat) : Prop :=
  (D.1 1 10 = D0.1 1 10 + 1 ∧ D.1 1 11 = D0.1 1 11 + n ∧ D.1 1 12 = y) ∧ (∀ r, r < nR D0 → D.1 2 r = D0.1 2 r ∧ D.1 3 r = D0.1 3 r ∧ D.1 4 r = D0.1 4 r) ∧ (D.1 2 (nR D0) = D0.1 1 11 ∧ D.1 3 (nR D0) = n ∧ D.1 4 (nR D0) = ori) ∧ (∀ o, o < nN D0 → D.1 5 o = D0.1 5 o ∧ D.1 6 o = D0.1 6 o ∧ D.1 7 o = D0.1 7 o ∧ D.1 8 o = D0.1 8 o ∧ D.1 9 o = D0.1 9 o ∧ D.1 10 o = D0.1 10 o ∧ D.2 11 o = D0.2 11 o) ∧ (∀ i, i < n → D.1 5 (nN D0 + i) = D0.1 1 10 ∧ D.1 6 (nN D0 + i) = kd i ∧ D.1 7 (nN D0 + i) = y ∧ D.1 8 (nN D0 + i) = sx i ∧ D.1 9 (nN D0 + i) = ag i ∧ D.1 10 (nN D0 + i) = cp i ∧ D.2 11 (nN D0 + i) = nm i) ∧ D.1 12 = D0.1 12 ∧ D.1 14 = D0.1 14 ∧ D.1 24 = D0.1 24
theorem Mid.opn {D0 : Mem} (hB : WfB D0) {y ori : Int} {kd sx ag cp : Nat → Int} {nm : Nat → Int64} : Mid D0 (openM D0 y ori) y ori kd sx ag cp nm 0 := by
  obtain ⟨f1, f2, f3, f4, f5, f6, f7, f8⟩ := openM_f D0 y ori
  obtain ⟨b1, b2, b3, b4⟩ := hB
  refine ⟨⟨f3, by rw [f4]; omega, f5⟩, fun r hr => ⟨?_, ?_, ?_⟩, ⟨?_, ?_, ?_⟩, fun o ho => ?_, fun i hi => absurd hi (by omega), ?_, ?_, ?_⟩
  · rw [f6, if_neg (by unfold nR at hr; omega)]
  · rw [f7, if_neg (by unfold nR at hr; omega)]
  · rw [f8, if_neg (by unfold nR at hr; omega)]
  · unfold nR; rw [f6, if_pos rfl]
  · unfold nR; rw [f7, if_pos rfl]; rfl
  · unfold nR; rw [f8, if_pos rfl]
  · rw [f1 5 (by decide) (by decide) (by decide) (by decide), f1 6 (by decide) (by decide) (by decide) (by decide), f1 7 (by decide) (by decide) (by decide) (by decide), f1 8 (by decide) (by decide) (by decide) (by decide), f1 9 (by decide) (by decide) (by decide) (by decide), f1 10 (by decide) (by decide) (by decide) (by decide), f2]
    exact ⟨rfl, rfl, rfl, rfl, rfl, rfl, rfl⟩
  · exact f1 12 (by decide) (by decide) (by decide) (by decide)
  · exact f1 14 (by decide) (by decide) (by decide) (by decide)
  · exact f1 24 (by decide) (by decide) (by decide) (by decide)
theorem Mid.add0 {D0 D : Mem} (hB : WfB D0) {y ori : Int} {kd sx ag cp : Nat → Int} {nm : Nat → Int64} {n : Nat} (h : Mid D0 D y ori kd sx ag cp nm n) {D' : Mem} (hf : (∀ p, p ≠ 1 → p ≠ 3 → (p < 5 ∨ 10 < p) → D'.1 p = D.1 p) ∧ D'.1 1 10 = D.1 1 10 ∧ D'.1 1 11 = D.1 1 11 + 1 ∧ D'.1 1 12 = D.1 1 12 ∧ (∀ r, D'.1 3 r = if r = (D.1 1 10 - 1).toNat then D.1 3 r + 1 else D.1 3 r) ∧ (∀ o, D'.1 5 o = (if o = (D.1 1 11).toNat then D.1 1 10 - 1 else D.1 5 o) ∧ D'.1 6 o = (if o = (D.1 1 11).toNat then kd n else D.1 6 o) ∧ D'.1 7 o = (if o = (D.1 1 11).toNat then D.1 1 12 else D.1 7 o) ∧ D'.1 8 o = (if o = (D.1 1 11).toNat then sx n else D.1 8 o) ∧ D'.1 9 o = (if o = (D.1 1 11).toNat then ag n else D.1 9 o) ∧ D'.1 10 o = (if o = (D.1 1 11).toNat then cp n else D.1 10 o) ∧ D'.2 11 o = (if o = (D.1 1 11).toNat then nm n else D.2 11 o))) : Mid D0 D' y ori kd sx ag cp nm (n + 1) := by
  obtain ⟨f1, f2, f3, f4, f5, f6⟩ := hf
  obtain ⟨⟨h1, h2, h3⟩, h4, ⟨h5, h6, h7⟩, h8, h9, h10, h11, h12⟩ := h
  obtain ⟨b1, b2, b3, b4⟩ := hB
  have e2 := f1 2 (by decide) (by decide) (by decide)
  have e4 := f1 4 (by decide) (by decide) (by decide)
  have eR : (D.1 1 10 - 1).toNat = nR D0 := by unfold nR; omega
  have eN : (D.1 1 11).toNat = nN D0 + n := by unfold nN; omega
  rw [eR] at f5
  rw [eN] at f6
  refine ⟨⟨by rw [f2, h1], by rw [f3, h2]; push_cast; omega, by rw [f4, h3]⟩, fun r hr => ?_, ⟨?_, ?_, ?_⟩, fun o ho => ?_, fun i hi => ?_, (f1 12 (by decide) (by decide) (by decide)).trans h10, (f1 14 (by decide) (by decide) (by decide)).trans h11, (f1 24 (by decide) (by decide) (by decide)).trans h12⟩
  · rw [e2, e4, f5, if_neg (by omega)]; exact h4 r hr
  · rw [e2]; exact h5
  · rw [f5, if_pos rfl, h6]; push_cast; rfl
  · rw [e4]; exact h7
  · obtain ⟨g1, g2, g3, g4, g5, g6, g7⟩ := f6 o
    rw [if_neg (by omega)] at g1 g2 g3 g4 g5 g6 g7
    rw [g1, g2, g3, g4, g5, g6, g7]; exact h8 o ho
  · obtain ⟨g1, g2, g3, g4, g5, g6, g7⟩ := f6 (nN D0 + i)
    by_cases hin : i = n
    · subst hin
      rw [if_pos rfl] at g1 g2 g3 g4 g5 g6 g7
      exact ⟨by rw [g1, h1]; omega, g2, by rw [g3, h3], g4, g5, g6, g7⟩
    · rw [if_neg (by omega)] at g1 g2 g3 g4 g5 g6 g7
      rw [g1, g2, g3, g4, g5, g6, g7]; exact h9 i (by omega)
theorem Mid.add {D0 D : Mem} (hB : WfB D0) {y ori : Int} {kd sx ag cp : Nat → Int} {nm : Nat → Int64} {n : Nat} (h : Mid D0 D y ori kd sx ag cp nm n) (hc : cp n = -1) : Mid D0 (addM D (kd n) (sx n) (nm n) (ag n)) y ori kd sx ag cp nm (n + 1) := by
  refine h.add0 hB ?_
  rw [hc]
  exact addM_f D (kd n) (sx n) (nm n) (ag n)
theorem Mid.again {D0 D : Mem} (hB : WfB D0) {y ori : Int} {kd sx ag cp : Nat → Int} {nm : Nat → Int64} {n : Nat} (h : Mid D0 D y ori kd sx ag cp nm n) {r : Nat} (hr : r < nN D0) (hc : cp n = r) (hk : kd n = D0.1 6 r) (hs : sx n = D0.1 8 r) (ha : ag n = D0.1 9 r) : Mid D0 (againM D r (nm n)) y ori kd sx ag cp nm (n + 1) := by
  refine h.add0 hB ?_
  obtain ⟨g1, g2, g3, g4, g5, g6, g7⟩ := h.2.2.2.1 r hr
  obtain ⟨f1, f2, f3, f4, f5, f6⟩ := addM_f D (kd n) (sx n) (nm n) (ag n)
  unfold againM
  rw [g2, g4, g5, ← hk, ← hs, ← ha, hc]
  refine ⟨fun p h1 h2 h3 => ?_, ?_, ?_, ?_, fun x => ?_, fun o => ?_⟩
  · rw [si_1 _ _ _ _ _ (by omega)]; exact f1 p h1 h2 h3
  · rw [si_1 _ _ _ _ _ (by decide)]; exact f2
  · rw [si_1 _ _ _ _ _ (by decide)]; exact f3
  · rw [si_1 _ _ _ _ _ (by decide)]; exact f4
  · rw [si_1 _ _ _ _ _ (by decide)]; exact f5 x
  · obtain ⟨q1, q2, q3, q4, q5, q6, q7⟩ := f6 o
    rw [si_1 _ _ _ _ _ (by decide), si_1 _ _ _ _ _ (by decide), si_1 _ _ _ _ _ (by decide), si_1 _ _ _ _ _ (by decide), si_1 _ _ _ _ _ (by decide), si_J]
    refine ⟨q1, q2, q3, q4, q5, ?_, q7⟩
    rw [sil, q6]
    by_cases ho : o = (D.1 1 11).toNat
    · rw [if_pos ⟨rfl, ho⟩, if_pos ho]
    · rw [if_neg (fun z => ho z.2), if_neg ho, if_neg ho]
theorem Mid.close {D0 D : Mem} {y ori : Int} {kd sx ag cp : Nat → Int} {nm : Nat → Int64} {n : Nat} (h : Mid D0 D y ori kd sx ag cp nm n) : Mid D0 (closeM D) y ori kd sx ag cp nm n := h
theorem mopen_f (M : Mem) (y k : Int) : (∀ p, p ≠ 0 → p ≠ 1 → p ≠ 2 → p ≠ 3 → p ≠ 4 → (mopen M y k).1 p = M.1 p) ∧ (mopen M y k).2 = M.2 ∧ (∀ j, (mopen M y k).1 0 j = if j = 21 then 0 else if j = 12 then M.1 0 12 + 1 else M.1 0 j) ∧ (∀ r, (mopen M y k).1 1 r = if r = (M.1 0 12).toNat then y else M.1 1 r) ∧ (∀ r, (mopen M y k).1 2 r = if r = (M.1 0 12 + 1).toNat then M.1 0 13 else if r = (M.1 0 12).toNat then M.1 0 13 else M.1 2 r) ∧ (∀ r, (mopen M y k).1 3 r = if r = (M.1 0 12).toNat then -1 else M.1 3 r) ∧ (∀ r, (mopen M y k).1 4 r = if r = (M.1 0 12).toNat then k else M.1 4 r) := by
  refine ⟨fun p h0 h1 h2 h3 h4 => ?_, rfl, fun j => ?_, fun r => ?_, fun r => ?_, fun r => ?_, fun r => ?_⟩
  · unfold mopen; rw [si_1 _ _ _ _ _ h0, si_1 _ _ _ _ _ h2, si_1 _ _ _ _ _ h0, si_1 _ _ _ _ _ h4, si_1 _ _ _ _ _ h3, si_1 _ _ _ _ _ h2, si_1 _ _ _ _ _ h1]
  all_goals simp [mopen, sil]
theorem madd_f (M : Mem) (k s a : Int) (n : Int64) (f : Int) : (∀ p, p ≠ 0 → p ≠ 2 → (p < 5 ∨ 9 < p) → (madd M k s a n f).1 p = M.1 p) ∧ (∀ j, (madd M k s a n f).1 0 j = if j = 13 then M.1 0 13 + 1 else M.1 0 j) ∧ (∀ r, (madd M k s a n f).1 2 r = if r = (M.1 0 12).toNat then M.1 0 13 + 1 else M.1 2 r) ∧ (∀ o, (madd M k s a n f).1 5 o = (if o = (M.1 0 13).toNat then M.1 0 12 - 1 else M.1 5 o) ∧ (madd M k s a n f).1 6 o = (if o = (M.1 0 13).toNat then s else M.1 6 o) ∧ (madd M k s a n f).1 7 o = (if o = (M.1 0 13).toNat then a else M.1 7 o) ∧ (madd M k s a n f).1 8 o = (if o = (M.1 0 13).toNat then k else M.1 8 o) ∧ (madd M k s a n f).1 9 o = (if o = (M.1 0 13).toNat then f else M.1 9 o) ∧ (madd M k s a n f).2 11 o = (if o = (M.1 0 13).toNat then n else M.2 11 o)) := by
  refine ⟨fun p h1 h2 h3 => ?_, fun j => ?_, fun r => ?_, fun o => ⟨?_, ?_, ?_, ?_, ?_, ?_⟩⟩
  · unfold madd; rw [si_1 _ _ _ _ _ h2, si_1 _ _ _ _ _ h1, si_1 _ _ _ _ _ (by omega), sjl, si_1 _ _ _ _ _ (by omega), si_1 _ _ _ _ _ (by omega), si_1 _ _ _ _ _ (by omega), si_1 _ _ _ _ _ (by omega)]
  all_goals simp [madd, sil, sjl, si_J, sjx]
/-- M is M0 with a record more, of n roles -/
def MMid (M0 M : Mem) (y ori rk : Int) (kd sx ag cp : Nat → Int) (nm : Nat → Int64) (n : Nat) : Prop :=
  (M.1 0 12 = M0.1 0 12 + 1 ∧ M.1 0 13 = M0.1 0 13 + n ∧ M.1 0 21 = 0 ∧ ∀ j, j ≠ 12 → j ≠ 13 → j ≠ 21 → M.1 0 j = M0.1 0 j) ∧ (∀ r : Nat, (r : Int) < M0.1 0 12 → M.1 1 r = M0.1 1 r ∧ M.1 2 r = M0.1 2 r ∧ M.1 3 r = M0.1 3 r ∧ M.1 4 r = M0.1 4 r) ∧ (M.1 1 (M0.1 0 12).toNat = y ∧ M.1 2 (M0.1 0 12).toNat = M0.1 0 13 ∧ M.1 3 (M0.1 0 12).toNat = ori ∧ M.1 4 (M0.1 0 12).toNat = rk ∧ M.1 2 ((M0.1 0 12).toNat + 1) = M0.1 0 13 + n) ∧ (∀ o : Nat, (o : Int) < M0.1 0 13 → M.1 5 o = M0.1 5 o ∧ M.1 6 o = M0.1 6 o ∧ M.1 7 o = M0.1 7 o ∧ M.1 8 o = M0.1 8 o ∧ M.1 9 o = M0.1 9 o ∧ M.2 11 o = M0.2 11 o) ∧ (∀ i, i < n → M.1 5 ((M0.1 0 13).toNat + i) = M0.1 0 12 ∧ M.1 6 ((M0.1 0 13).toNat + i) = sx i ∧ M.1 7 ((M0.1 0 13).toNat + i) = ag i ∧ M.1 8 ((M0.1 0 13).toNat + i) = kd i ∧ M.1 9 ((M0.1 0 13).toNat + i) = cp i ∧ M.2 11 ((M0.1 0 13).toNat + i) = nm i) ∧ M.1 12 = M0.1 12
theorem MMid.opn {M0 : Mem} (hB : 0 ≤ M0.1 0 12 ∧ M0.1 0 12 ≤ 8 ∧ 0 ≤ M0.1 0 13 ∧ M0.1 0 13 ≤ 14) {y rk : Int} {kd sx ag cp : Nat → Int} {nm : Nat → Int64} : MMid M0 (mopen M0 y rk) y (-1) rk kd sx ag cp nm 0 := by
  obtain ⟨f1, f2, f3, f4, f5, f6, f7⟩ := mopen_f M0 y rk
  obtain ⟨b1, b2, b3, b4⟩ := hB
  refine ⟨⟨by rw [f3, if_neg (by decide), if_pos rfl], by rw [f3, if_neg (by decide), if_neg (by decide)]; omega, by rw [f3, if_pos rfl], fun j h1 h2 h3 => by rw [f3, if_neg h3, if_neg h1]⟩, fun r hr => ⟨?_, ?_, ?_, ?_⟩, ⟨?_, ?_, ?_, ?_, ?_⟩, fun o ho => ?_, fun i hi => absurd hi (by omega), f1 12 (by decide) (by decide) (by decide) (by decide) (by decide)⟩
  · rw [f4, if_neg (by omega)]
  · rw [f5, if_neg (by omega), if_neg (by omega)]
  · rw [f6, if_neg (by omega)]
  · rw [f7, if_neg (by omega)]
  · rw [f4, if_pos rfl]
  · rw [f5, if_neg (by omega), if_pos rfl]
  · rw [f6, if_pos rfl]
  · rw [f7, if_pos rfl]
  · rw [f5, if_pos (by omega)]; omega
  · rw [f1 5 (by decide) (by decide) (by decide) (by decide) (by decide), f1 6 (by decide) (by decide) (by decide) (by decide) (by decide), f1 7 (by decide) (by decide) (by decide) (by decide) (by decide), f1 8 (by decide) (by decide) (by decide) (by decide) (by decide), f1 9 (by decide) (by decide) (by decide) (by decide) (by decide), f2]
    exact ⟨rfl, rfl, rfl, rfl, rfl, rfl⟩
theorem MMid.opnC {M0 : Mem} (hB : 0 ≤ M0.1 0 12 ∧ M0.1 0 12 ≤ 8 ∧ 0 ≤ M0.1 0 13 ∧ M0.1 0 13 ≤ 14) {r : Nat} {kd sx ag cp : Nat → Int} {nm : Nat → Int64} : MMid M0 (mcopyO M0 r) (M0.1 1 r) r (M0.1 4 r) kd sx ag cp nm 0 := by
  obtain ⟨⟨h1, h2, h3, h3b⟩, h4, ⟨h5, h6, h7, h8, h9⟩, h10, h11, h12⟩ := MMid.opn hB (y := M0.1 1 r) (rk := M0.1 4 r) (kd := kd) (sx := sx) (ag := ag) (cp := cp) (nm := nm)
  unfold mcopyO
  refine ⟨⟨by rw [si_1 _ _ _ _ _ (by decide)]; exact h1, by rw [si_1 _ _ _ _ _ (by decide)]; exact h2, by rw [si_1 _ _ _ _ _ (by decide)]; exact h3, fun j => by rw [si_1 _ _ _ _ _ (by decide)]; exact h3b j⟩, fun x hx => ?_, ⟨?_, ?_, ?_, ?_, ?_⟩, fun o ho => ?_, fun i hi => absurd hi (by omega), ?_⟩
  · rw [si_1 _ _ _ _ 1 (by decide), si_1 _ _ _ _ 2 (by decide), si_1 _ _ _ _ 4 (by decide), sil, if_neg (by omega)]; exact h4 x hx
  · rw [si_1 _ _ _ _ _ (by decide)]; exact h5
  · rw [si_1 _ _ _ _ _ (by decide)]; exact h6
  · rw [sil, if_pos ⟨rfl, rfl⟩]
  · rw [si_1 _ _ _ _ _ (by decide)]; exact h8
  · rw [si_1 _ _ _ _ _ (by decide)]; exact h9
  · rw [si_1 _ _ _ _ _ (by decide), si_1 _ _ _ _ _ (by decide), si_1 _ _ _ _ _ (by decide), si_1 _ _ _ _ _ (by decide), si_1 _ _ _ _ _ (by decide), si_J]; exact h10 o ho
  · rw [si_1 _ _ _ _ _ (by decide)]; exact h12
theorem MMid.add {M0 M : Mem} (hB : 0 ≤ M0.1 0 12 ∧ M0.1 0 12 ≤ 8 ∧ 0 ≤ M0.1 0 13 ∧ M0.1 0 13 ≤ 14) {y ori rk : Int} {kd sx ag cp : Nat → Int} {nm : Nat → Int64} {n : Nat} (h : MMid M0 M y ori rk kd sx ag cp nm n) : MMid M0 (madd M (kd n) (sx n) (ag n) (nm n) (cp n)) y ori rk kd sx ag cp nm (n + 1) := by
  obtain ⟨f1, f2, f3, f4⟩ := madd_f M (kd n) (sx n) (ag n) (nm n) (cp n)
  obtain ⟨⟨h1, h2, h3, h3b⟩, h4, ⟨h5, h6, h7, h8, h9⟩, h10, h11, h12⟩ := h
  obtain ⟨b1, b2, b3, b4⟩ := hB
  have e1 := f1 1 (by decide) (by decide) (by decide)
  have e3 := f1 3 (by decide) (by decide) (by decide)
  have e4 := f1 4 (by decide) (by decide) (by decide)
  have eN : (M.1 0 13).toNat = (M0.1 0 13).toNat + n := by omega
  have eR : (M.1 0 12).toNat = (M0.1 0 12).toNat + 1 := by omega
  rw [eR] at f3
  rw [eN] at f4
  refine ⟨⟨by rw [f2, if_neg (by decide)]; exact h1, by rw [f2, if_pos rfl, h2]; push_cast; omega, by rw [f2, if_neg (by decide)]; exact h3, fun j z1 z2 z3 => by rw [f2, if_neg z2]; exact h3b j z1 z2 z3⟩, fun r hr => ?_, ⟨?_, ?_, ?_, ?_, ?_⟩, fun o ho => ?_, fun i hi => ?_, (f1 12 (by decide) (by decide) (by decide)).trans h12⟩
  · rw [e1, e3, e4, f3, if_neg (by omega)]; exact h4 r hr
  · rw [e1]; exact h5
  · rw [f3, if_neg (by omega)]; exact h6
  · rw [e3]; exact h7
  · rw [e4]; exact h8
  · rw [f3, if_pos rfl, h2]; push_cast; omega
  · obtain ⟨g1, g2, g3, g4, g5, g6⟩ := f4 o
    rw [if_neg (by omega)] at g1 g2 g3 g4 g5 g6
    rw [g1, g2, g3, g4, g5, g6]; exact h10 o ho
  · obtain ⟨g1, g2, g3, g4, g5, g6⟩ := f4 ((M0.1 0 13).toNat + i)
    by_cases hin : i = n
    · subst hin
      rw [if_pos rfl] at g1 g2 g3 g4 g5 g6
      exact ⟨by rw [g1, h1]; omega, g2, g3, g4, g5, g6⟩
    · rw [if_neg (by omega)] at g1 g2 g3 g4 g5 g6
      rw [g1, g2, g3, g4, g5, g6]; exact h11 i (by omega)

