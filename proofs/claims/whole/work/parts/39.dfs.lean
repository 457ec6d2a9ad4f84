/-! MODULE 35: the reference's search is the same search. -/
def SFr (M M1 : Mem) : Prop := (∀ k, k ≠ 29 → k ≠ 30 → k ≠ 31 → k ≠ 34 → M1.1 0 k = M.1 0 k) ∧ ∀ p, p ≠ 0 → p ≠ 16 → p ≠ 17 → p ≠ 18 → p ≠ 19 → p ≠ 20 → M1.1 p = M.1 p ∧ M1.2 p = M.2 p
theorem SFr.rf {M : Mem} : SFr M M := ⟨fun _ _ _ _ _ => rfl, fun _ _ _ _ _ _ _ => ⟨rfl, rfl⟩⟩
theorem SFr.tr {M M1 M2 : Mem} (h : SFr M M1) (h2 : SFr M1 M2) : SFr M M2 := ⟨fun k a b c d => (h2.1 k a b c d).trans (h.1 k a b c d), fun p a b c d e f => ⟨(h2.2 p a b c d e f).1.trans (h.2 p a b c d e f).1, (h2.2 p a b c d e f).2.trans (h.2 p a b c d e f).2⟩⟩
theorem SFr.si {M M1 : Mem} (h : SFr M M1) (p k : Nat) (z : Int) (hp : (p = 0 ∧ (k = 29 ∨ k = 30 ∨ k = 31 ∨ k = 34)) ∨ p = 16 ∨ p = 17 ∨ p = 18 ∨ p = 19 ∨ p = 20 := by omega) : SFr M (si M1 p k z) := by
  refine ⟨fun j a b c d => ?_, fun j a b c d e f => ?_⟩
  · rw [← h.1 j a b c d, sil, if_neg (by omega)]
  · rw [si_1 M1 p k z j (by omega)]
    exact h.2 j a b c d e f
theorem SFr.mdat {M M1 : Mem} (h : SFr M M1) : MDat M M1 := ⟨fun k _ _ => h.1 k (by omega) (by omega) (by omega) (by omega), fun p _ _ _ => h.2 p (by omega) (by omega) (by omega) (by omega) (by omega) (by omega)⟩
/-- what a level keeps of those above it -/
def OldS (k : Nat) (M M1 : Mem) : Prop := (∀ j, j < k → M1.1 16 j = M.1 16 j) ∧ ∀ j, j ≤ k → M1.1 17 j = M.1 17 j ∧ M1.1 18 j = M.1 18 j
theorem OldS.rf {k : Nat} {M : Mem} : OldS k M M := ⟨fun _ _ => rfl, fun _ _ => ⟨rfl, rfl⟩⟩
theorem OldS.tr {k : Nat} {M M1 M2 : Mem} (h : OldS k M M1) (h2 : OldS k M1 M2) : OldS k M M2 := ⟨fun j a => (h2.1 j a).trans (h.1 j a), fun j a => ⟨(h2.2 j a).1.trans (h.2 j a).1, (h2.2 j a).2.trans (h.2 j a).2⟩⟩
theorem OldS.mono {k k' : Nat} {M M1 : Mem} (h : OldS k M M1) (hk : k' ≤ k) : OldS k' M M1 := ⟨fun j a => h.1 j (by omega), fun j a => h.2 j (by omega)⟩
theorem OldS.si {n : Nat} {M M1 : Mem} (h : OldS n M M1) (p k : Nat) (z : Int) (hp : (p = 16 ∧ n ≤ k) ∨ ((p = 17 ∨ p = 18) ∧ n < k) ∨ (p ≠ 16 ∧ p ≠ 17 ∧ p ≠ 18) := by omega) : OldS n M (si M1 p k z) := by
  refine ⟨fun j a => ?_, fun j a => ⟨?_, ?_⟩⟩
  · rw [← h.1 j a, sil, if_neg (by omega)]
  · rw [← (h.2 j a).1, sil, if_neg (by omega)]
  · rw [← (h.2 j a).2, sil, if_neg (by omega)]
def Lv (M : Mem) (a : Asg) (ppl : Nat) (c : Int) : Prop := RowI M 0 a ∧ M.1 17 a.length = c ∧ M.1 18 a.length = ppl
theorem RowI.fr {M M1 : Mem} : ∀ {a : Asg} {i : Nat}, RowI M i a → (∀ j, j < i + a.length → M1.1 15 j = M.1 15 j ∧ M1.1 16 j = M.1 16 j) → RowI M1 i a
  | [], _, _, _ => trivial
  | x :: r, i, h, hj => by
    have hl : (x :: r).length = r.length + 1 := rfl
    refine ⟨?_, ?_, RowI.fr h.2.2 (fun j hjj => hj j (by omega))⟩
    · rw [(hj i (by omega)).1]; exact h.1
    · rw [(hj i (by omega)).2]; exact h.2.1
theorem RowI.snoc {M : Mem} {o q : Nat} : ∀ {a : Asg} {i : Nat}, RowI M i a → M.1 15 (i + a.length) = o → M.1 16 (i + a.length) = q → RowI M i (a ++ [(o, q)])
  | [], i, _, h1, h2 => ⟨h1, h2, trivial⟩
  | x :: r, i, h, h1, h2 => by
    have hl : i + (x :: r).length = i + 1 + r.length := by show i + (r.length + 1) = _; omega
    rw [hl] at h1 h2
    exact ⟨h.1, h.2.1, RowI.snoc h.2.2 h1 h2⟩
theorem Lv.fr {M M1 : Mem} {a : Asg} {ppl : Nat} {c : Int} (h : Lv M a ppl c) (hS : SFr M M1) (hO : OldS a.length M M1) : Lv M1 a ppl c := by
  refine ⟨h.1.fr (fun j hj => ⟨by rw [(hS.2 15 (by decide) (by decide) (by decide) (by decide) (by decide) (by decide)).1], hO.1 j (by omega)⟩), ?_, ?_⟩
  · rw [(hO.2 _ (Nat.le_refl _)).1]; exact h.2.1
  · rw [(hO.2 _ (Nat.le_refl _)).2]; exact h.2.2
/-- how the ways found are kept: what the search must know of it -/
def SinkOK (pz : Int) (ord : List Nat) (SK : Mem → Res → Prop) : Prop := (∀ M R, SK M R → M.1 0 29 = R.1 ∧ M.1 0 30 = R.2.1.length ∧ R.1 ≤ 300000 ∧ R.2.1.length ≤ 3000) ∧ (∀ M M1 R, SK M R → M1.1 0 = M.1 0 → M1.1 19 = M.1 19 → M1.1 20 = M.1 20 → SK M1 R) ∧ (∀ M R, SK M R → R.1 < 300000 → SK (si M 0 29 (R.1 + 1)) (R.1 + 1, R.2.1, R.2.2)) ∧ (∀ M R, SK M R → SK (si M 0 31 1) (R.1, R.2.1, true)) ∧ ∀ (d : Nat) (M : Mem) (R : Res) (a : Asg) (c : Int), SK M R → R.2.1.length < 3000 → RowI M 0 a → a.map (fun x => x.1) = ord → (∀ x ∈ a, x.2 < 15) → M.1 0 28 = a.length → M.1 17 a.length = c → 0 ≤ c → c ≤ 10000 → WP wdM d mX10_comes [vr 0, vi pz] M (fun v M' => v = none ∧ SK M' (R.1, R.2.1 ++ [(a, c)], R.2.2) ∧ SFr M M' ∧ OldS a.length M M' ∧ M'.1 16 = M.1 16)

theorem can_yes {d : Nat} {D M : Mem} (hw : Wf D) (hr : DR D M) (hfar : FarD D M) {a : Asg} {o q ppl : Nat} {c c' : Int} (hG : Good D a ppl c) (hlen : a.length < 14) (hppl : ppl < 15) (hq : q ≤ ppl) (ho : (o : Int) < D.1 1 11) (hc0 : 0 ≤ c) (hto : M.1 15 a.length = o) (hL : Lv M a ppl c) (h : ∃ s', canM D o q a (eF D o, lF D o, c + (if q = ppl then D.1 12 6 else 0)) = some s' ∧ s'.1 ≤ s'.2.1 ∧ s'.2.2 = c') (hb : c' ≤ D.1 12 5) : WP wdM (d + 2) mX10_can [vr 0, vi a.length, vi q] M (Ret (some (vi 1)) (si M 17 (a.length + 1) c')) := by
  have hbud : D.1 12 5 ≤ 300 := hw.2.2.2.2.2.2.2.1.2.1
  have h7 := hG.g7
  refine wp_mono ?_ (w_X10_can (q := q) hw hr hfar (ppl := ppl) (c := c) (fun x hx => ⟨(hG.g1 x hx).1, by have := (hG.g1 x hx).2; omega⟩) hlen ho (by omega) (by omega) hc0 (by omega) hto hL.2.1 hL.2.2 hL.1)
  intro v M' hp
  obtain ⟨s', h1, h2, h3⟩ := h
  rw [h1] at hp
  obtain ⟨p1, p2⟩ := hp
  rw [bi_t ⟨h2, by rw [h3]; exact hb⟩] at p1
  rw [h3] at p2
  exact ⟨p1, p2⟩
theorem can_no {d : Nat} {D M : Mem} (hw : Wf D) (hr : DR D M) (hfar : FarD D M) {a : Asg} {o q ppl : Nat} {c : Int} (hG : Good D a ppl c) (hlen : a.length < 14) (hppl : ppl < 15) (hq : q ≤ ppl) (ho : (o : Int) < D.1 1 11) (hc0 : 0 ≤ c) (hto : M.1 15 a.length = o) (hL : Lv M a ppl c) (h : ∀ s', canM D o q a (eF D o, lF D o, c + (if q = ppl then D.1 12 6 else 0)) = some s' → ¬ (s'.1 ≤ s'.2.1 ∧ s'.2.2 ≤ D.1 12 5)) : WP wdM (d + 2) mX10_can [vr 0, vi a.length, vi q] M (fun v M' => v = some (vi 0) ∧ SFr M M' ∧ OldS a.length M M' ∧ M'.1 0 = M.1 0 ∧ M'.1 19 = M.1 19 ∧ M'.1 20 = M.1 20 ∧ M'.1 16 = M.1 16) := by
  have hbud : D.1 12 5 ≤ 300 := hw.2.2.2.2.2.2.2.1.2.1
  have h7 := hG.g7
  refine wp_mono ?_ (w_X10_can (q := q) hw hr hfar (ppl := ppl) (c := c) (fun x hx => ⟨(hG.g1 x hx).1, by have := (hG.g1 x hx).2; omega⟩) hlen ho (by omega) (by omega) hc0 (by omega) hto hL.2.1 hL.2.2 hL.1)
  intro v M' hp
  cases hR : canM D o q a (eF D o, lF D o, c + (if q = ppl then D.1 12 6 else 0)) with
  | none =>
    rw [hR] at hp
    obtain ⟨p1, p2⟩ := hp
    rw [p2]
    exact ⟨p1, SFr.rf, OldS.rf, rfl, rfl, rfl, rfl⟩
  | some s' =>
    rw [hR] at hp
    obtain ⟨p1, p2⟩ := hp
    rw [bi_f (h s' hR)] at p1
    rw [p2]
    exact ⟨p1, SFr.rf.si _ _ _, OldS.rf.si _ _ _, si_1 _ _ _ _ _ (by decide), si_1 _ _ _ _ _ (by decide), si_1 _ _ _ _ _ (by decide), si_1 _ _ _ _ _ (by decide)⟩

