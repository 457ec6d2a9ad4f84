/-! MODULE 32: a good way so far: what both of them keep. -/
abbrev nC (D : Mem) (o : Nat) : Prop := D.1 10 o = -1
def Good (D : Mem) (a : Asg) (ppl : Nat) (c : Int) : Prop := (∀ x ∈ a, (x.1 : Int) < D.1 1 11 ∧ x.2 < ppl) ∧ (a.map (fun x => x.1)).Nodup ∧ (∀ x ∈ a, ¬ nC D x.1 → ∃ y ∈ a, (y.1 : Int) = D.1 10 x.1 ∧ y.2 = x.2 ∧ nC D y.1) ∧ (∀ x ∈ a, ∀ y ∈ a, x.2 = y.2 → x.1 ≠ y.1 → nC D x.1 → nC D y.1 → oneF D x.1 y.1) ∧ (∀ x ∈ a, ∀ y ∈ a, x.2 = y.2 → eF D x.1 ≤ lF D y.1) ∧ (∀ q, q < ppl → mems D a q ≠ []) ∧ c ≤ D.1 12 5
theorem Good.g1 {D : Mem} {a : Asg} {ppl : Nat} {c : Int} (h : Good D a ppl c) : ∀ x ∈ a, (x.1 : Int) < D.1 1 11 ∧ x.2 < ppl := h.1
theorem Good.g2 {D : Mem} {a : Asg} {ppl : Nat} {c : Int} (h : Good D a ppl c) : (a.map (fun x => x.1)).Nodup := h.2.1
theorem Good.g3 {D : Mem} {a : Asg} {ppl : Nat} {c : Int} (h : Good D a ppl c) : ∀ x ∈ a, ¬ nC D x.1 → ∃ y ∈ a, (y.1 : Int) = D.1 10 x.1 ∧ y.2 = x.2 ∧ nC D y.1 := h.2.2.1
theorem Good.g4 {D : Mem} {a : Asg} {ppl : Nat} {c : Int} (h : Good D a ppl c) : ∀ x ∈ a, ∀ y ∈ a, x.2 = y.2 → x.1 ≠ y.1 → nC D x.1 → nC D y.1 → oneF D x.1 y.1 := h.2.2.2.1
theorem Good.g5 {D : Mem} {a : Asg} {ppl : Nat} {c : Int} (h : Good D a ppl c) : ∀ x ∈ a, ∀ y ∈ a, x.2 = y.2 → eF D x.1 ≤ lF D y.1 := h.2.2.2.2.1
theorem Good.g6 {D : Mem} {a : Asg} {ppl : Nat} {c : Int} (h : Good D a ppl c) : ∀ q, q < ppl → mems D a q ≠ [] := h.2.2.2.2.2.1
theorem Good.g7 {D : Mem} {a : Asg} {ppl : Nat} {c : Int} (h : Good D a ppl c) : c ≤ D.1 12 5 := h.2.2.2.2.2.2
theorem oneF_sy {D : Mem} {a b : Nat} (h : oneF D a b) : oneF D b a := by
  obtain ⟨h1, h2, h3, h4, h5, h6⟩ := h
  exact ⟨fun z => h1 z.symm, fun z => h2 ⟨z.2.1, z.1, fun w => z.2.2 w.symm⟩, fun z => h3 ⟨z.2.1, z.1, z.2.2.2, z.2.2.1⟩, fun z => h4 ⟨z.2.1, z.1, z.2.2.2, z.2.2.1⟩, h6, h5⟩
/-- a copy's record is a copy, an original's role's an original -/
theorem nC_rec {D : Mem} (hw : Wf D) {o : Nat} (ho : (o : Int) < D.1 1 11) : nC D o ↔ D.1 4 (D.1 5 o).toNat = -1 := by
  obtain ⟨hB, hR, hO, hC, hD, hV, hL⟩ := hw
  obtain ⟨c1, c2, c3, c4⟩ := hO o ho
  obtain ⟨d1, d2⟩ := hD o ho
  obtain ⟨b1, b2, b3, b4⟩ := hB
  have c := hC (D.1 5 o).toNat (by omega)
  refine ⟨fun h => ?_, d1⟩
  rcases c with c | ⟨c5, c6, c7, c8⟩
  · exact c
  · have r1 := hR.1 (D.1 5 o).toNat (by omega)
    have r2 := hR.1 (D.1 4 (D.1 5 o).toNat).toNat (by omega)
    have h2 := (d2 c5).1
    unfold nC at h
    omega
/-- what a copy has of its role -/
theorem copy_f {D : Mem} (hw : Wf D) {o y : Nat} (ho : (o : Int) < D.1 1 11) (hy : (y : Int) = D.1 10 o) : ¬ nC D o ∧ (y : Int) < D.1 1 11 ∧ D.1 6 o = D.1 6 y ∧ D.1 8 o = D.1 8 y ∧ D.1 9 o = D.1 9 y ∧ D.1 7 o = D.1 7 y ∧ D.1 5 y = D.1 4 (D.1 5 o).toNat ∧ (y : Int) = D.1 2 (D.1 4 (D.1 5 o).toNat).toNat + (o - D.1 2 (D.1 5 o).toNat) := by
  have hn : ¬ nC D o := fun z => by unfold nC at z; omega
  have hrec := mt (nC_rec hw ho).mpr hn
  have hw2 := hw
  obtain ⟨hB, hR, hO, hC, hD, hV, hL⟩ := hw
  obtain ⟨c1, c2, c3, c4⟩ := hO o ho
  obtain ⟨d1, d2⟩ := hD o ho
  obtain ⟨b1, b2, b3, b4⟩ := hB
  rcases hC (D.1 5 o).toNat (by omega) with c | ⟨c5, c6, c7, c8⟩
  · exact absurd c hrec
  · have r1 := hR.1 (D.1 5 o).toNat (by omega)
    have r2 := hR.1 (D.1 4 (D.1 5 o).toNat).toNat (by omega)
    obtain ⟨e1, e2, e3, e4, e5⟩ := d2 c5
    rw [← hy, Int.toNat_natCast] at e2 e3 e4 e5
    rw [← hy] at e1
    refine ⟨hn, by omega, e2, e3, e4, e5, ?_, e1⟩
    have hyN : (y : Int) < D.1 1 11 := by omega
    have hu := rec_uniq hw2 (c := y) (r := (D.1 4 (D.1 5 o).toNat).toNat) (by omega) (by omega) (by omega) hyN
    omega
theorem copy_F {D : Mem} (hw : Wf D) {o y : Nat} (ho : (o : Int) < D.1 1 11) (hy : (y : Int) = D.1 10 o) : eF D o = eF D y ∧ lF D o = lF D y := by
  obtain ⟨h1, h2, h3, h4, h5, h6, h7, h8⟩ := copy_f hw ho hy
  unfold eF lF
  rw [h3, h5, h6]
  exact ⟨rfl, rfl⟩
theorem al_self {D : Mem} (hw : Wf D) {x : Nat} (hx : (x : Int) < D.1 1 11) : alF D x ≤ deF D x := by
  obtain ⟨v1, v2, v3, v4, v5, v6, v7, v8, v9⟩ := hw.2.2.2.2.2.1 x hx
  unfold alF deF
  split <;> split <;> omega
theorem out_iff {D : Mem} (hw : Wf D) {p o : Nat} (hp : (p : Int) < D.1 1 11) (ho : (o : Int) < D.1 1 11) : outF D p o ↔ alF D o ≤ deF D p := by
  obtain ⟨v1, v2, v3, v4, v5, v6, v7, v8, v9⟩ := hw.2.2.2.2.2.1 p hp
  obtain ⟨w1, w2, w3, w4, w5, w6, w7, w8, w9⟩ := hw.2.2.2.2.2.1 o ho
  unfold outF alF deF
  by_cases h1 : D.1 6 p = 5
  · rw [if_pos h1]
    by_cases h2 : D.1 6 o = 2
    · rw [if_pos h2, if_pos h2]; omega
    · rw [if_neg h2, if_neg h2]; omega
  · rw [if_neg h1]
    by_cases h2 : D.1 6 o = 2
    · rw [if_pos h2]; omega
    · rw [if_neg h2]; omega
theorem one_nc {D : Mem} (hw : Wf D) {o x : Nat} (ho : (o : Int) < D.1 1 11) (hx : (x : Int) < D.1 1 11) (hno : nC D o) (hnx : nC D x) : oneF D o x ↔ mN D x &&& cN D o = 0 ∧ alF D o ≤ deF D x ∧ alF D x ≤ deF D o := by
  obtain ⟨v1, v2, v3, v4, v5, v6, v7, v8, v9⟩ := hw.2.2.2.2.2.1 x hx
  obtain ⟨w1, w2, w3, w4, w5, w6, w7, w8, w9⟩ := hw.2.2.2.2.2.1 o ho
  rw [clash_iff hw hx ho, ← out_iff hw hx ho, ← out_iff hw ho hx]
  have e1 := hno
  have e2 := hnx
  unfold nC at e1 e2
  unfold oneF twoF
  constructor
  · rintro ⟨h1, h2, h3, h4, h5, h6⟩
    exact ⟨⟨fun z => h1 z.symm, by omega, by omega, by omega, by omega⟩, h6, h5⟩
  · rintro ⟨⟨h1, h2, h3, h4, h7⟩, h5, h6⟩
    exact ⟨fun z => h1 z.symm, by omega, by omega, by omega, h6, h5⟩
theorem mem_mems {D : Mem} {q p : Nat} : ∀ {a : Asg}, p ∈ mems D a q ↔ (p, q) ∈ a ∧ nC D p
  | [] => by simp [mems]
  | x :: r => by
    have ih := mem_mems (D := D) (q := q) (p := p) (a := r)
    have em : mems D (x :: r) q = if x.2 = q ∧ D.1 10 x.1 = -1 then x.1 :: mems D r q else mems D r q := rfl
    rw [em]
    obtain ⟨x1, x2⟩ := x
    by_cases h : x2 = q ∧ D.1 10 x1 = -1
    · rw [if_pos (show (x1, x2).2 = q ∧ D.1 10 (x1, x2).1 = -1 from h)]
      simp only [List.mem_cons, ih, Prod.mk.injEq]
      constructor
      · rintro (h1 | h1)
        · exact ⟨Or.inl ⟨h1, h.1.symm⟩, by rw [h1]; exact h.2⟩
        · exact ⟨Or.inr h1.1, h1.2⟩
      · rintro ⟨h1 | h1, h2⟩
        · exact Or.inl h1.1
        · exact Or.inr ⟨h1, h2⟩
    · rw [if_neg (show ¬ ((x1, x2).2 = q ∧ D.1 10 (x1, x2).1 = -1) from h)]
      simp only [List.mem_cons, ih, Prod.mk.injEq]
      constructor
      · rintro ⟨h1, h2⟩; exact ⟨Or.inr h1, h2⟩
      · rintro ⟨h1 | h1, h2⟩
        · exact absurd ⟨h1.2.symm, by rw [← h1.1]; exact h2⟩ h
        · exact ⟨h1, h2⟩
theorem one_copy {D : Mem} (hw : Wf D) {o x y : Nat} (ho : (o : Int) < D.1 1 11) (hx : (x : Int) < D.1 1 11) (hno : nC D o) (hy : (y : Int) = D.1 10 x) (h : oneF D o y) : oneF D o x := by
  obtain ⟨c1, c2, c3, c4, c5, c6, c7, c8⟩ := copy_f hw hx hy
  obtain ⟨h1, h2, h3, h4, h5, h6⟩ := h
  unfold oneF twoF outF at *
  rw [c3, c4, c6]
  refine ⟨fun z => ?_, h2, fun z => ?_, fun z => ?_, h5, h6⟩
  · have e := (nC_rec hw ho).mp hno
    rw [z] at e
    exact c1 ((nC_rec hw hx).mpr e)
  · have := z.2.2.2; omega
  · have := z.2.2.2; omega
theorem one_same {D : Mem} (hw : Wf D) {o x : Nat} (hx : (x : Int) < D.1 1 11) (ho : (o : Int) < D.1 1 11) (hr : D.1 5 o ≠ D.1 5 x) (hk : D.1 6 o = D.1 6 x) (hs : D.1 8 o = D.1 8 x) (hy : D.1 7 o = D.1 7 x) (hc : ¬ nC D o) : oneF D o x := by
  have e := mt (copy_neg hw ho).mp hc
  unfold oneF twoF outF
  refine ⟨hr, fun z => z.2.2 hs, fun z => e z.2.2.1, fun z => e z.2.2.1, ?_, ?_⟩
  · by_cases h : D.1 6 o = 5
    · right; rw [if_neg (by omega)]; omega
    · exact Or.inl h
  · by_cases h : D.1 6 x = 5
    · right; rw [if_neg (by omega)]; omega
    · exact Or.inl h
theorem feC_iff {D : Mem} (hw : Wf D) {o p : Nat} {r : List Nat} (hp : ∀ x ∈ p :: r, (x : Int) < D.1 1 11) (ho : (o : Int) < D.1 1 11) : feC D o (p :: r) = true ↔ (∀ x ∈ p :: r, mN D x &&& cN D o = 0) ∧ (∀ x y, (x ∈ p :: r ∨ x = o) → (y ∈ p :: r ∨ y = o) → eF D x ≤ lF D y) ∧ (∀ x y, (x ∈ p :: r ∨ x = o) → (y ∈ p :: r ∨ y = o) → alF D x ≤ deF D y) := by
  unfold feC
  rw [decide_eq_true_iff, marks_iff hw hp ho, mm_iff, mm_iff]
/-- a role that is no copy: the same answer, the same cost -/
theorem can_iff {D : Mem} (hw : Wf D) {a : Asg} {ppl : Nat} {c : Int} (hG : Good D a ppl c) {o q : Nat} (ho : (o : Int) < D.1 1 11) (hn : nC D o) (hno : o ∉ a.map (fun x => x.1)) (hq : q ≤ ppl) : (feC D o (mems D a q) = true → ∃ s', canM D o q a (eF D o, lF D o, c + (if q = ppl then D.1 12 6 else 0)) = some s' ∧ s'.1 ≤ s'.2.1 ∧ s'.2.2 = c + addC D o (mems D a q)) ∧ (∀ s', canM D o q a (eF D o, lF D o, c + (if q = ppl then D.1 12 6 else 0)) = some s' → s'.1 ≤ s'.2.1 → feC D o (mems D a q) = true ∧ s'.2.2 = c + addC D o (mems D a q)) := by
  have hneg : D.1 10 o < 0 := (copy_neg hw ho).mpr hn
  have hcost : ∀ s' : Int × Int × Int, s'.2.2 = c + (if q = ppl then D.1 12 6 else 0) + sumI ((mems D a q).map (apF D o)) → s'.2.2 = c + addC D o (mems D a q) := fun s' h => by
    rw [h]
    by_cases hqp : q = ppl
    · have e : mems D a q = [] := mems_none (fun x hx => by have := (hG.g1 x hx).2; omega)
      rw [e, if_pos hqp]
      show _ = c + D.1 12 6
      simp [sumI]
    · rw [if_neg hqp]
      have hne := hG.g6 q (by omega)
      cases hm : mems D a q with
      | nil => exact absurd hm hne
      | cons p r =>
        show _ = c + sumI _
        omega
  have hmv : ∀ x ∈ mems D a q, (x : Int) < D.1 1 11 := fun x hx => (hG.g1 _ (mem_mems.mp hx).1).1
  have hsrc : ∀ x ∈ a, x.2 = q → nC D x.1 ∨ ∃ y ∈ mems D a q, (y : Int) = D.1 10 x.1 := fun x hx hxq => by
    by_cases hc : nC D x.1
    · exact Or.inl hc
    · obtain ⟨y, hy, h1, h2, h3⟩ := hG.g3 x hx hc
      refine Or.inr ⟨y.1, mem_mems.mpr ⟨?_, h3⟩, h1⟩
      rw [← hxq, ← h2]; exact hy
  have hsp := canM_spec D hw o q a (fun x hx => (hG.g1 x hx).1) (eF D o, lF D o, c + (if q = ppl then D.1 12 6 else 0))
  rw [if_pos hneg] at hsp
  have key : feC D o (mems D a q) = true ↔ (∀ x ∈ a, x.2 = q → oneF D o x.1) ∧ (∀ x y, (x ∈ mems D a q ∨ x = o) → (y ∈ mems D a q ∨ y = o) → eF D x ≤ lF D y) := by
    cases hm : mems D a q with
    | nil =>
      rw [feC_nil, decide_eq_true_iff]
      rw [hm] at hsrc
      constructor
      · intro h
        refine ⟨fun x hx hxq => ?_, fun x y hx hy => ?_⟩
        · rcases hsrc x hx hxq with h1 | ⟨y, hy, _⟩
          · have : x.1 ∈ mems D a q := mem_mems.mpr ⟨by rw [← hxq]; exact hx, h1⟩
            rw [hm] at this
            cases this
          · cases hy
        · rcases hx with hx | rfl
          · cases hx
          · rcases hy with hy | rfl
            · cases hy
            · exact h
      · intro h
        exact h.2 o o (Or.inr rfl) (Or.inr rfl)
    | cons p r =>
      rw [hm] at hmv hsrc
      rw [feC_iff hw hmv ho]
      constructor
      · rintro ⟨h1, h2, h3⟩
        have hone : ∀ x ∈ p :: r, oneF D o x := fun x hx => by
          have hnx : nC D x := (mem_mems (a := a) (q := q)).mp (hm ▸ hx) |>.2
          exact (one_nc hw ho (hmv x hx) hn hnx).mpr ⟨h1 x hx, h3 o x (Or.inr rfl) (Or.inl hx), h3 x o (Or.inl hx) (Or.inr rfl)⟩
        refine ⟨fun x hx hxq => ?_, h2⟩
        rcases hsrc x hx hxq with h4 | ⟨y, hy, h5⟩
        · have : x.1 ∈ mems D a q := mem_mems.mpr ⟨by rw [← hxq]; exact hx, h4⟩
          rw [hm] at this
          exact hone _ this
        · exact one_copy hw ho (hG.g1 x hx).1 hn h5 (hone y hy)
      · rintro ⟨h1, h2⟩
        have hin : ∀ x ∈ p :: r, (x, q) ∈ a ∧ nC D x := fun x hx => mem_mems.mp (hm ▸ hx)
        have hone : ∀ x ∈ p :: r, mN D x &&& cN D o = 0 ∧ alF D o ≤ deF D x ∧ alF D x ≤ deF D o := fun x hx => (one_nc hw ho (hmv x hx) hn (hin x hx).2).mp (h1 _ (hin x hx).1 rfl)
        refine ⟨fun x hx => (hone x hx).1, h2, fun x y hx hy => ?_⟩
        rcases hx with hx | rfl
        · rcases hy with hy | rfl
          · by_cases hxy : x = y
            · subst hxy; exact al_self hw (hmv x hx)
            · have := hG.g4 _ (hin x hx).1 _ (hin y hy).1 rfl hxy (hin x hx).2 (hin y hy).2
              exact ((one_nc hw (hmv x hx) (hmv y hy) (hin x hx).2 (hin y hy).2).mp this).2.1
          · exact (hone x hx).2.2
        · rcases hy with hy | rfl
          · exact (hone y hy).2.1
          · exact al_self hw ho
  have hval : ∀ s' : Int × Int × Int, (∀ z, s'.1 ≤ z ↔ eF D o ≤ z ∧ ∀ x ∈ a, x.2 = q → eF D x.1 ≤ z) → (∀ z, z ≤ s'.2.1 ↔ z ≤ lF D o ∧ ∀ x ∈ a, x.2 = q → z ≤ lF D x.1) → (s'.1 ≤ s'.2.1 ↔ ∀ x y, (x ∈ mems D a q ∨ x = o) → (y ∈ mems D a q ∨ y = o) → eF D x ≤ lF D y) := fun s' h1 h2 => by
    have hl : ∀ z, (∀ y, (y ∈ mems D a q ∨ y = o) → z ≤ lF D y) ↔ z ≤ s'.2.1 := fun z => by
      rw [h2]
      constructor
      · intro h
        refine ⟨h o (Or.inr rfl), fun x hx hxq => ?_⟩
        rcases hsrc x hx hxq with h4 | ⟨y, hy, h5⟩
        · exact h _ (Or.inl (mem_mems.mpr ⟨by rw [← hxq]; exact hx, h4⟩))
        · rw [(copy_F hw (hG.g1 x hx).1 h5).2]; exact h y (Or.inl hy)
      · rintro ⟨h, h'⟩ y (hy | rfl)
        · exact h' _ (mem_mems.mp hy).1 rfl
        · exact h
    have hh : ∀ z, (∀ x, (x ∈ mems D a q ∨ x = o) → eF D x ≤ z) ↔ s'.1 ≤ z := fun z => by
      rw [h1]
      constructor
      · intro h
        refine ⟨h o (Or.inr rfl), fun x hx hxq => ?_⟩
        rcases hsrc x hx hxq with h4 | ⟨y, hy, h5⟩
        · exact h _ (Or.inl (mem_mems.mpr ⟨by rw [← hxq]; exact hx, h4⟩))
        · rw [(copy_F hw (hG.g1 x hx).1 h5).1]; exact h y (Or.inl hy)
      · rintro ⟨h, h'⟩ y (hy | rfl)
        · exact h' _ (mem_mems.mp hy).1 rfl
        · exact h
    rw [← hh]
    exact ⟨fun h x y hx hy => (hl _).mpr (h x hx) y hy, fun h x hx => (hl _).mp (fun y hy => h x y hx hy)⟩
  constructor
  · intro hf
    obtain ⟨k1, k2⟩ := key.mp hf
    rcases hsp with ⟨_, x, hx, h1, h2⟩ | ⟨s', h1, h2, h3, h4, h5⟩
    · exact absurd (k1 x hx h1) h2
    · exact ⟨s', h1, (hval s' h3 h4).mpr k2, hcost s' h5⟩
  · intro s' hs hle
    rcases hsp with ⟨h0, x, hx, h1, h2⟩ | ⟨s2, h1, h2, h3, h4, h5⟩
    · rw [h0] at hs; cases hs
    · rw [h1] at hs
      have e : s2 = s' := Option.some.inj hs
      rw [e] at h3 h4 h5
      exact ⟨key.mpr ⟨h2, (hval s' h3 h4).mp hle⟩, hcost s' h5⟩

