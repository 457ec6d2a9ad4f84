/-! MODULE 33: good ways go on being good. -/
/-- a copy can always be of its role's person -/
theorem can_copy {D : Mem} (hw : Wf D) {a : Asg} {ppl : Nat} {c : Int} (hG : Good D a ppl c) {o : Nat} (ho : (o : Int) < D.1 1 11) (hno : o ∉ a.map (fun x => x.1)) {y : Nat × Nat} (hy : y ∈ a) (hyo : (y.1 : Int) = D.1 10 o) (hyn : nC D y.1) : ∃ s', canM D o y.2 a (eF D o, lF D o, c + (if y.2 = ppl then D.1 12 6 else 0)) = some s' ∧ s'.1 ≤ s'.2.1 ∧ s'.2.2 = c := by
  obtain ⟨f1, f2, f3, f4, f5, f6, f7, f8⟩ := copy_f hw ho hyo
  have hcn : ¬ D.1 10 o < 0 := by omega
  have hpl : ¬ y.2 = ppl := by have := (hG.g1 y hy).2; omega
  have hor := (nC_rec hw f2).mp hyn
  have horo := mt (nC_rec hw ho).mpr f1
  have hnc : ∀ x ∈ a, x.2 = y.2 → nC D x.1 → oneF D o x.1 := fun x hx hxq hxn => by
    have hxv := (hG.g1 x hx).1
    have hxr := (nC_rec hw hxv).mp hxn
    have hrr : D.1 5 o ≠ D.1 5 x.1 := fun z => by rw [z] at horo; exact horo hxr
    by_cases hxy : x.1 = y.1
    · rw [hxy] at hrr ⊢
      exact one_same hw f2 ho hrr f3 f4 f6 f1
    · exact oneF_sy (one_copy hw hxv ho hxn hyo (hG.g4 x hx y hy hxq hxy hxn hyn))
  have hall : ∀ x ∈ a, x.2 = y.2 → oneF D o x.1 := fun x hx hxq => by
    by_cases hxn : nC D x.1
    · exact hnc x hx hxq hxn
    · obtain ⟨x2, hx2, e1, e2, e3⟩ := hG.g3 x hx hxn
      have hxv := (hG.g1 x hx).1
      obtain ⟨k1, k2, k3, k4, k5, k6, k7, k8⟩ := copy_f hw hxv e1
      have hrr : D.1 5 o ≠ D.1 5 x.1 := fun z => by
        by_cases hxy : x2.1 = y.1
        · rw [hxy, ← z] at k8
          have : (x.1 : Int) = o := by omega
          have : x.1 = o := by omega
          exact hno (List.mem_map.mpr ⟨x, hx, this⟩)
        · have h := hG.g4 x2 hx2 y hy (by rw [e2, hxq]) hxy e3 hyn
          apply h.1
          rw [k7, f7, z]
      by_cases hxy : x2.1 = y.1
      · rw [hxy] at k3 k4 k6
        exact one_same hw hxv ho hrr (by omega) (by omega) (by omega) f1
      · have h := hnc x2 hx2 (by rw [e2, hxq]) e3
        obtain ⟨h1, h2, h3, h4, h5, h6⟩ := h
        unfold oneF twoF outF at *
        rw [k3, k4, k6]
        exact ⟨hrr, h2, fun z => hcn z.2.2.1, fun z => hcn z.2.2.1, h5, h6⟩
  rcases canM_spec D hw o y.2 a (fun x hx => (hG.g1 x hx).1) (eF D o, lF D o, c + (if y.2 = ppl then D.1 12 6 else 0)) with ⟨_, x, hx, h1, h2⟩ | ⟨s', h1, h2, h3, h4, h5⟩
  · exact absurd (hall x hx h1) h2
  · obtain ⟨F1, F2⟩ := copy_F hw ho hyo
    refine ⟨s', h1, ?_, ?_⟩
    · rw [h3]
      refine ⟨?_, fun x hx hxq => ?_⟩
      · rw [h4]
        refine ⟨by rw [F1, F2]; exact hG.g5 y hy y hy rfl, fun z hz hzq => ?_⟩
        show eF D o ≤ _
        rw [F1]; exact hG.g5 y hy z hz hzq.symm
      · rw [h4]
        refine ⟨by show _ ≤ lF D o; rw [F2]; exact hG.g5 x hx y hy hxq, fun z hz hzq => hG.g5 x hx z hz (by rw [hxq, hzq])⟩
    · rw [h5, if_neg hcn, if_neg hpl]
      show c + 0 + 0 = c
      omega
theorem good_o {D : Mem} (hw : Wf D) {a : Asg} {ppl : Nat} {c : Int} (hG : Good D a ppl c) {o q : Nat} (ho : (o : Int) < D.1 1 11) (hn : nC D o) (hno : o ∉ a.map (fun x => x.1)) (hq : q ≤ ppl) (hf : feC D o (mems D a q) = true) (hb : c + addC D o (mems D a q) ≤ D.1 12 5) : Good D (a ++ [(o, q)]) (if q < ppl then ppl else ppl + 1) (c + addC D o (mems D a q)) := by
  obtain ⟨s', h1, h2, h3⟩ := (can_iff hw hG ho hn hno hq).1 hf
  rcases canM_spec D hw o q a (fun x hx => (hG.g1 x hx).1) (eF D o, lF D o, c + (if q = ppl then D.1 12 6 else 0)) with ⟨h0, _⟩ | ⟨s2, k1, k2, k3, k4, k5⟩
  · rw [h0] at h1; cases h1
  · have e : s2 = s' := Option.some.inj (k1.symm.trans h1)
    rw [e] at k3 k4
    have hle := (k3 _).mp h2
    have hlo := (k4 _).mp hle.1
    have hmem : ∀ x : Nat × Nat, x ∈ a ++ [(o, q)] ↔ x ∈ a ∨ x = (o, q) := fun x => by simp
    refine ⟨fun x hx => ?_, ?_, fun x hx hxn => ?_, fun x hx y hy hxy hne hx1 hy1 => ?_, fun x hx y hy hxy => ?_, fun q' hq' => ?_, hb⟩
    · rcases (hmem x).mp hx with hx | rfl
      · have := hG.g1 x hx
        exact ⟨this.1, by have := this.2; split <;> omega⟩
      · exact ⟨ho, by show q < _; split <;> omega⟩
    · rw [List.map_append, List.nodup_append]
      refine ⟨hG.g2, by simp, fun x hx y hy => ?_⟩
      simp only [List.map_cons, List.map_nil, List.mem_singleton] at hy
      rw [hy]
      exact fun z => hno (z ▸ hx)
    · rcases (hmem x).mp hx with hx | rfl
      · obtain ⟨y, hy, h⟩ := hG.g3 x hx hxn
        exact ⟨y, (hmem y).mpr (Or.inl hy), h⟩
      · exact absurd hn hxn
    · rcases (hmem x).mp hx with hx | rfl
      · rcases (hmem y).mp hy with hy | rfl
        · exact hG.g4 x hx y hy hxy hne hx1 hy1
        · exact oneF_sy (k2 x hx hxy)
      · rcases (hmem y).mp hy with hy | rfl
        · exact k2 y hy hxy.symm
        · exact absurd rfl hne
    · rcases (hmem x).mp hx with hx | rfl
      · rcases (hmem y).mp hy with hy | rfl
        · exact hG.g5 x hx y hy hxy
        · exact ((k4 _).mp (hle.2 x hx hxy)).1
      · rcases (hmem y).mp hy with hy | rfl
        · exact hlo.2 y hy hxy.symm
        · exact hlo.1
    · rw [mems_snoc hn]
      by_cases h : q' = q
      · rw [if_pos h]; simp
      · rw [if_neg h]
        refine hG.g6 q' ?_
        split at hq' <;> omega
theorem good_c {D : Mem} (hw : Wf D) {a : Asg} {ppl : Nat} {c : Int} (hG : Good D a ppl c) {o : Nat} (ho : (o : Int) < D.1 1 11) (hno : o ∉ a.map (fun x => x.1)) {y : Nat × Nat} (hy : y ∈ a) (hyo : (y.1 : Int) = D.1 10 o) (hyn : nC D y.1) : Good D (a ++ [(o, y.2)]) ppl c := by
  have hn := (copy_f hw ho hyo).1
  obtain ⟨F1, F2⟩ := copy_F hw ho hyo
  have hmem : ∀ x : Nat × Nat, x ∈ a ++ [(o, y.2)] ↔ x ∈ a ∨ x = (o, y.2) := fun x => by simp
  refine ⟨fun x hx => ?_, ?_, fun x hx hxn => ?_, fun x hx z hz hxy hne hx1 hz1 => ?_, fun x hx z hz hxy => ?_, fun q' hq' => ?_, hG.g7⟩
  · rcases (hmem x).mp hx with hx | rfl
    · exact hG.g1 x hx
    · exact ⟨ho, (hG.g1 y hy).2⟩
  · rw [List.map_append, List.nodup_append]
    refine ⟨hG.g2, by simp, fun x hx y hy => ?_⟩
    simp only [List.map_cons, List.map_nil, List.mem_singleton] at hy
    rw [hy]
    exact fun z => hno (z ▸ hx)
  · rcases (hmem x).mp hx with hx | rfl
    · obtain ⟨z, hz, h⟩ := hG.g3 x hx hxn
      exact ⟨z, (hmem z).mpr (Or.inl hz), h⟩
    · exact ⟨y, (hmem y).mpr (Or.inl hy), hyo, rfl, hyn⟩
  · rcases (hmem x).mp hx with hx | rfl
    · rcases (hmem z).mp hz with hz | rfl
      · exact hG.g4 x hx z hz hxy hne hx1 hz1
      · exact absurd hz1 hn
    · exact absurd hx1 hn
  · rcases (hmem x).mp hx with hx | rfl
    · rcases (hmem z).mp hz with hz | rfl
      · exact hG.g5 x hx z hz hxy
      · show _ ≤ lF D o
        rw [F2]; exact hG.g5 x hx y hy hxy
    · show eF D o ≤ _
      rw [F1]
      rcases (hmem z).mp hz with hz | rfl
      · exact hG.g5 y hy z hz hxy
      · show _ ≤ lF D o
        rw [F2]; exact hG.g5 y hy y hy rfl
  · rw [mems_copy hn]; exact hG.g6 q' hq'
theorem good_0 (D : Mem) (hw : Wf D) : Good D [] 0 0 := ⟨fun x hx => (by cases hx), List.nodup_nil, fun x hx => (by cases hx), fun x hx => (by cases hx), fun x hx => (by cases hx), fun q hq => absurd hq (by omega), by obtain ⟨m, m1, m2⟩ := hw.2.2.2.2.2.2; exact m1.1⟩

