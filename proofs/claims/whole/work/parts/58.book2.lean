/-! MODULE 54: the two books stay the same book (pure). -/
def Full (D : Mem) : Prop := ∀ r : Nat, (r : Int) < D.1 1 10 → 1 ≤ D.1 3 r ∧ (0 ≤ D.1 4 r → D.1 3 r = D.1 3 (D.1 4 r).toNat)
def Book (D M : Mem) : Prop := Wf D ∧ DR D M ∧ DRk D M ∧ Full D
def OriOK (D0 : Mem) (y ori rk : Int) (kd sx ag cp : Nat → Int) (n : Nat) : Prop := (ori = -1 ∧ (∀ i, i < n → cp i = -1) ∧ (rk = 0 ↔ n = 3 ∧ kd 0 = 0)) ∨ (∃ r : Nat, ori = r ∧ (r : Int) < D0.1 1 10 ∧ D0.1 4 r = -1 ∧ D0.1 3 r = n ∧ ∀ i, i < n → cp i = D0.1 2 r + i ∧ kd i = D0.1 6 (D0.1 2 r + i).toNat ∧ sx i = D0.1 8 (D0.1 2 r + i).toNat ∧ ag i = D0.1 9 (D0.1 2 r + i).toNat ∧ y = D0.1 7 (D0.1 2 r + i).toNat)
theorem wf_add {D0 D : Mem} (hw : Wf D0) (hF : Full D0) {y ori rk : Int} {kd sx ag cp : Nat → Int} {nm : Nat → Int64} {n : Nat} (hm : Mid D0 D y ori kd sx ag cp nm n) (h8 : D0.1 1 10 < 8) (hn : 1 ≤ n ∧ n ≤ 3) (h14 : D0.1 1 11 + n ≤ 14) (hy : 0 ≤ y ∧ y ≤ 3000) (hv : ∀ i, i < n → 0 ≤ kd i ∧ kd i ≤ 7 ∧ 0 ≤ sx i ∧ sx i ≤ 2 ∧ -1 ≤ ag i ∧ ag i ≤ 120 ∧ NameOK (nm i)) (hc : OriOK D0 y ori rk kd sx ag cp n) : Wf D ∧ Full D := by
  obtain ⟨⟨b1, b2, b3, b4⟩, ⟨R1, R2, R3, R4, R5⟩, hO, hC, hD, hV, hL⟩ := hw
  obtain ⟨⟨h1, h2, h3⟩, h4, ⟨h5, h6, h7⟩, h9, h10, h11, h12, h13⟩ := hm
  have eR : ((nR D0 : Nat) : Int) = D0.1 1 10 := by unfold nR; omega
  have eN : ((nN D0 : Nat) : Int) = D0.1 1 11 := by unfold nN; omega
  -- a record, a role: an old one or a new one
  have cR : ∀ r : Nat, (r : Int) < D.1 1 10 → r < nR D0 ∨ r = nR D0 := fun r hr => by omega
  have cN : ∀ o : Nat, (o : Int) < D.1 1 11 → o < nN D0 ∨ ∃ i, i < n ∧ o = nN D0 + i := fun o ho => by
    by_cases h : o < nN D0
    · exact Or.inl h
    · exact Or.inr ⟨o - nN D0, by omega, by omega⟩
  refine ⟨⟨⟨by omega, by omega, by omega, by omega⟩, ⟨fun r hr => ?_, fun r hr => ?_, fun _ => ?_, fun h => by omega, fun r hr => ?_⟩, fun o ho => ?_, fun r hr => ?_, fun o ho => ?_, fun o ho => ?_, ?_⟩, fun r hr => ?_⟩
  · rcases cR r hr with h | rfl
    · obtain ⟨g1, g2, g3⟩ := h4 r h
      have := R1 r (by omega)
      rw [g1, g2]; omega
    · rw [h5, h6]; omega
  · rcases cR r (by omega) with h | h
    · obtain ⟨g1, g2, g3⟩ := h4 r h
      rw [g1, g2]
      by_cases e : r + 1 < nR D0
      · rw [(h4 (r + 1) e).1]; exact R2 r (by omega)
      · have e2 : r + 1 = nR D0 := by omega
        rw [e2, h5]
        have := R5 r (by omega)
        omega
    · omega
  · by_cases h0 : nR D0 = 0
    · have := R4 (by omega)
      rw [← h0, h5]; exact this
    · rw [(h4 0 (by omega)).1]; exact R3 (by omega)
  · have : r = nR D0 := by omega
    subst this
    rw [h5, h6]; omega
  · rcases cN o ho with h | ⟨i, hi, rfl⟩
    · obtain ⟨q1, q2, q3, q4⟩ := hO o (by omega)
      obtain ⟨g1, g2, g3⟩ := h4 (D0.1 5 o).toNat (by omega)
      rw [(h9 o h).1, g1, g2]
      exact ⟨q1, by omega, q3, q4⟩
    · rw [(h10 i hi).1, show (D0.1 1 10).toNat = nR D0 from rfl, h5, h6]
      omega
  · rcases cR r hr with h | rfl
    · rw [(h4 r h).2.2, (h4 r h).2.1]
      rcases hC r (by omega) with q | ⟨q1, q2, q3, q4⟩
      · exact Or.inl q
      · obtain ⟨g1, g2, g3⟩ := h4 (D0.1 4 r).toNat (by omega)
        rw [g3, g2]
        exact Or.inr ⟨q1, q2, q3, q4⟩
    · rw [h7, h6]
      rcases hc with ⟨q, _⟩ | ⟨r, rfl, q1, q2, q3, q4⟩
      · exact Or.inl q
      · obtain ⟨g1, g2, g3⟩ := h4 r (by omega)
        refine Or.inr ⟨by omega, by omega, ?_, ?_⟩
        · rw [Int.toNat_natCast, g3]; exact q2
        · rw [Int.toNat_natCast, g2, q3]; exact Int.le_refl _
  · rcases cN o ho with h | ⟨i, hi, rfl⟩
    · obtain ⟨q1, q2, q3, q4⟩ := hO o (by omega)
      obtain ⟨g1, g2, g3⟩ := h4 (D0.1 5 o).toNat (by omega)
      obtain ⟨k1, k2, k3, k4, k5, k6, k7⟩ := h9 o h
      obtain ⟨d1, d2⟩ := hD o (by omega)
      rw [k1, g3, g1, k6, k2, k4, k5, k3]
      refine ⟨d1, fun hz => ?_⟩
      obtain ⟨e1, e2, e3, e4, e5⟩ := d2 hz
      have hq := hC (D0.1 5 o).toNat (by omega)
      have hq2 : D0.1 4 (D0.1 5 o).toNat < (D0.1 5 o).toNat ∧ D0.1 3 (D0.1 5 o).toNat ≤ D0.1 3 (D0.1 4 (D0.1 5 o).toNat).toNat := by
        rcases hq with z | z
        · omega
        · exact ⟨z.2.1, z.2.2.2⟩
      obtain ⟨l1, l2, l3⟩ := h4 (D0.1 4 (D0.1 5 o).toNat).toNat (by omega)
      have r1 := R1 (D0.1 4 (D0.1 5 o).toNat).toNat (by omega)
      have hlt : (D0.1 10 o).toNat < nN D0 := by omega
      obtain ⟨m1, m2, m3, m4, m5, m6, m7⟩ := h9 _ hlt
      rw [l1, m2, m3, m4, m5]
      exact ⟨e1, e2, e3, e4, e5⟩
    · obtain ⟨k1, k2, k3, k4, k5, k6, k7⟩ := h10 i hi
      rw [k1, show (D0.1 1 10).toNat = nR D0 from rfl, h7, h5, k6, k2, k3, k4, k5]
      rcases hc with ⟨rfl, q, _⟩ | ⟨r, rfl, q1, q2, q3, q4⟩
      · exact ⟨fun _ => q i hi, fun z => absurd z (by decide)⟩
      · obtain ⟨p1, p2, p3, p4, p5⟩ := q4 i hi
        obtain ⟨g1, g2, g3⟩ := h4 r (by omega)
        have r1 := R1 r q1
        have hlt : (cp i).toNat < nN D0 := by rw [p1]; omega
        obtain ⟨m1, m2, m3, m4, m5, m6, m7⟩ := h9 _ hlt
        refine ⟨fun z => by omega, fun _ => ?_⟩
        rw [Int.toNat_natCast, g1, m2, m3, m4, m5, p1]
        refine ⟨by omega, p2, p3, p4, p5⟩
  · rcases cN o ho with h | ⟨i, hi, rfl⟩
    · obtain ⟨k1, k2, k3, k4, k5, k6, k7⟩ := h9 o h
      rw [k2, k3, k4, k5, k7]
      exact hV o (by omega)
    · obtain ⟨k1, k2, k3, k4, k5, k6, k7⟩ := h10 i hi
      rw [k2, k3, k4, k5, k7]
      obtain ⟨v1, v2, v3, v4, v5, v6, v7⟩ := hv i hi
      exact ⟨v1, v2, hy.1, hy.2, v3, v4, v5, v6, v7⟩
  · unfold WfL
    rw [h11, h12]
    exact hL
  · rcases cR r hr with h | rfl
    · obtain ⟨g1, g2, g3⟩ := h4 r h
      obtain ⟨f1, f2⟩ := hF r (by omega)
      rw [g2, g3]
      refine ⟨f1, fun hz => ?_⟩
      have hq := hC r (by omega)
      obtain ⟨l1, l2, l3⟩ := h4 (D0.1 4 r).toNat (by omega)
      rw [l2]; exact f2 hz
    · rw [h6, h7]
      refine ⟨by omega, fun hz => ?_⟩
      rcases hc with ⟨rfl, q, _⟩ | ⟨r, rfl, q1, q2, q3, q4⟩
      · exact absurd hz (by decide)
      · rw [Int.toNat_natCast, (h4 r (by omega)).2.1, q3]
theorem book_add {D0 D M0 M : Mem} (hb : Book D0 M0) {y ori rk : Int} {kd sx ag cp : Nat → Int} {nm : Nat → Int64} {n : Nat} (hm : Mid D0 D y ori kd sx ag cp nm n) (hM : MMid M0 M y ori rk kd sx ag cp nm n) (h8 : D0.1 1 10 < 8) (hn : 1 ≤ n ∧ n ≤ 3) (h14 : D0.1 1 11 + n ≤ 14) (hy : 0 ≤ y ∧ y ≤ 3000) (hrk : 0 ≤ rk ∧ rk ≤ 4) (hv : ∀ i, i < n → 0 ≤ kd i ∧ kd i ≤ 7 ∧ 0 ≤ sx i ∧ sx i ≤ 2 ∧ -1 ≤ ag i ∧ ag i ≤ 120 ∧ NameOK (nm i)) (hc : OriOK D0 y ori rk kd sx ag cp n) : Book D M := by
  obtain ⟨hw, hr, hk, hF⟩ := hb
  obtain ⟨hw2, hF2⟩ := wf_add hw hF hm h8 hn h14 hy hv hc
  obtain ⟨⟨b1, b2, b3, b4⟩, ⟨R1, R2, R3, R4, R5⟩, hO, hC, hD, hV, hL⟩ := hw
  obtain ⟨⟨h1, h2, h3⟩, h4, ⟨h5, h6, h7⟩, h9, h10, h11, h12, h13⟩ := hm
  obtain ⟨⟨m1, m2, m3, m3b⟩, m4, ⟨m5, m6, m7, m8, m9⟩, m10, m11, m12⟩ := hM
  obtain ⟨⟨r1, r2, r3, r4⟩, ro, rl⟩ := hr
  have eR : ((nR D0 : Nat) : Int) = D0.1 1 10 := by unfold nR; omega
  have eN : ((nN D0 : Nat) : Int) = D0.1 1 11 := by unfold nN; omega
  have eR2 : (M0.1 0 12).toNat = nR D0 := by rw [r1]; rfl
  have eN2 : (M0.1 0 13).toNat = nN D0 := by rw [r2]; rfl
  rw [eR2] at m5 m6 m7 m8 m9
  rw [eN2] at m11
  rw [r1] at m1 m4 m11
  rw [r2] at m2 m6 m9 m10
  have cR : ∀ r : Nat, (r : Int) < D.1 1 10 → r < nR D0 ∨ r = nR D0 := fun r hr => by omega
  have cN : ∀ o : Nat, (o : Int) < D.1 1 11 → o < nN D0 ∨ ∃ i, i < n ∧ o = nN D0 + i := fun o ho => by
    by_cases h : o < nN D0
    · exact Or.inl h
    · exact Or.inr ⟨o - nN D0, by omega, by omega⟩
  refine ⟨hw2, ⟨⟨by rw [m1, h1], by rw [m2, h2], fun r hr => ?_, ?_⟩, fun o ho => ?_, ?_⟩, fun r hr hz => ?_, hF2⟩
  · rcases cR r hr with h | rfl
    · obtain ⟨g1, g2, g3⟩ := h4 r h
      obtain ⟨n1, n2, n3, n4⟩ := m4 r (by omega)
      rw [n1, n2, n3, n4, g1, g3]
      exact r3 r (by omega)
    · rw [m5, m6, m7, m8, h5, h7]
      exact ⟨rfl, rfl, hy.1, hy.2, hrk.1, hrk.2⟩
  · rw [show nR D = nR D0 + 1 by unfold nR at eR ⊢; omega, m9, h2]
  · rcases cN o ho with h | ⟨i, hi, rfl⟩
    · obtain ⟨k1, k2, k3, k4, k5, k6, k7⟩ := h9 o h
      obtain ⟨l1, l2, l3, l4, l5, l6⟩ := m10 o (by omega)
      obtain ⟨q1, q2, q3, q4⟩ := hO o (by omega)
      rw [k1, k2, k3, k4, k5, k6, k7, l1, l2, l3, l4, l5, l6, (m4 (D0.1 5 o).toNat (by omega)).1]
      exact ro o (by omega)
    · obtain ⟨k1, k2, k3, k4, k5, k6, k7⟩ := h10 i hi
      obtain ⟨l1, l2, l3, l4, l5, l6⟩ := m11 i hi
      rw [k1, k2, k3, k4, k5, k6, k7, l1, l2, l3, l4, l5, l6, show (D0.1 1 10).toNat = nR D0 from rfl, m5]
      exact ⟨rfl, rfl, rfl, rfl, rfl, rfl, rfl⟩
  · unfold DRl
    rw [h11, h12, m12, m3b 16 (by decide) (by decide) (by decide), m3b 17 (by decide) (by decide) (by decide), m3b 18 (by decide) (by decide) (by decide), m3b 19 (by decide) (by decide) (by decide), m3b 20 (by decide) (by decide) (by decide), m3b 14 (by decide) (by decide) (by decide), m3b 15 (by decide) (by decide) (by decide)]
    exact rl
  · rcases cR r hr with h | rfl
    · obtain ⟨g1, g2, g3⟩ := h4 r h
      obtain ⟨n1, n2, n3, n4⟩ := m4 r (by omega)
      have f1 := (hF r (by omega)).1
      have q1 := R1 r (by omega)
      have hlt : (D0.1 2 r).toNat < nN D0 := by omega
      rw [n4, g2, g1, (h9 _ hlt).2.1]
      exact hk r (by omega) (by rw [← g3]; exact hz)
    · rw [h7] at hz
      rw [m8, h6, h5, show (D0.1 1 11).toNat = nN D0 + 0 from rfl, (h10 0 (by omega)).2.1]
      rcases hc with ⟨_, _, q⟩ | ⟨r, rfl, q1, q2, q3, q4⟩
      · rw [q]
        constructor
        · rintro ⟨z1, z2⟩; exact ⟨by omega, z2⟩
        · rintro ⟨z1, z2⟩; exact ⟨by omega, z2⟩
      · omega

