/-! MODULE 57: the two objects side by side: what is asked. -/
theorem p_far {a b : Int64} : Pair mX9_far mX10_far [vl a, vl b] := by
  intro MC MM hI
  have hCC := w_X9_far (d := 21) (M := MC) (a := a) (b := b) hI.1.1.2.2.2.2.2.2.2.2
  have hMM := w_X10_far (d := 21) (M := MM) (a := a) (b := b) hI.1.2.1.2.2.2.2.2.2.2.2.2
  refine ⟨_, _, hCC, hMM, ?_⟩
  rintro v MC' ⟨rfl, f1⟩
  refine ⟨_, rfl, ?_⟩
  rintro w MM' ⟨rfl, f2⟩
  refine ⟨rfl, ?_⟩
  have hd : Dat MC MC' := f1.dat (by decide)
  have e0 := f1 0 (Or.inl (by decide))
  have e1 := f2 0 (Or.inl (by decide))
  refine ⟨hI.1.re hd f2.mdat, ?_, ?_⟩
  · rcases hI.2.1 with ⟨z1, z2⟩ | ⟨z1, z2, z3, z4⟩
    · exact Or.inl ⟨by rw [e0.1]; exact z1, by rw [e1.1]; exact z2⟩
    · refine Or.inr ⟨by rw [e0.1]; exact z1, by rw [e1.1]; exact z2, (z3.hi (fun p hp => f1 p (Or.inr (by omega)))).re hd, (z4.eq (fun k _ => by rw [e1.1]) (f2 _ (Or.inr (by decide))).1 (f2 _ (Or.inr (by decide))).1).re hd⟩
  · rw [(f1 24 (Or.inr (by decide))).1, e1.1]; exact hI.2.2
theorem p_role {r w : Int} (r1 : -2147483648 ≤ r) (r2 : r < 2147483648) (w1 : -2147483648 ≤ w) (w2 : w < 2147483648) : Pair mX9_role mX10_role [vi r, vi w] := by
  intro MC MM hI
  obtain ⟨⟨b1, b2, b3, b4⟩, ⟨c1, c2, c3, c4⟩, e1, e2⟩ := hI.bd
  by_cases hr : 0 ≤ r ∧ r < MC.1 1 11
  · obtain ⟨n, rfl⟩ : ∃ n : Nat, r = n := ⟨r.toNat, by omega⟩
    obtain ⟨k1, k2, k3, k4, k5, k6, k7⟩ := hI.1.2.1.2.1 n hr.2
    have ho := hI.1.1.2.2.1 n hr.2
    have hC := w_X9_role (d := 21) (M := MC) (r := n) hr.2 w1 w2 b1 b2 b3 b4
    have hM := w_X10_role (d := 21) (M := MM) (r := n) (by rw [e2]; exact hr.2) (by rw [k1]; omega) w1 w2 c1 c2 c3 c4
    have e : mroleS MM n w = roleS MC n w := by
      unfold mroleS roleS
      rw [k1, k2, k3, k4, k5, k7]
    rw [e] at hM
    exact pair_ret hC hM hI
  · exact pair_ret (w_X9_roleN (d := 21) hr r1 r2 b1 b2 b3 b4) (w_X10_roleN (d := 21) (by rw [e2]; exact hr) r1 r2 c1 c2 c3 c4) hI
theorem p_about {w : Int} (w1 : -2147483648 ≤ w) (w2 : w < 2147483648) : Pair mX9_about mX10_about [vi w] := by
  intro MC MM hI
  have hC := w_X9_about (d := 24) (M := MC) w1 w2
  have hM := w_X10_about (d := 24) (M := MM) w1 w2
  have e : maboutS MM w = aboutS MC w := by
    obtain ⟨_, _, e1, e2⟩ := hI.bd
    obtain ⟨l1, l2, l3, l4, l5, l6, l7, l8⟩ := hI.1.2.1.2.2
    unfold maboutS aboutS
    rw [e1, e2, l1, l2, l3, l4, l5, l6, l7, hI.2.2]
  rw [e] at hM
  exact pair_ret hC hM hI
theorem p_ways : Pair mX9_ways mX10_ways [] := fun MC MM hI => pair_ask hI (w_X9_ways (d := 3) hI.ready) (w_X10_ways (d := 19) hI.readyM)
theorem p_cost {k : Int} (k1 : -2147483648 ≤ k) (k2 : k < 2147483648) : Pair mX9_cost mX10_cost [vi k] := fun MC MM hI => pair_ask hI (w_X9_cost (d := 2) k1 k2 hI.ready) (w_X10_cost (d := 18) k1 k2 hI.readyM)
theorem p_quarrel : Pair mX9_quarrel mX10_quarrel [] := fun MC MM hI => pair_ask hI (w_X9_quarrel (d := 2) hI.ready) (w_X10_quarrel (d := 18) hI.readyM)
theorem p_person {k r : Int} (k1 : -2147483648 ≤ k) (k2 : k < 2147483648) (r1 : -2147483648 ≤ r) (r2 : r < 2147483648) : Pair mX9_person mX10_person [vi k, vi r] := by
  intro MC MM hI
  have hB : WfB MC := hI.1.1.1
  obtain ⟨_, _, e1, e2⟩ := hI.bd
  by_cases hr : 0 ≤ r ∧ r < MC.1 1 11
  · obtain ⟨n, rfl⟩ : ∃ n : Nat, r = n := ⟨r.toNat, by omega⟩
    exact pair_ask hI (w_X9_person (d := 2) hr.2 k1 k2 hI.ready) (w_X10_person (d := 18) hr.2 k1 k2 hI.readyM)
  · exact pair_ret (v_X9_person (d := 2) k1 k2 r1 r2 hB hr) (v_X10_person (d := 18) k1 k2 r1 r2 hI.readyM (by rw [e2]; exact hr)) hI

theorem p_link {a c : Int}  (a1 : -2147483648 ≤ a) (a2 : a < 2147483648) (c1 : -2147483648 ≤ c) (c2 : c < 2147483648) : Pair mX9_link mX10_link [vi a, vi c] := by
  intro MC MM hI
  have hB : WfB MC := hI.1.1.1
  obtain ⟨_, _, e1, e2⟩ := hI.bd
  by_cases hr : (0 ≤ a ∧ a < MC.1 1 11) ∧ (0 ≤ c ∧ c < MC.1 1 11)
  · obtain ⟨n, rfl⟩ : ∃ n : Nat, a = n := ⟨a.toNat, by omega⟩
    obtain ⟨m, rfl⟩ : ∃ m : Nat, c = m := ⟨c.toNat, by omega⟩
    exact pair_ask hI (w_X9_link (d := 2) hr.1.2 hr.2.2 hI.ready) (w_X10_link (d := 18) hr.1.2 hr.2.2 hI.readyM)
  · exact pair_ret (v_X9_link (d := 2) a1 a2 c1 c2 hB hr) (v_X10_link (d := 18) a1 a2 c1 c2 hI.readyM (by rw [e2]; exact hr)) hI

theorem p_first {a c : Int} {z : Int} (hz : z = 0 ∨ z = 1) (a1 : -2147483648 ≤ a) (a2 : a < 2147483648) (c1 : -2147483648 ≤ c) (c2 : c < 2147483648) : Pair mX9_first mX10_first [vi a, vi c, vi z] := by
  intro MC MM hI
  have hB : WfB MC := hI.1.1.1
  obtain ⟨_, _, e1, e2⟩ := hI.bd
  by_cases hr : (0 ≤ a ∧ a < MC.1 1 11) ∧ (0 ≤ c ∧ c < MC.1 1 11)
  · obtain ⟨n, rfl⟩ : ∃ n : Nat, a = n := ⟨a.toNat, by omega⟩
    obtain ⟨m, rfl⟩ : ∃ m : Nat, c = m := ⟨c.toNat, by omega⟩
    exact pair_ask hI (w_X9_first (d := 2) hr.1.2 hr.2.2 hz hI.ready) (w_X10_first (d := 18) hr.1.2 hr.2.2 hz hI.readyM)
  · exact pair_ret (v_X9_first (d := 2) hz a1 a2 c1 c2 hB hr) (v_X10_first (d := 18) hz a1 a2 c1 c2 hI.readyM (by rw [e2]; exact hr)) hI

theorem p_why {a c : Int}  (a1 : -2147483648 ≤ a) (a2 : a < 2147483648) (c1 : -2147483648 ≤ c) (c2 : c < 2147483648) : Pair mX9_why mX10_why [vi a, vi c] := by
  intro MC MM hI
  have hB : WfB MC := hI.1.1.1
  obtain ⟨_, _, e1, e2⟩ := hI.bd
  by_cases hr : (0 ≤ a ∧ a < MC.1 1 11) ∧ (0 ≤ c ∧ c < MC.1 1 11)
  · obtain ⟨n, rfl⟩ : ∃ n : Nat, a = n := ⟨a.toNat, by omega⟩
    obtain ⟨m, rfl⟩ : ∃ m : Nat, c = m := ⟨c.toNat, by omega⟩
    exact pair_ask hI (w_X9_why (d := 2) hr.1.2 hr.2.2 hI.ready) (w_X10_why (d := 17) hr.1.2 hr.2.2 hI.readyM)
  · exact pair_ret (v_X9_why (d := 2) a1 a2 c1 c2 hB hr) (v_X10_why (d := 17) a1 a2 c1 c2 hI.readyM (by rw [e2]; exact hr)) hI

theorem p_kin {a c : Int} {k : Int} (k1 : -2147483648 ≤ k) (k2 : k < 2147483648) (a1 : -2147483648 ≤ a) (a2 : a < 2147483648) (c1 : -2147483648 ≤ c) (c2 : c < 2147483648) : Pair mX9_kin mX10_kin [vi k, vi a, vi c] := by
  intro MC MM hI
  have hB : WfB MC := hI.1.1.1
  obtain ⟨_, _, e1, e2⟩ := hI.bd
  by_cases hr : (0 ≤ a ∧ a < MC.1 1 11) ∧ (0 ≤ c ∧ c < MC.1 1 11)
  · obtain ⟨n, rfl⟩ : ∃ n : Nat, a = n := ⟨a.toNat, by omega⟩
    obtain ⟨m, rfl⟩ : ∃ m : Nat, c = m := ⟨c.toNat, by omega⟩
    exact pair_ask hI (w_X9_kin (d := 2) hr.1.2 hr.2.2 k1 k2 hI.ready) (w_X10_kin (d := 18) hI.1.2.2.1 hr.1.2 hr.2.2 k1 k2 hI.readyM)
  · exact pair_ret (v_X9_kin (d := 2) k1 k2 a1 a2 c1 c2 hB hr) (v_X10_kin (d := 18) k1 k2 a1 a2 c1 c2 hI.readyM (by rw [e2]; exact hr)) hI

theorem p_always {a c : Int}  (a1 : -2147483648 ≤ a) (a2 : a < 2147483648) (c1 : -2147483648 ≤ c) (c2 : c < 2147483648) : Pair mX9_always mX10_always [vi a, vi c] := by
  intro MC MM hI
  have hB : WfB MC := hI.1.1.1
  obtain ⟨_, _, e1, e2⟩ := hI.bd
  by_cases hr : (0 ≤ a ∧ a < MC.1 1 11) ∧ (0 ≤ c ∧ c < MC.1 1 11)
  · obtain ⟨n, rfl⟩ : ∃ n : Nat, a = n := ⟨a.toNat, by omega⟩
    obtain ⟨m, rfl⟩ : ∃ m : Nat, c = m := ⟨c.toNat, by omega⟩
    exact pair_ask hI (w_X9_always (d := 2) hr.1.2 hr.2.2 hI.ready) (w_X10_always (d := 18) hI.1.2.2.1 hr.1.2 hr.2.2 hI.readyM)
  · exact pair_ret (v_X9_always (d := 2) a1 a2 c1 c2 hB hr) (v_X10_always (d := 18) a1 a2 c1 c2 hI.readyM (by rw [e2]; exact hr)) hI

