/-! MODULE 56: the two objects side by side: copy, drop, laws, letters, cost, and what is asked. -/
theorem p_copy {r : Int} {a b c : Int64} (r1 : -2147483648 ≤ r) (r2 : r < 2147483648) : Pair mX9_copy mX10_copy [vi r, vl a, vl b, vl c] := by
  intro MC MM hI
  obtain ⟨⟨b1, b2, b3, b4⟩, ⟨c1, c2, c3, c4⟩, e1, e2⟩ := hI.bd
  have hB : WfB MC := hI.1.1.1
  have hBM := hI.1.2.1.bd hI.1.1
  obtain ⟨hw, hD, hk, hF⟩ := id hI.1
  obtain ⟨⟨d1, d2, d3, d4⟩, dro, drl⟩ := id hD
  obtain ⟨_, ⟨R1, R2, R3, R4, R5⟩, hO, hC, hDD, hV, hL⟩ := id hw
  by_cases hr : 0 ≤ r ∧ r < MC.1 1 10
  · obtain ⟨n, rfl⟩ : ∃ n : Nat, r = n := ⟨r.toNat, by omega⟩
    have hrn := hr.2
    have h1r := (hF n hrn).1
    have g := R1 n hrn
    obtain ⟨x1, x2, x3, x4, x5, x6⟩ := d3 n hrn
    obtain ⟨f, hf⟩ : ∃ f : Nat, MC.1 2 n = f := ⟨(MC.1 2 n).toNat, by omega⟩
    obtain ⟨k, hkk⟩ : ∃ k : Nat, MC.1 3 n = k := ⟨(MC.1 3 n).toNat, by omega⟩
    have hcw := hC n hrn
    have hfn : MM.1 2 (n + 1) = f + k := by
      by_cases hl : ((n : Int) + 1) < MC.1 1 10
      · rw [(d3 (n + 1) (by omega)).1, R2 n hl, hf, hkk]
      · have hz : n + 1 = nR MC := by unfold nR; omega
        rw [hz, d4, ← R5 n (by omega), hf, hkk]
    have hCC := w_X9_copy (d := 20) (M := MC) (r := n) (a := a) (b := b) (c := c) hw hrn h1r
    have hMM := w_X10_copy (d := 20) (M := MM) (r := n) (f := f) (n := k) (a := a) (b := b) (c := c) (by omega) (by omega) (by omega) (by rw [x1, hf]) hfn (by omega) ⟨x3, x4⟩ (by rw [x2]; omega) c1 c2 c3 c4
    have hiff : mcopyOK MM n k a b c ↔ copyOK MC n a b c := by
      unfold mcopyOK copyOK
      rw [e1, e2, x2, Int.toNat_natCast, hkk]
      constructor
      · rintro ⟨z1, z2, z3, z4, z5, z6⟩
        exact ⟨⟨hr, by omega⟩, z2, fun q => z3 (by omega), fun q => z4 (by omega), z5, z6⟩
      · rintro ⟨⟨z0, z1⟩, z2, z3, z4, z5, z6⟩
        exact ⟨by omega, z2, fun q => z3 (by omega), fun q => z4 (by omega), z5, z6⟩
    by_cases hok : copyOK MC n a b c
    · have hok2 := hiff.mpr hok
      rw [if_pos hok, if_pos hok] at hCC
      rw [if_pos hok2, if_pos hok2, e1] at hMM
      obtain ⟨⟨_, q1⟩, q2, q3, q4, q8, q14⟩ := id hok
      rw [Int.toNat_natCast] at q1 q3 q4 q14
      have hff : ∀ i, i < k → MC.1 5 (f + i) = n := fun i hi => rec_uniq hw hrn (c := f + i) (by omega) (by omega) (by omega)
      have hyr : ∀ i, i < k → MC.1 7 (f + i) = MM.1 1 n := fun i hi => by
        have := (dro (f + i) (by omega)).2.2.2.2.2.2
        rw [hff i hi, Int.toNat_natCast] at this
        exact this.symm
      refine pair_ret hCC hMM ?_
      have m1 : ∀ i, i ≤ k → Mid MC (copyK (openM MC (MM.1 1 n) n) f (nmF a b c) i) (MM.1 1 n) n (fun i => MC.1 6 (f + i)) (fun i => MC.1 8 (f + i)) (fun i => MC.1 9 (f + i)) (fun i => ((f + i : Nat) : Int)) (nmF a b c) i := by
        intro i
        induction i with
        | zero => exact fun _ => Mid.opn hB
        | succ i ih => exact fun hi => Mid.again hB (ih (by omega)) (r := f + i) (by unfold nN; omega) rfl rfl rfl rfl
      have m2 : ∀ i, i ≤ k → MMid MM (mcopyK (mcopyO MM n) f (nmF a b c) i) (MM.1 1 n) n (MM.1 4 n) (fun i => MC.1 6 (f + i)) (fun i => MC.1 8 (f + i)) (fun i => MC.1 9 (f + i)) (fun i => ((f + i : Nat) : Int)) (nmF a b c) i := by
        intro i
        induction i with
        | zero => exact fun _ => MMid.opnC hBM
        | succ i ih =>
          intro hi
          have h := ih (by omega)
          have h2 := MMid.add hBM h
          obtain ⟨l1, l2, l3, l4, l5, l6⟩ := h.2.2.2.1 (f + i) (by omega)
          obtain ⟨k1, k2, k3, k4, k5, k6, k7⟩ := dro (f + i) (by omega)
          show MMid MM (madd (mcopyK (mcopyO MM n) f (nmF a b c) i) ((mcopyK (mcopyO MM n) f (nmF a b c) i).1 8 (f + i)) ((mcopyK (mcopyO MM n) f (nmF a b c) i).1 6 (f + i)) ((mcopyK (mcopyO MM n) f (nmF a b c) i).1 7 (f + i)) (nmF a b c i) ((f + i : Nat) : Int)) _ _ _ _ _ _ _ _ _
          rw [l4, l2, l3, k4, k2, k3]
          exact h2
      have e3 : copyM MC n a b c = closeM (copyK (openM MC (MM.1 1 n) n) f (nmF a b c) k) := by
        unfold copyM
        have h0 := hyr 0 (by omega)
        rw [Int.toNat_natCast, hf, hkk, Int.toNat_natCast, Int.toNat_natCast, show f = f + 0 from rfl, h0]
      rw [e3]
      refine hI.add (m1 k (Nat.le_refl _)) (m2 k (Nat.le_refl _)) q8 (by omega) (by omega) ⟨x3, x4⟩ ⟨x5, x6⟩ (fun i hi => ?_) (Or.inr ⟨n, rfl, hrn, q1, hkk, fun i hi => ?_⟩)
      · obtain ⟨v1, v2, v3, v4, v5, v6, v7, v8, v9⟩ := hV (f + i) (by omega)
        refine ⟨v1, v2, v5, v6, v7, v8, ?_⟩
        unfold nmF
        by_cases i0 : i = 0
        · rw [if_pos i0]; exact q2
        · rw [if_neg i0]
          by_cases i1 : i = 1
          · rw [if_pos i1]; exact q3 (by omega)
          · rw [if_neg i1]; exact q4 (by omega)
      · have ef : (MC.1 2 n + (i : Int)).toNat = f + i := by omega
        rw [ef]
        exact ⟨by rw [hf]; push_cast; rfl, rfl, rfl, rfl, (hyr i hi).symm⟩
    · have hok2 : ¬ mcopyOK MM n k a b c := fun z => hok (hiff.mp z)
      rw [if_neg hok, if_neg hok] at hCC
      rw [if_neg hok2, if_neg hok2] at hMM
      exact pair_ret hCC hMM hI
  · exact pair_ret (w_X9_copyN (d := 20) r1 r2 hr hw) (w_X10_copyN (d := 20) r1 r2 (by rw [e1]; exact hr) (fun j hj => by
      have q1 := hC j (by omega)
      rw [(d3 j (by omega)).2.1]; omega) c1 c2 c3 c4) hI

theorem p_drop : Pair mX9_drop mX10_drop [] := by
  intro MC MM hI
  obtain ⟨⟨b1, b2, b3, b4⟩, ⟨c1, c2, c3, c4⟩, e1, e2⟩ := hI.bd
  obtain ⟨hw, hD, hk, hF⟩ := id hI.1
  obtain ⟨⟨d1, d2, d3, d4⟩, dro, drl⟩ := id hD
  obtain ⟨hB, ⟨R1, R2, R3, R4, R5⟩, hO, hC, hDD, hV, hL⟩ := id hw
  have hCC := w_X9_drop (d := 21) (M := MC) b1 b2 b3 b4
  have hMM := w_X10_drop (d := 24) (M := MM) c1 c2 c3 c4
  by_cases hz : MC.1 1 10 = 0
  · rw [bi_f (fun z => z hz), if_neg (fun z => z hz)] at hCC
    rw [bi_f (fun z => z (by rw [e1]; exact hz)), if_neg (fun z => z (by rw [e1]; exact hz))] at hMM
    exact pair_ret hCC hMM hI
  · rw [bi_t hz, if_pos hz] at hCC
    rw [bi_t (show MM.1 0 12 ≠ 0 by rw [e1]; exact hz), if_pos (show MM.1 0 12 ≠ 0 by rw [e1]; exact hz)] at hMM
    refine pair_ret hCC hMM ?_
    obtain ⟨l, hl⟩ : ∃ l : Nat, MC.1 1 10 - 1 = l := ⟨(MC.1 1 10 - 1).toNat, by omega⟩
    have gl := R1 l (by omega)
    have tl := R5 l (by omega)
    obtain ⟨f, hf⟩ : ∃ f : Nat, MC.1 2 l = f := ⟨(MC.1 2 l).toNat, by omega⟩
    obtain ⟨D, hDe⟩ : ∃ D, D = closeM (dropM MC) := ⟨_, rfl⟩
    obtain ⟨M, hMe⟩ : ∃ M, M = mdropM MM := ⟨_, rfl⟩
    rw [← hDe, ← hMe]
    have x2 : ∀ p, p ≠ 0 → p ≠ 1 → D.1 p = MC.1 p := fun p h0 h1 => by rw [hDe]; unfold closeM dropM; rw [si_1 _ _ _ _ _ h0, si_1 _ _ _ _ _ h1, si_1 _ _ _ _ _ h1]
    have x3 : D.2 = MC.2 := by rw [hDe]; rfl
    have x4 : D.1 1 10 = l := by rw [hDe, ← hl]; unfold closeM dropM; rw [si_1 _ _ _ _ _ (by decide), sil, if_pos ⟨rfl, rfl⟩]
    have x5 : D.1 1 11 = f := by rw [hDe, ← hf]; unfold closeM dropM; rw [si_1 _ _ _ _ _ (by decide), sil, if_neg (by omega), sil, if_pos ⟨rfl, rfl⟩, hl]; rfl
    have x6 : D.1 0 7 = 0 := by rw [hDe]; unfold closeM; rw [sil, if_pos ⟨rfl, rfl⟩]
    have y2 : ∀ p, p ≠ 0 → M.1 p = MM.1 p := fun p h0 => by rw [hMe]; unfold mdropM; rw [si_1 _ _ _ _ _ h0, si_1 _ _ _ _ _ h0, si_1 _ _ _ _ _ h0]
    have y3 : M.2 = MM.2 := by rw [hMe]; rfl
    have y4 : M.1 0 12 = l := by rw [hMe, ← hl, ← e1]; unfold mdropM; rw [sil, if_neg (by omega), sil, if_neg (by omega), sil, if_pos ⟨rfl, rfl⟩]
    have y5 : M.1 0 13 = f := by
      have q1 := (d3 l (by omega)).1
      rw [hMe, ← hf, ← q1]; unfold mdropM; rw [sil, if_neg (by omega), sil, if_pos ⟨rfl, rfl⟩, e1, hl]; rfl
    have y6 : M.1 0 21 = 0 := by rw [hMe]; unfold mdropM; rw [sil, if_pos ⟨rfl, rfl⟩]
    have y7 : ∀ j, j ≠ 12 → j ≠ 13 → j ≠ 21 → M.1 0 j = MM.1 0 j := fun j h1 h2 h3 => by rw [hMe]; unfold mdropM; rw [sil, if_neg (by omega), sil, if_neg (by omega), sil, if_neg (by omega)]
    have hlast : ∀ o : Nat, (o : Int) < f → MC.1 5 o < l := fun o ho => by
      have q := hO o (by omega)
      refine Classical.byContradiction (fun hn => ?_)
      have : (MC.1 5 o).toNat = l := by omega
      rw [this] at q
      omega
    have hfirst : ∀ r : Nat, (r : Int) < l → MC.1 2 r + MC.1 3 r ≤ f := fun r hr => by
      have := first_mono hw (l - (r + 1)) r (by omega)
      rw [show r + 1 + (l - (r + 1)) = l by omega, hf] at this
      exact this
    refine ⟨⟨⟨⟨by omega, by omega, by omega, by omega⟩, ⟨fun r hr => ?_, fun r hr => ?_, fun hr => ?_, fun h => ?_, fun r hr => ?_⟩, fun o ho => ?_, fun r hr => ?_, fun o ho => ?_, fun o ho => ?_, ?_⟩, ⟨⟨by rw [x4, y4], by rw [x5, y5], fun r hr => ?_, ?_⟩, fun o ho => ?_, ?_⟩, fun r hr => ?_, fun r hr => ?_⟩, Or.inl ⟨x6, y6⟩, ?_⟩
    · rw [x2 2 (by decide) (by decide), x2 3 (by decide) (by decide), x5]
      have q := R1 r (by omega)
      exact ⟨q.1, q.2.1, q.2.2.1, hfirst r (by omega)⟩
    · rw [x2 2 (by decide) (by decide), x2 3 (by decide) (by decide)]
      exact R2 r (by omega)
    · rw [x2 2 (by decide) (by decide)]
      exact R3 (by omega)
    · have l0 : l = 0 := by omega
      have q := R3 (by omega)
      rw [l0] at hf
      rw [x5]; omega
    · rw [x2 2 (by decide) (by decide), x2 3 (by decide) (by decide), x5]
      have q := R2 r (by omega)
      have : r + 1 = l := by omega
      rw [this] at q
      omega
    · rw [x2 5 (by decide) (by decide), x2 2 (by decide) (by decide), x2 3 (by decide) (by decide), x4]
      have q := hO o (by omega)
      exact ⟨q.1, hlast o (by omega), q.2.2⟩
    · rw [x2 4 (by decide) (by decide), x2 3 (by decide) (by decide)]
      exact hC r (by omega)
    · rw [x2 4 (by decide) (by decide), x2 5 (by decide) (by decide), x2 10 (by decide) (by decide), x2 2 (by decide) (by decide), x2 6 (by decide) (by decide), x2 7 (by decide) (by decide), x2 8 (by decide) (by decide), x2 9 (by decide) (by decide)]
      exact hDD o (by omega)
    · rw [x2 6 (by decide) (by decide), x2 7 (by decide) (by decide), x2 8 (by decide) (by decide), x2 9 (by decide) (by decide), x3]
      exact hV o (by omega)
    · unfold WfL
      rw [x2 12 (by decide) (by decide), x2 14 (by decide) (by decide)]
      exact hL
    · rw [y2 1 (by decide), y2 2 (by decide), y2 3 (by decide), y2 4 (by decide), x2 2 (by decide) (by decide), x2 4 (by decide) (by decide)]
      exact d3 r (by omega)
    · rw [y2 2 (by decide), show nR D = l by unfold nR; omega, x5, ← hf]
      exact (d3 l (by omega)).1
    · rw [y2 5 (by decide), y2 6 (by decide), y2 7 (by decide), y2 8 (by decide), y2 9 (by decide), y3, y2 1 (by decide), x2 5 (by decide) (by decide), x2 6 (by decide) (by decide), x2 7 (by decide) (by decide), x2 8 (by decide) (by decide), x2 9 (by decide) (by decide), x2 10 (by decide) (by decide), x3]
      exact dro o (by omega)
    · unfold DRl
      rw [y7 16 (by decide) (by decide) (by decide), y7 17 (by decide) (by decide) (by decide), y7 18 (by decide) (by decide) (by decide), y7 19 (by decide) (by decide) (by decide), y7 20 (by decide) (by decide) (by decide), y7 14 (by decide) (by decide) (by decide), y7 15 (by decide) (by decide) (by decide), y2 12 (by decide), x2 12 (by decide) (by decide), x2 14 (by decide) (by decide)]
      exact drl
    · rw [y2 4 (by decide), x2 4 (by decide) (by decide), x2 3 (by decide) (by decide), x2 2 (by decide) (by decide), x2 6 (by decide) (by decide)]
      exact hk r (by omega)
    · rw [x2 4 (by decide) (by decide), x2 3 (by decide) (by decide)]
      exact hF r (by omega)
    · rw [x2 24 (by decide) (by decide), y7 39 (by decide) (by decide) (by decide)]
      exact hI.2.2

/-- other rules, other letters -/
theorem Inv.rule {MC MM D M : Mem} (h : Inv MC MM) (x : ∀ p, p ≠ 0 → p ≠ 12 → p ≠ 14 → D.1 p = MC.1 p) (x0 : D.2 = MC.2) (x6 : D.1 0 7 = 0) (y : ∀ p, p ≠ 0 → p ≠ 12 → M.1 p = MM.1 p) (y0 : M.2 = MM.2) (yb : M.1 0 12 = MM.1 0 12 ∧ M.1 0 13 = MM.1 0 13 ∧ M.1 0 39 = MM.1 0 39) (y6 : M.1 0 21 = 0) (hL : WfL D) (hl : DRl D M) : Inv D M := by
  obtain ⟨⟨⟨w1, w2, w3, w4, w5, w6, w7⟩, ⟨d1, d2, d3⟩, hk, hF⟩, _, ht⟩ := h
  refine ⟨⟨⟨?_, ?_, ?_, ?_, ?_, ?_, hL⟩, ⟨?_, ?_, hl⟩, ?_, ?_⟩, Or.inl ⟨x6, y6⟩, ?_⟩
  · unfold WfB; rw [x 1 (by decide) (by decide) (by decide)]; exact w1
  · unfold WfR; rw [x 1 (by decide) (by decide) (by decide), x 2 (by decide) (by decide) (by decide), x 3 (by decide) (by decide) (by decide)]; exact w2
  · unfold WfO; rw [x 1 (by decide) (by decide) (by decide), x 2 (by decide) (by decide) (by decide), x 3 (by decide) (by decide) (by decide), x 5 (by decide) (by decide) (by decide)]; exact w3
  · unfold WfC; rw [x 1 (by decide) (by decide) (by decide), x 3 (by decide) (by decide) (by decide), x 4 (by decide) (by decide) (by decide)]; exact w4
  · unfold WfD; rw [x 1 (by decide) (by decide) (by decide), x 2 (by decide) (by decide) (by decide), x 4 (by decide) (by decide) (by decide), x 5 (by decide) (by decide) (by decide), x 6 (by decide) (by decide) (by decide), x 7 (by decide) (by decide) (by decide), x 8 (by decide) (by decide) (by decide), x 9 (by decide) (by decide) (by decide), x 10 (by decide) (by decide) (by decide)]; exact w5
  · unfold WfV; rw [x 1 (by decide) (by decide) (by decide), x 6 (by decide) (by decide) (by decide), x 7 (by decide) (by decide) (by decide), x 8 (by decide) (by decide) (by decide), x 9 (by decide) (by decide) (by decide), x0]; exact w6
  · unfold DRb nR; rw [x 1 (by decide) (by decide) (by decide), x 2 (by decide) (by decide) (by decide), x 4 (by decide) (by decide) (by decide), yb.1, yb.2.1, y 1 (by decide) (by decide), y 2 (by decide) (by decide), y 3 (by decide) (by decide), y 4 (by decide) (by decide)]; exact d1
  · unfold DRo; rw [x 1 (by decide) (by decide) (by decide), x 5 (by decide) (by decide) (by decide), x 6 (by decide) (by decide) (by decide), x 7 (by decide) (by decide) (by decide), x 8 (by decide) (by decide) (by decide), x 9 (by decide) (by decide) (by decide), x 10 (by decide) (by decide) (by decide), x0, y 1 (by decide) (by decide), y 5 (by decide) (by decide), y 6 (by decide) (by decide), y 7 (by decide) (by decide), y 8 (by decide) (by decide), y 9 (by decide) (by decide), y0]; exact d2
  · unfold DRk; rw [x 1 (by decide) (by decide) (by decide), x 2 (by decide) (by decide) (by decide), x 3 (by decide) (by decide) (by decide), x 4 (by decide) (by decide) (by decide), x 6 (by decide) (by decide) (by decide), y 4 (by decide) (by decide)]; exact hk
  · unfold Full; rw [x 1 (by decide) (by decide) (by decide), x 3 (by decide) (by decide) (by decide), x 4 (by decide) (by decide) (by decide)]; exact hF
  · rw [x 24 (by decide) (by decide) (by decide), yb.2.2]; exact ht
theorem p_laws {g mo fa li ro : Int} (g1 : -2147483648 ≤ g) (g2 : g < 2147483648) (mo1 : -2147483648 ≤ mo) (mo2 : mo < 2147483648) (fa1 : -2147483648 ≤ fa) (fa2 : fa < 2147483648) (li1 : -2147483648 ≤ li) (li2 : li < 2147483648) (ro1 : -2147483648 ≤ ro) (ro2 : ro < 2147483648) : Pair mX9_laws mX10_laws [vi g, vi mo, vi fa, vi li, vi ro] := by
  intro MC MM hI
  have hCC := w_X9_laws (d := 21) (M := MC) g1 g2 mo1 mo2 fa1 fa2 li1 li2 ro1 ro2
  have hMM := w_X10_laws (d := 24) (M := MM) g1 g2 mo1 mo2 fa1 fa2 li1 li2 ro1 ro2
  by_cases hok : lawsOK g mo fa li ro
  · rw [if_pos hok] at hCC hMM
    refine pair_ret hCC hMM ?_
    obtain ⟨z1, z2, z3⟩ := hI.1.1.2.2.2.2.2.2
    obtain ⟨l1, l2, l3, l4, l5, l6, l7, l8⟩ := hI.1.2.1.2.2
    refine hI.rule (fun p h0 h1 h2 => ?_) rfl ?_ (fun p h0 h1 => ?_) rfl ⟨?_, ?_, ?_⟩ ?_ ⟨?_, ?_, ?_⟩ ⟨?_, ?_, ?_, ?_, ?_, ?_, ?_, ?_⟩
    · unfold closeM lawsM; rw [si_1 _ _ _ _ _ h0, si_1 _ _ _ _ _ h1, si_1 _ _ _ _ _ h1, si_1 _ _ _ _ _ h1, si_1 _ _ _ _ _ h1, si_1 _ _ _ _ _ h1]
    · unfold closeM; rw [sil, if_pos ⟨rfl, rfl⟩]
    · unfold mlawsM; rw [si_1 _ _ _ _ _ h0, si_1 _ _ _ _ _ h0, si_1 _ _ _ _ _ h0, si_1 _ _ _ _ _ h0, si_1 _ _ _ _ _ h0, si_1 _ _ _ _ _ h0]
    · simp [mlawsM, sil]
    · simp [mlawsM, sil]
    · simp [mlawsM, sil]
    · simp [mlawsM, sil]
    · simp only [closeM, lawsM, sil]; exact hok
    · simp only [closeM, lawsM, sil]; exact z2
    · intro j; unfold closeM lawsM; rw [si_1 _ _ _ _ _ (by decide), si_1 _ _ _ _ _ (by decide), si_1 _ _ _ _ _ (by decide), si_1 _ _ _ _ _ (by decide), si_1 _ _ _ _ _ (by decide), si_1 _ _ _ _ _ (by decide)]; exact z3 j
    · simp [mlawsM, closeM, lawsM, sil]
    · simp [mlawsM, closeM, lawsM, sil]
    · simp [mlawsM, closeM, lawsM, sil]
    · simp [mlawsM, closeM, lawsM, sil]
    · simp [mlawsM, closeM, lawsM, sil]
    · simp only [mlawsM, closeM, lawsM, sil]; exact l6
    · simp only [mlawsM, closeM, lawsM, sil]; exact l7
    · unfold closeM lawsM mlawsM; rw [si_1 _ _ _ _ 12 (by decide), si_1 _ _ _ _ 12 (by decide), si_1 _ _ _ _ 12 (by decide), si_1 _ _ _ _ 12 (by decide), si_1 _ _ _ _ 12 (by decide), si_1 _ _ _ _ 12 (by decide), si_1 _ _ _ _ 14 (by decide), si_1 _ _ _ _ 14 (by decide), si_1 _ _ _ _ 14 (by decide), si_1 _ _ _ _ 14 (by decide), si_1 _ _ _ _ 14 (by decide), si_1 _ _ _ _ 14 (by decide)]; exact l8
  · rw [if_neg hok] at hCC hMM
    exact pair_ret hCC hMM hI
theorem p_budget {c p : Int} (c1 : -2147483648 ≤ c) (c2 : c < 2147483648) (p1 : -2147483648 ≤ p) (p2 : p < 2147483648) : Pair mX9_budget mX10_budget [vi c, vi p] := by
  intro MC MM hI
  have hCC := w_X9_budget (d := 21) (M := MC) c1 c2 p1 p2
  have hMM := w_X10_budget (d := 24) (M := MM) c1 c2 p1 p2
  by_cases hok : budgetOK c p
  · rw [if_pos hok] at hCC hMM
    refine pair_ret hCC hMM ?_
    obtain ⟨z1, z2, z3⟩ := hI.1.1.2.2.2.2.2.2
    obtain ⟨l1, l2, l3, l4, l5, l6, l7, l8⟩ := hI.1.2.1.2.2
    refine hI.rule (fun p h0 h1 h2 => ?_) rfl ?_ (fun p h0 h1 => ?_) rfl ⟨?_, ?_, ?_⟩ ?_ ⟨?_, ?_, ?_⟩ ⟨?_, ?_, ?_, ?_, ?_, ?_, ?_, ?_⟩
    · unfold closeM budgetM; rw [si_1 _ _ _ _ _ h0, si_1 _ _ _ _ _ h1, si_1 _ _ _ _ _ h1]
    · unfold closeM; rw [sil, if_pos ⟨rfl, rfl⟩]
    · unfold mbudgetM; rw [si_1 _ _ _ _ _ h0, si_1 _ _ _ _ _ h0, si_1 _ _ _ _ _ h0]
    · simp [mbudgetM, sil]
    · simp [mbudgetM, sil]
    · simp [mbudgetM, sil]
    · simp [mbudgetM, sil]
    · simp only [closeM, budgetM, sil]; exact z1
    · simp only [closeM, budgetM, sil]; exact hok
    · intro j; unfold closeM budgetM; rw [si_1 _ _ _ _ _ (by decide), si_1 _ _ _ _ _ (by decide), si_1 _ _ _ _ _ (by decide)]; exact z3 j
    · simp only [mbudgetM, closeM, budgetM, sil]; exact l1
    · simp only [mbudgetM, closeM, budgetM, sil]; exact l2
    · simp only [mbudgetM, closeM, budgetM, sil]; exact l3
    · simp only [mbudgetM, closeM, budgetM, sil]; exact l4
    · simp only [mbudgetM, closeM, budgetM, sil]; exact l5
    · simp [mbudgetM, closeM, budgetM, sil]
    · simp [mbudgetM, closeM, budgetM, sil]
    · unfold closeM budgetM mbudgetM; rw [si_1 _ _ _ _ 12 (by decide), si_1 _ _ _ _ 12 (by decide), si_1 _ _ _ _ 12 (by decide), si_1 _ _ _ _ 14 (by decide), si_1 _ _ _ _ 14 (by decide), si_1 _ _ _ _ 14 (by decide)]; exact l8
  · rw [if_neg hok] at hCC hMM
    exact pair_ret hCC hMM hI
theorem p_sound {a b z : Int} (hz : z = 0 ∨ z = 1) (a1 : -2147483648 ≤ a) (a2 : a < 2147483648) (b1 : -2147483648 ≤ b) (b2 : b < 2147483648) : Pair mX9_sound mX10_sound [vi a, vi b, vi z] := by
  intro MC MM hI
  have hCC := w_X9_sound (d := 21) (M := MC) hz a1 a2 b1 b2
  have hMM := w_X10_sound (d := 24) (M := MM) hz a1 a2 b1 b2
  by_cases hok : soundOK a b z
  · rw [if_pos hok] at hCC hMM
    refine pair_ret hCC hMM ?_
    obtain ⟨z1, z2, z3⟩ := hI.1.1.2.2.2.2.2.2
    obtain ⟨l1, l2, l3, l4, l5, l6, l7, l8⟩ := hI.1.2.1.2.2
    refine hI.rule (fun p h0 h1 h2 => ?_) rfl ?_ (fun p h0 h1 => ?_) rfl ⟨?_, ?_, ?_⟩ ?_ ⟨?_, ?_, ?_⟩ ⟨?_, ?_, ?_, ?_, ?_, ?_, ?_, ?_⟩
    · unfold closeM alikeM; rw [si_1 _ _ _ _ _ h0, si_1 _ _ _ _ _ h2, si_1 _ _ _ _ _ h2]
    · unfold closeM; rw [sil, if_pos ⟨rfl, rfl⟩]
    · unfold msoundM; rw [si_1 _ _ _ _ _ h0, si_1 _ _ _ _ _ h1, si_1 _ _ _ _ _ h1]
    · simp [msoundM, sil]
    · simp [msoundM, sil]
    · simp [msoundM, sil]
    · simp [msoundM, sil]
    · simp only [closeM, alikeM, sil]; exact z1
    · simp only [closeM, alikeM, sil]; exact z2
    · intro j; unfold closeM alikeM; rw [si_1 _ _ _ _ _ (by decide), sil, sil]
      split
      · exact hz
      · split
        · exact hz
        · exact z3 j
    · simp only [msoundM, closeM, alikeM, sil]; exact l1
    · simp only [msoundM, closeM, alikeM, sil]; exact l2
    · simp only [msoundM, closeM, alikeM, sil]; exact l3
    · simp only [msoundM, closeM, alikeM, sil]; exact l4
    · simp only [msoundM, closeM, alikeM, sil]; exact l5
    · simp only [msoundM, closeM, alikeM, sil]; exact l6
    · simp only [msoundM, closeM, alikeM, sil]; exact l7
    · obtain ⟨⟨o1, o2⟩, ⟨o3, o4⟩, o5⟩ := hok
      intro c e hc he
      obtain ⟨k1, k2⟩ := l8 c e hc he
      unfold closeM alikeM msoundM
      rw [si_1 _ _ _ _ 12 (by decide), si_1 _ _ _ _ 14 (by decide)]
      have i1 : (26 * c + e = (26 * b + a).toNat) ↔ ((c : Int) = b ∧ (e : Int) = a) := by omega
      have i2 : (26 * c + e = (26 * a + b).toNat) ↔ ((c : Int) = a ∧ (e : Int) = b) := by omega
      have i3 : (32 * c + e = (b * 32 + a).toNat) ↔ ((c : Int) = b ∧ (e : Int) = a) := by omega
      have i4 : (32 * c + e = (a * 32 + b).toNat) ↔ ((c : Int) = a ∧ (e : Int) = b) := by omega
      simp only [sil, true_and, i1, i2, i3, i4]
      by_cases q1 : (c : Int) = b ∧ (e : Int) = a
      · rw [if_pos q1, if_pos q1]
        refine ⟨hz, ?_⟩
        constructor
        · exact fun w => Or.inr w
        · rintro (w | w)
          · rcases o5 with o5 | o5
            · exact o5
            · omega
          · exact w
      · rw [if_neg q1, if_neg q1]
        by_cases q2 : (c : Int) = a ∧ (e : Int) = b
        · rw [if_pos q2, if_pos q2]
          refine ⟨hz, ?_⟩
          constructor
          · exact fun w => Or.inr w
          · rintro (w | w)
            · rcases o5 with o5 | o5
              · exact o5
              · omega
            · exact w
        · rw [if_neg q2, if_neg q2]
          exact ⟨k1, k2⟩
  · rw [if_neg hok] at hCC hMM
    exact pair_ret hCC hMM hI

