/-! MODULE 46: every way found is good. -/
theorem mayT_l (R : Res) : (mayT R).2.2.1 = R.2.1 := by
  unfold mayT
  split
  · rfl
  · split <;> rfl
theorem placeP_ways {D : Mem} (hw : Wf D) {ord : List Nat} (hO : OrdOK D ord) {W : Asg × Int → Prop} (hW : ∀ a ppl c, a.map (fun x => x.1) = ord → Good D a ppl c → ppl ≤ a.length → W (a, c)) : ∀ (rem : List Nat) (a : Asg) (ppl : Nat) (c : Int) (R : Res), ord = a.map (fun x => x.1) ++ rem → Good D a ppl c → ppl ≤ a.length → (∀ w ∈ R.2.1, W w) → ∀ w ∈ (placeP D rem a ppl c R).2.1, W w := by
  intro rem
  induction rem with
  | nil =>
    intro a ppl c R hord hG hpl hR w hww
    have hk : placeP D [] a ppl c R = keepR a c R := rfl
    rw [hk] at hww
    unfold keepR at hww
    split at hww
    · exact hR w hww
    · rcases List.mem_append.mp hww with h | h
      · exact hR w h
      · rw [List.mem_singleton] at h
        rw [h]
        exact hW a ppl c (by rw [hord, List.append_nil]) hG hpl
  | cons o rem ih =>
    intro a ppl c R hord hG hpl hR
    have hoin : o ∈ ord := by rw [hord]; simp
    have ho := hO.1 o hoin
    have hno : o ∉ a.map (fun x => x.1) := fun z => by
      have hnd := hO.nd
      rw [hord, List.nodup_append] at hnd
      exact hnd.2.2 o z o List.mem_cons_self rfl
    have hord2 : ∀ q : Nat, ord = (a ++ [(o, q)]).map (fun x => x.1) ++ rem := fun q => by rw [hord]; simp
    by_cases hn : nC D o
    · rw [placeP_o hn]
      have loop : ∀ n q : Nat, q + n = ppl + 1 → ∀ R1 : Res, (∀ w ∈ R1.2.1, W w) → ∀ w ∈ (loopP (stepP D rem o a ppl c) n q R1).2.1, W w := by
        intro n
        induction n with
        | zero => intro q _ R1 h1; exact h1
        | succ n ihn =>
          intro q hq R1 h1
          rw [loopP_s]
          refine ihn (q + 1) (by omega) _ ?_
          unfold stepP
          split
          · split
            · next hf => exact ih _ _ _ _ (hord2 q) (good_o hw hG ho hn hno (by omega) hf.1 hf.2) (by rw [List.length_append, List.length_singleton]; split <;> omega) (by rw [mayT_l]; exact h1)
            · rw [mayT_l]; exact h1
          · rw [mayT_l]; exact h1
      exact loop (ppl + 1) 0 (by omega) R hR
    · rw [placeP_c hn]
      obtain ⟨u1, u2, u3, u4⟩ := hO.2.2 o hoin hn
      have hin : (D.1 10 o).toNat ∈ a.map (fun x => x.1) := by
        rw [hord] at u2
        rcases List.mem_append.mp u2 with u2 | u2
        · exact u2
        · exfalso
          have hpw := hO.2.1
          rw [hord, List.pairwise_append] at hpw
          rcases List.mem_cons.mp u2 with u2 | u2
          · omega
          · have := (List.pairwise_cons.mp hpw.2.1).1 _ u2
            omega
      obtain ⟨⟨y1, q⟩, hya, hy1⟩ := List.mem_map.mp hin
      have hy1 : y1 = (D.1 10 o).toNat := hy1
      have hper : per a (D.1 10 o).toNat = q := by rw [← hy1]; exact per_in hya hG.g2
      rw [hper]
      split
      · exact ih _ _ _ _ (hord2 q) (good_c hw hG ho hno hya (show (y1 : Int) = _ by omega) (show D.1 10 y1 = -1 by rw [hy1]; exact u4)) (by rw [List.length_append, List.length_singleton]; omega) (by rw [mayT_l]; exact hR)
      · rw [mayT_l]; exact hR
theorem seekP_ways {D : Mem} (hw : Wf D) {ord : List Nat} (hO : OrdOK D ord) : ∀ w ∈ (seekP D ord).2.1, w.1.map (fun x => x.1) = ord ∧ ∃ ppl, Good D w.1 ppl w.2 ∧ ppl ≤ w.1.length :=
  placeP_ways hw hO (W := fun w => w.1.map (fun x => x.1) = ord ∧ ∃ ppl, Good D w.1 ppl w.2 ∧ ppl ≤ w.1.length) (fun a ppl c h1 h2 h3 => ⟨h1, ppl, h2, h3⟩) ord [] 0 0 R0 rfl (good_0 D hw) (Nat.le_refl _) (fun w h => (by cases h))

