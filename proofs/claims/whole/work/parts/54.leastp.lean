/-! MODULE 50: least sets, as the reference counts them (pure). -/
theorem scan_none {f : Nat → Option Int} : ∀ (n k : Nat), (∀ j, k ≤ j → j < k + n → f j = none) → scanP f n k = none
  | 0, _, _ => rfl
  | n + 1, k, h => by
    rw [scan_next (h k (Nat.le_refl _) (by omega))]
    exact scan_none n (k + 1) (fun j h1 h2 => h j (by omega) (by omega))
theorem scan_app {f : Nat → Option Int} : ∀ (n m k : Nat), scanP f (n + m) k = match scanP f n k with | some z => some z | none => scanP f m (k + n)
  | 0, m, k => by rw [Nat.zero_add]; rfl
  | n + 1, m, k => by
    rw [show n + 1 + m = (n + m) + 1 by omega]
    cases h : f k with
    | some z => rw [scan_out h, scan_out h]
    | none =>
      rw [scan_next h, scan_next h, scan_app n m (k + 1), show k + 1 + n = k + (n + 1) by omega]
theorem pop8_0 {s : Nat} (hs : s < 256) : pop8 s = 0 ↔ s = 0 := by
  have : ∀ x : Fin 256, pop8 x.val = 0 ↔ x.val = 0 := by decide +kernel
  exact this ⟨s, hs⟩
theorem pop8_all {n s : Nat} (hn : n ≤ 8) (hs : s < 2 ^ n) : pop8 s ≤ n ∧ (pop8 s = n ↔ s = 2 ^ n - 1) := by
  have : ∀ x : Fin 9, ∀ y : Fin 256, y.val < 2 ^ x.val → pop8 y.val ≤ x.val ∧ (pop8 y.val = x.val ↔ y.val = 2 ^ x.val - 1) := by decide +kernel
  have h8 : 2 ^ n ≤ 2 ^ 8 := Nat.pow_le_pow_right (by decide) hn
  exact this ⟨n, by omega⟩ ⟨s, by omega⟩ hs
/-- the reference's least: sizes from none on, sets from the empty one on -/
def leastR (f : Nat → Nat → Option Int) (D : Mem) : Int := (scanP (fun n => scanP (f n) (2 ^ nR D) 0) (nR D + 1) 0).getD (-1)
theorem nR_8 {D : Mem} (hw : Wf D) : nR D ≤ 8 := by
  have := hw.1.2.1
  have := hw.1.1
  unfold nR; omega
theorem leastR_eq {D : Mem} (hw : Wf D) (h0 : 0 < nR D) {f : Nat → Nat → Option Int} (hp : ∀ n s, s < 256 → pop8 s ≠ n → f n s = none) (he : f 0 0 = none) (ha : f (nR D) (allS D) = some (allS D : Int)) : leastR f D = (scanP (fun n => scanP (f n) (allS D - 1) 1) (nR D - 1) 1).getD (allS D) := by
  have h8 := nR_8 hw
  have hall : allS D + 1 = 2 ^ nR D := by
    unfold allS
    have := Nat.one_le_two_pow (n := nR D)
    omega
  have hlt : allS D < 256 := allS_lt hw.1.2.1
  have hpos : 1 ≤ allS D := by
    have : 2 ^ 1 ≤ 2 ^ nR D := Nat.pow_le_pow_right (by decide) h0
    omega
  have hmid : ∀ n, 0 < n → n < nR D → scanP (f n) (2 ^ nR D) 0 = scanP (f n) (allS D - 1) 1 := by
    intro n h1 h2
    rw [show 2 ^ nR D = (allS D - 1 + 1) + 1 by omega, scan_next (hp n 0 (by omega) (by rw [(pop8_0 (by omega)).mpr rfl]; omega)), scan_app]
    have hl : scanP (f n) 1 (0 + 1 + (allS D - 1)) = none := by
      refine scan_none 1 _ (fun j j1 j2 => ?_)
      have : j = allS D := by omega
      subst this
      refine hp n _ hlt ?_
      rw [show pop8 (allS D) = nR D from ((pop8_all h8 (by omega)).2).mpr rfl]; omega
    rw [hl]
    cases scanP (f n) (allS D - 1) (0 + 1) <;> rfl
  have hz : scanP (f 0) (2 ^ nR D) 0 = none := by
    refine scan_none _ _ (fun j j1 j2 => ?_)
    by_cases hj : j = 0
    · subst hj; exact he
    · exact hp 0 j (by omega) (fun z => hj ((pop8_0 (by omega)).mp z))
  have hlast : scanP (f (nR D)) (2 ^ nR D) 0 = some (allS D : Int) := by
    rw [← hall, scan_app, scan_none (f := f (nR D)) (allS D) 0 (fun j j1 j2 => hp _ j (by omega) (fun z => by have := ((pop8_all h8 (s := j) (by omega)).2).mp z; unfold allS at j2; omega))]
    show scanP (f (nR D)) 1 (0 + allS D) = _
    rw [Nat.zero_add]
    exact scan_out ha
  unfold leastR
  rw [scan_next (f := fun n => scanP (f n) (2 ^ nR D) 0) hz, show nR D = (nR D - 1) + 1 by omega]
  rw [show nR D - 1 + 1 = nR D by omega]
  have hsc : ∀ m k, 0 < k → k + m = nR D → scanP (fun n => scanP (f n) (2 ^ nR D) 0) (m + 1) k = match scanP (fun n => scanP (f n) (allS D - 1) 1) m k with | some z => some z | none => some (allS D : Int) := by
    intro m
    induction m with
    | zero =>
      intro k h1 h2
      have hk : k = nR D := by omega
      subst hk
      exact scan_out (f := fun n => scanP (f n) (2 ^ nR D) 0) hlast
    | succ m ih =>
      intro k h1 h2
      have e := hmid k h1 (by omega)
      cases hc : scanP (f k) (allS D - 1) 1 with
      | some z => rw [scan_out (f := fun n => scanP (f n) (2 ^ nR D) 0) (e.trans hc), scan_out (f := fun n => scanP (f n) (allS D - 1) 1) hc]
      | none => rw [scan_next (f := fun n => scanP (f n) (2 ^ nR D) 0) (e.trans hc), scan_next (f := fun n => scanP (f n) (allS D - 1) 1) hc]; exact ih (k + 1) (by omega) (by omega)
  have := hsc (nR D - 1) 1 (by decide) (by omega)
  rw [show nR D - 1 + 1 = nR D by omega] at this
  rw [show (0 : Nat) + 1 = 1 from rfl, this]
  cases scanP (fun n => scanP (f n) (allS D - 1) 1) (nR D - 1) 1 <;> rfl
theorem ordOf_0 (D : Mem) : ordOf D 0 = [] := by
  unfold ordOf
  refine List.filter_eq_nil_iff.mpr (fun o _ => ?_)
  rw [Nat.zero_testBit]; decide
theorem seekP_nil (D : Mem) : (seekP D []).2.2 = false ∧ (seekP D []).2.1.length = 1 ∧ (seekP D []).1 = 0 := ⟨rfl, rfl, rfl⟩
theorem stP_0 (D : Mem) : stP (seekP D (ordOf D 0)) = 2 := by rw [ordOf_0]; rfl
theorem nR_pos {D : Mem} (h : (RR D).2.1.length = 0) : 0 < nR D := by
  refine Classical.byContradiction (fun hn => ?_)
  have h0 : nR D = 0 := by omega
  have : allS D = 0 := by unfold allS; rw [h0]
  unfold RR at h
  rw [this, ordOf_0] at h
  exact absurd h (by rw [(seekP_nil D).2.1]; decide)
theorem leastR_q {D : Mem} (hw : Wf D) (h1 : (RR D).2.2 = false) (h2 : (RR D).2.1.length = 0) : leastR (qStep D) D = quarrelC D := by
  have h8 := nR_8 hw
  refine leastR_eq hw (nR_pos h2) (fun n s hs hp => ?_) ?_ ?_
  · unfold qStep; rw [if_neg (fun z => hp z.1)]
  · unfold qStep
    split
    · rw [stP_0]; rfl
    · rfl
  · unfold qStep
    have hst : stP (seekP D (ordOf D (allS D))) = 1 := by
      show stP (RR D) = 1
      unfold stP
      rw [h1, if_neg (by decide), if_pos h2]
    have hl : allS D < 2 ^ nR D := by
      unfold allS
      have := Nat.one_le_two_pow (n := nR D)
      omega
    rw [if_pos (show lookP D (allS D) (nR D) 0 from ⟨((pop8_all h8 hl).2).mpr rfl, Nat.and_zero _, closed_all hw⟩), hst, if_pos rfl]
theorem need_iff {s x y : Nat} : s &&& (2 ^ x ||| 2 ^ y) = 2 ^ x ||| 2 ^ y ↔ s.testBit x = true ∧ s.testBit y = true := by
  refine ⟨need_bits, fun h => tb_ext (fun q => ?_)⟩
  rw [Nat.testBit_and, Bool.and_eq_true, tb_or, tb_pow, tb_pow]
  constructor
  · exact fun z => z.2
  · rintro (rfl | rfl)
    · exact ⟨h.1, Or.inl rfl⟩
    · exact ⟨h.2, Or.inr rfl⟩
theorem leastR_p {D : Mem} (hw : Wf D) {a c : Nat} (ha : (a : Int) < D.1 1 11) (hc : (c : Int) < D.1 1 11) (hh : haveP D) (hj : allJ D a c) : leastR (pStep D a c) D = proofC D a c := by
  have h8 := nR_8 hw
  have hoa := ordAll hw ha
  have hoc := ordAll hw hc
  have hro : 0 < nR D := by
    have := hw.2.2.1 a ha
    unfold nR; omega
  refine leastR_eq hw hro (fun n s hs hp => ?_) ?_ ?_
  · unfold pStep; rw [if_neg (fun z => hp z.1)]
  · unfold pStep
    rw [if_neg (fun z => ?_)]
    have := (need_iff.mp z.2.1).1
    rw [Nat.zero_testBit] at this; cases this
  · unfold pStep
    have hst : stP (seekP D (ordOf D (allS D))) = 2 := by
      show stP (RR D) = 2
      unfold stP
      rw [hh.1, if_neg (by decide), if_neg (by have := hh.2; omega)]
    have hl : allS D < 2 ^ nR D := by
      unfold allS
      have := Nat.one_le_two_pow (n := nR D)
      omega
    have hjj : joinsP D (allS D) a c := hj
    rw [if_pos (show lookP D (allS D) (nR D) _ from ⟨((pop8_all h8 hl).2).mpr rfl, need_iff.mpr ⟨(mem_ordOf.mp hoa).2, (mem_ordOf.mp hoc).2⟩, closed_all hw⟩), hst, if_neg (by decide), if_pos ⟨rfl, @decide_eq_true _ (Classical.propDecidable _) hjj⟩]
theorem lk_per {A : Nat} : ∀ (a : Asg) (v : Int), (a.map (fun x => x.1)).Nodup → lk A a v = if A ∈ a.map (fun x => x.1) then ((per a A : Nat) : Int) else v
  | [], v, _ => rfl
  | x :: r, v, h => by
    obtain ⟨h1, h2⟩ := List.nodup_cons.mp (show (x.1 :: r.map (fun x => x.1)).Nodup from h)
    show lk A r (if (x.1 : Int) = A then x.2 else v) = _
    rw [lk_per r _ h2]
    show _ = if A ∈ x.1 :: r.map (fun x => x.1) then (((if x.1 = A then x.2 else per r A) : Nat) : Int) else v
    by_cases e : x.1 = A
    · subst e
      rw [if_neg h1, if_pos rfl, if_pos List.mem_cons_self, if_pos rfl]
    · rw [if_neg (show ¬ (x.1 : Int) = A by omega)]
      by_cases hm : A ∈ r.map (fun x => x.1)
      · rw [if_pos hm, if_pos (List.mem_cons_of_mem _ hm), if_neg e]
      · rw [if_neg hm, if_neg (fun z => by
          rcases List.mem_cons.mp z with z | z
          · exact e z.symm
          · exact hm z)]
theorem lkd_per {a : Asg} {A B : Nat} (hn : (a.map (fun x => x.1)).Nodup) (hA : A ∈ a.map (fun x => x.1)) (hB : B ∈ a.map (fun x => x.1)) : lkd a A B ↔ per a A = per a B := by
  unfold lkd
  rw [lk_per a _ hn, lk_per a _ hn, if_pos hA, if_pos hB]
  omega
/-- the same, and the ways kept from before stay -/
def SK2 (M0 : Mem) (A B : Int) (M : Mem) (R : Res) : Prop := SK1 A B M R ∧ M.1 19 = M0.1 19 ∧ M.1 20 = M0.1 20
theorem sink2 {D : Mem} (hw : Wf D) {ord : List Nat} (hO : OrdOK D ord) {A B : Int} (M0 : Mem) (hA1 : -1 ≤ A ∧ A < 14) (hB1 : -1 ≤ B ∧ B < 14) : SinkOK 1 ord (SK2 M0 A B) := by
  obtain ⟨s1, s2, s3, s4, s5⟩ := sink1 hw hO hA1 hB1
  refine ⟨fun M R h => s1 M R h.1, fun M M1 R h h0 h1 h2 => ⟨s2 M M1 R h.1 h0 h1 h2, by rw [h1]; exact h.2.1, by rw [h2]; exact h.2.2⟩, fun M R h hl => ⟨s3 M R h.1 hl, ?_, ?_⟩, fun M R h => ⟨s4 M R h.1, ?_, ?_⟩, fun d M R a c h hlt hrow hao hax hm hca hc0 hc1 => ?_⟩
  · rw [si_1 _ _ _ _ _ (by decide)]; exact h.2.1
  · rw [si_1 _ _ _ _ _ (by decide)]; exact h.2.2
  · rw [si_1 _ _ _ _ _ (by decide)]; exact h.2.1
  · rw [si_1 _ _ _ _ _ (by decide)]; exact h.2.2
  · have hl := ord_len hw hO
    have hla : a.length = ord.length := by rw [← hao]; simp
    have hN := hw.1.2.2.2
    obtain ⟨⟨⟨h1, h2, h3, h4, h5⟩, h6, h7, h8, h9⟩, h10, h11⟩ := id h
    have hax2 : ∀ x ∈ a, x.1 < 14 ∧ x.2 < 15 := fun x hx => by
      refine ⟨?_, hax x hx⟩
      have hxo : x.1 ∈ ord := by rw [← hao]; exact List.mem_map.mpr ⟨x, hx, rfl⟩
      have := hO.1 _ hxo
      omega
    refine wp_mono ?_ (w_X10_comes1 (a := a) h6 h7 hA1 hB1 (by omega) hm hax2 hrow h8 (by omega))
    rintro v M' ⟨rfl, rfl⟩
    refine ⟨rfl, ⟨⟨⟨?_, ?_, h3, ?_, ?_⟩, ?_, ?_, ?_, ?_⟩, ?_, ?_⟩, (SFr.rf.si _ _ _).si _ _ _, (OldS.rf.si _ _ _).si _ _ _, ?_⟩
    · rw [sil, if_neg (by omega), sil, if_neg (by omega)]; exact h1
    · rw [sil, if_pos ⟨rfl, rfl⟩, h2]; simp
    · simp; omega
    · rw [sil, if_neg (by omega), sil, if_neg (by omega)]; exact h5
    · rw [sil, if_neg (by omega), sil, if_neg (by omega)]; exact h6
    · rw [sil, if_neg (by omega), sil, if_neg (by omega)]; exact h7
    · rw [sil, if_neg (by omega), sil, if_pos ⟨rfl, rfl⟩]; exact bi_01 _
    · rw [sil, if_neg (by omega), sil, if_pos ⟨rfl, rfl⟩]
      have e : (bi (M.1 0 34 = 1 ∧ lkd a A B) = 1) ↔ (M.1 0 34 = 1 ∧ lkd a A B) := by
        by_cases hz : M.1 0 34 = 1 ∧ lkd a A B
        · rw [bi_t hz]; exact ⟨fun _ => hz, fun _ => rfl⟩
        · rw [bi_f hz]; exact ⟨fun q => absurd q (by decide), fun q => absurd q hz⟩
      rw [e, h9]
      show _ ↔ ∀ w ∈ R.2.1 ++ [(a, c)], lkd w.1 A B
      constructor
      · rintro ⟨z1, z2⟩ w hw2
        rcases List.mem_append.mp hw2 with hw2 | hw2
        · exact z1 w hw2
        · rw [List.mem_singleton] at hw2
          rw [hw2]; exact z2
      · intro z
        exact ⟨fun w hw2 => z w (List.mem_append.mpr (Or.inl hw2)), z (a, c) (List.mem_append.mpr (Or.inr (List.mem_singleton.mpr rfl)))⟩
    · rw [si_1 _ _ _ _ _ (by decide), si_1 _ _ _ _ _ (by decide)]; exact h10
    · rw [si_1 _ _ _ _ _ (by decide), si_1 _ _ _ _ _ (by decide)]; exact h11
    · rw [si_1 _ _ _ _ _ (by decide), si_1 _ _ _ _ _ (by decide)]
