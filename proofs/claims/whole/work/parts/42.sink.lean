/-! MODULE 38: how the reference keeps the ways it finds. -/
theorem rowI_get {M : Mem} : ∀ {a : Asg} {i : Nat}, RowI M i a → ∀ j, j < a.length → ∃ x ∈ a, M.1 15 (i + j) = x.1 ∧ M.1 16 (i + j) = x.2 ∧ (a.map (fun x => x.1)).getD j 0 = x.1
  | [], _, _, j, hj => absurd hj (by simp)
  | x :: r, i, h, 0, _ => ⟨x, List.mem_cons_self, h.1, h.2.1, rfl⟩
  | x :: r, i, h, j + 1, hj => by
    obtain ⟨y, h1, h2, h3, h4⟩ := rowI_get h.2.2 j (by simpa using hj)
    refine ⟨y, List.mem_cons_of_mem _ h1, ?_, ?_, h4⟩
    · rw [show i + (j + 1) = i + 1 + j by omega]; exact h2
    · rw [show i + (j + 1) = i + 1 + j by omega]; exact h3
theorem rowI_per {M : Mem} {a : Asg} (h : RowI M 0 a) (hn : (a.map (fun x => x.1)).Nodup) {j : Nat} (hj : j < a.length) : M.1 16 j = per a ((a.map (fun x => x.1)).getD j 0) := by
  obtain ⟨x, h1, h2, h3, h4⟩ := rowI_get h j hj
  rw [Nat.zero_add] at h3
  rw [h4, h3, per_in (q := x.2) h1 hn]
def SKb (M : Mem) (R : Res) : Prop := M.1 0 29 = R.1 ∧ M.1 0 30 = R.2.1.length ∧ R.1 ≤ 300000 ∧ R.2.1.length ≤ 3000 ∧ M.1 0 31 = (if R.2.2 = true then 1 else 0)
def SK0 (ord : List Nat) (M : Mem) (R : Res) : Prop := SKb M R ∧ ∀ i, i < R.2.1.length → (∀ j, j < ord.length → M.1 19 (14 * i + j) = per (R.2.1.getD i ([], 0)).1 (ord.getD j 0)) ∧ M.1 20 i = (R.2.1.getD i ([], 0)).2 ∧ ∀ x ∈ (R.2.1.getD i ([], 0)).1, x.2 < 15
theorem per_b {a : Asg} (h : ∀ x ∈ a, x.2 < 15) (r : Nat) : per a r < 15 := by
  induction a with
  | nil => show 0 < 15; omega
  | cons x l ih =>
    show (if x.1 = r then x.2 else per l r) < 15
    split
    · exact h x List.mem_cons_self
    · exact ih (fun y hy => h y (List.mem_cons_of_mem _ hy))
theorem SKb.eq {M M1 : Mem} {R : Res} (h : SKb M R) (h0 : M1.1 0 = M.1 0) : SKb M1 R := by
  unfold SKb at h ⊢
  rw [h0]; exact h
theorem SKb.try {M : Mem} {R : Res} (h : SKb M R) (hl : R.1 < 300000) : SKb (si M 0 29 (R.1 + 1)) (R.1 + 1, R.2.1, R.2.2) := by
  obtain ⟨h1, h2, h3, h4, h5⟩ := h
  refine ⟨by rw [sil, if_pos ⟨rfl, rfl⟩]; push_cast; rfl, by rw [sil, if_neg (by omega)]; exact h2, by show R.1 + 1 ≤ _; omega, h4, by rw [sil, if_neg (by omega)]; exact h5⟩
theorem SKb.spent {M : Mem} {R : Res} (h : SKb M R) : SKb (si M 0 31 1) (R.1, R.2.1, true) := by
  obtain ⟨h1, h2, h3, h4, h5⟩ := h
  refine ⟨by rw [sil, if_neg (by omega)]; exact h1, by rw [sil, if_neg (by omega)]; exact h2, h3, h4, by rw [sil, if_pos ⟨rfl, rfl⟩]; rfl⟩
theorem getD_snW {l : List (Asg × Int)} {x : Asg × Int} {i : Nat} : (l ++ [x]).getD i ([], 0) = if i < l.length then l.getD i ([], 0) else if i = l.length then x else ([], 0) := by
  rw [List.getD_eq_getElem?_getD, List.getD_eq_getElem?_getD]
  by_cases h : i < l.length
  · rw [if_pos h, List.getElem?_append_left h]
  · rw [if_neg h, List.getElem?_append_right (by omega)]
    by_cases h2 : i = l.length
    · subst h2; simp
    · rw [if_neg h2, List.getElem?_eq_none (by simp; omega)]; rfl
theorem sink0 {D : Mem} (hw : Wf D) {ord : List Nat} (hO : OrdOK D ord) : SinkOK 0 ord (SK0 ord) := by
  refine ⟨fun M R h => ⟨h.1.1, h.1.2.1, h.1.2.2.1, h.1.2.2.2.1⟩, fun M M1 R h h0 h1 h2 => ⟨h.1.eq h0, ?_⟩, fun M R h hl => ⟨h.1.try hl, fun i hi => ?_⟩, fun M R h => ⟨h.1.spent, fun i hi => ?_⟩, fun d M R a c h hlt hrow hao hax hm hca hc0 hc1 => ?_⟩
  · rw [h1, h2]; exact h.2
  · rw [si_1 _ _ _ _ _ (by decide), si_1 _ _ _ _ _ (by decide)]; exact h.2 i hi
  · rw [si_1 _ _ _ _ _ (by decide), si_1 _ _ _ _ _ (by decide)]; exact h.2 i hi
  · have hl := ord_len hw hO
    have hla : a.length = ord.length := by rw [← hao]; simp
    have hnd : (a.map (fun x => x.1)).Nodup := by rw [hao]; exact hO.nd
    obtain ⟨⟨h1, h2, h3, h4, h5⟩, h6⟩ := id h
    refine wp_mono ?_ (w_X10_comes0 (f := R.2.1.length) (n := a.length) h2 hlt hm (by omega) (fun j hj => ?_) (by omega))
    · rintro v M' ⟨rfl, M1, ⟨k1, k2, k3, k4⟩, rfl⟩
      have e0 : M1.1 0 = M.1 0 := k1 0 (by decide)
      refine ⟨rfl, ⟨⟨?_, ?_, h3, ?_, ?_⟩, fun i hi => ?_⟩, ⟨fun k z1 z2 z3 z4 => ?_, fun p z1 z2 z3 z4 z5 z6 => ?_⟩, ⟨fun j hj => ?_, fun j hj => ⟨?_, ?_⟩⟩, ?_⟩
      · rw [sil, if_neg (by omega), sil, if_neg (by omega), e0]; exact h1
      · rw [sil, if_pos ⟨rfl, rfl⟩]; simp
      · simp; omega
      · rw [sil, if_neg (by omega), sil, if_neg (by omega), e0]; exact h5
      · rw [si_1 _ _ _ _ _ (by decide), si_1 _ _ _ _ _ (by decide), si_1 _ _ _ _ _ (by decide)]
        show (∀ j, j < ord.length → M1.1 19 (14 * i + j) = per ((R.2.1 ++ [(a, c)]).getD i ([], 0)).1 (ord.getD j 0)) ∧ (si M1 20 R.2.1.length (M.1 17 a.length)).1 20 i = ((R.2.1 ++ [(a, c)]).getD i ([], 0)).2 ∧ ∀ x ∈ ((R.2.1 ++ [(a, c)]).getD i ([], 0)).1, x.2 < 15
        have hi : i < (R.2.1 ++ [(a, c)]).length := hi
        rw [getD_snW]
        rw [List.length_append, List.length_singleton] at hi
        by_cases hil : i < R.2.1.length
        · rw [if_pos hil]
          refine ⟨fun j hj => ?_, ?_, (h6 i hil).2.2⟩
          · rw [k4 _ (by omega)]; exact (h6 i hil).1 j hj
          · rw [sil, if_neg (by omega), k1 _ (by decide)]; exact (h6 i hil).2.1
        · obtain rfl : i = R.2.1.length := by omega
          rw [if_neg hil, if_pos rfl]
          refine ⟨fun j hj => ?_, ?_, hax⟩
          · rw [k3 j (by omega), rowI_per hrow hnd (by omega), hao]
          · rw [sil, if_pos ⟨rfl, rfl⟩, hca]
      · rw [sil, if_neg (by omega), sil, if_neg (by omega), e0]
      · rw [si_1 _ _ _ _ _ z1, si_1 _ _ _ _ _ z6]
        exact ⟨k1 p z5, congrFun k2 p⟩
      · rw [si_1 _ _ _ _ _ (by decide), si_1 _ _ _ _ _ (by decide), k1 _ (by decide)]
      · rw [si_1 _ _ _ _ _ (by decide), si_1 _ _ _ _ _ (by decide), k1 _ (by decide)]
      · rw [si_1 _ _ _ _ _ (by decide), si_1 _ _ _ _ _ (by decide), k1 _ (by decide)]
      · rw [si_1 _ _ _ _ _ (by decide), si_1 _ _ _ _ _ (by decide), k1 _ (by decide)]
    · obtain ⟨x, x1, x2, x3, x4⟩ := rowI_get hrow j hj
      rw [Nat.zero_add] at x3
      have := hax x x1
      omega

