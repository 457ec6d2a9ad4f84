/-! MODULE 17: the search itself: place. -/
theorem mems_len (D : Mem) (q : Nat) : ∀ a : Asg, (mems D a q).length ≤ a.length
  | [] => Nat.le_refl _
  | x :: r => by
    have := mems_len D q r
    unfold mems
    split <;> simp <;> omega
theorem mems_in (D : Mem) (q : Nat) : ∀ (a : Asg) (p : Nat), p ∈ mems D a q → ∃ x ∈ a, x.1 = p ∧ x.2 = q ∧ D.1 10 p = -1
  | [], p, h => by cases h
  | x :: r, p, h => by
    unfold mems at h
    split at h
    · next hc =>
      rcases List.mem_cons.mp h with h | h
      · exact ⟨x, List.mem_cons_self, h.symm, hc.1, by rw [h]; exact hc.2⟩
      · obtain ⟨y, h1, h2⟩ := mems_in D q r p h
        exact ⟨y, List.mem_cons_of_mem _ h1, h2⟩
    · obtain ⟨y, h1, h2⟩ := mems_in D q r p h
      exact ⟨y, List.mem_cons_of_mem _ h1, h2⟩
theorem mems_none {D : Mem} {a : Asg} {q : Nat} (h : ∀ x ∈ a, x.2 < q) : mems D a q = [] := by
  cases hm : mems D a q with
  | nil => rfl
  | cons p r =>
    obtain ⟨x, h1, -, h2, -⟩ := mems_in D q a p (by rw [hm]; exact List.mem_cons_self)
    have := h x h1
    omega
theorem mems_snoc {D : Mem} {a : Asg} {o q q' : Nat} (hn : D.1 10 o = -1) : mems D (a ++ [(o, q)]) q' = if q' = q then mems D a q' ++ [o] else mems D a q' := by
  rw [mems_app]
  by_cases h : q' = q
  · subst h
    rw [if_pos rfl]
    simp [mems, hn]
  · rw [if_neg h]
    have : ¬ (q = q') := fun z => h z.symm
    simp [mems, this]
theorem mems_copy {D : Mem} {a : Asg} {o q q' : Nat} (hn : D.1 10 o ≠ -1) : mems D (a ++ [(o, q)]) q' = mems D a q' := by
  rw [mems_app]
  simp [mems, hn]
def JoinP (b : Nat) (D M M' : Mem) (a : Asg) (ppl q o : Nat) : Prop :=
  (∀ p, ¬ (b + 5 ≤ p ∧ p ≤ b + 17) → M'.1 p = M.1 p ∧ M'.2 p = M.2 p) ∧ M'.1 (b + 5) 13 = ((if q < ppl then ppl else ppl + 1 : Nat) : Int) ∧ (∀ q', q' < (if q < ppl then ppl else ppl + 1) → Per b D M' q' (mems D (a ++ [(o, q)]) q')) ∧
  (q < ppl → M'.1 (b + 13) o = M.1 (b + 6) q ∧ M'.1 (b + 14) o = M.1 (b + 7) q ∧ M'.1 (b + 15) o = M.1 (b + 8) q ∧ M'.1 (b + 16) o = M.1 (b + 9) q ∧ M'.1 (b + 17) o = M.1 (b + 10) q) ∧
  ∀ o' p, o' ≠ o → b + 13 ≤ p → p ≤ b + 17 → M'.1 p o' = M.1 p o'
theorem JoinP_old {b : Nat} {D M : Mem} {a : Asg} {ppl q o : Nat} (hn : D.1 10 o = -1) (hT : TabO D M o) (hq : q < ppl) (hc : M.1 (b + 5) 13 = ppl) (hP : ∀ q', q' < ppl → Per b D M q' (mems D a q')) (hl : a.length ≤ 13) : JoinP b D M (joinM b M q o (mems D a q).length) a ppl q o := by
  have hml := fun q' => mems_len D q' a
  refine ⟨fun p hp => ?_, ?_, fun q' hq' => ?_, fun _ => ?_, fun o' p ho' h1 h2 => ?_⟩
  · constructor
    · unfold joinM oldM
      rw [si_1 _ _ _ _ _ (by omega), si_1 _ _ _ _ _ (by omega), si_1 _ _ _ _ _ (by omega), si_1 _ _ _ _ _ (by omega), si_1 _ _ _ _ _ (by omega), si_1 _ _ _ _ _ (by omega), si_1 _ _ _ _ _ (by omega), si_1 _ _ _ _ _ (by omega), si_1 _ _ _ _ _ (by omega), si_1 _ _ _ _ _ (by omega), si_1 _ _ _ _ _ (by omega), si_1 _ _ _ _ _ (by omega)]
    · rfl
  · rw [if_pos hq, ← hc]
    simp [joinM, oldM, sil]
  · rw [if_pos hq] at hq'
    rw [mems_snoc hn]
    by_cases h : q' = q
    · subst h
      rw [if_pos rfl]
      exact Per_join hT (hP q' hq)
    · rw [if_neg h]
      exact Per_other_join h (by have := hml q'; omega) (by have := hml q; omega) (hP q' hq')
  · refine ⟨?_, ?_, ?_, ?_, ?_⟩ <;> simp [joinM, oldM, sil]
  · have h3 : p = b + 13 ∨ p = b + 14 ∨ p = b + 15 ∨ p = b + 16 ∨ p = b + 17 := by omega
    rcases h3 with rfl | rfl | rfl | rfl | rfl <;> simp [joinM, oldM, sil, ho']
theorem JoinP_new {b : Nat} {D M : Mem} {a : Asg} {ppl o : Nat} (hn : D.1 10 o = -1) (hT : TabO D M o) (hP : ∀ q', q' < ppl → Per b D M q' (mems D a q')) (hl : a.length ≤ 13) (ha : ∀ x ∈ a, x.2 < ppl) : JoinP b D M (newM b M ppl o) a ppl ppl o := by
  have hml := fun q' => mems_len D q' a
  refine ⟨fun p hp => ?_, ?_, fun q' hq' => ?_, fun h => absurd h (by omega), fun o' p ho' h1 h2 => ?_⟩
  · constructor
    · unfold newM
      rw [si_1 _ _ _ _ _ (by omega), si_1 _ _ _ _ _ (by omega), si_1 _ _ _ _ _ (by omega), si_1 _ _ _ _ _ (by omega), si_1 _ _ _ _ _ (by omega), si_1 _ _ _ _ _ (by omega), si_1 _ _ _ _ _ (by omega), si_1 _ _ _ _ _ (by omega)]
    · rfl
  · rw [if_neg (by omega)]
    simp [newM, sil]
  · rw [if_neg (by omega)] at hq'
    rw [mems_snoc hn]
    by_cases h : q' = ppl
    · subst h
      rw [if_pos rfl, mems_none ha]
      exact Per_new hT
    · rw [if_neg h]
      exact Per_other_new (by omega) (by have := hml q'; omega) (hP q' (by omega))
  · unfold newM
    rw [si_1 _ _ _ _ _ (by omega), si_1 _ _ _ _ _ (by omega), si_1 _ _ _ _ _ (by omega), si_1 _ _ _ _ _ (by omega), si_1 _ _ _ _ _ (by omega), si_1 _ _ _ _ _ (by omega), si_1 _ _ _ _ _ (by omega), si_1 _ _ _ _ _ (by omega)]
def SInv (b room : Nat) (D : Mem) (ord : List Nat) (a : Asg) (ppl : Nat) (c : Int) (M : Mem) (R : Res) : Prop :=
  Dat D M ∧ TabD D M ∧ Ord b M ord ∧ M.1 b 10 = c ∧ M.1 (b + 5) 13 = ppl ∧ (∀ q, q < ppl → Per b D M q (mems D a q)) ∧ (∀ x ∈ a, M.1 (b + 2) x.1 = x.2) ∧ RInv b room ord M R
def OldE (b : Nat) (a : Asg) (M M' : Mem) : Prop := ∀ x ∈ a, ∀ p, b + 13 ≤ p → p ≤ b + 17 → M'.1 p x.1 = M.1 p x.1
theorem OldE.tr {b : Nat} {a : Asg} {M M1 M2 : Mem} (h : OldE b a M M1) (h2 : OldE b a M1 M2) : OldE b a M M2 := fun x hx p h3 h4 => (h2 x hx p h3 h4).trans (h x hx p h3 h4)
theorem OldE.eq {b : Nat} {a : Asg} {M M1 : Mem} (h : ∀ p, b + 13 ≤ p → p ≤ b + 17 → M1.1 p = M.1 p) : OldE b a M M1 := fun x _ p h3 h4 => by rw [h p h3 h4]
theorem RInv.eq {b room : Nat} {ord : List Nat} {M M1 : Mem} {R : Res} (h : RInv b room ord M R) (e1 : M1.1 b 11 = M.1 b 11) (e2 : M1.1 b 12 = M.1 b 12) (e3 : M1.1 b 13 = M.1 b 13) (e4 : M1.1 (b + 3) = M.1 (b + 3)) (e5 : M1.2 (b + 18) = M.2 (b + 18)) (e6 : M1.1 (b + 19) = M.1 (b + 19)) : RInv b room ord M1 R := by
  unfold RInv at h ⊢
  rw [e1, e2, e3, e4, e5, e6]
  exact h
/-- a change of the seeker's own fields (but cost and count) leaves the search's state -/
theorem SInv.try {b room : Nat} {D : Mem} {ord : List Nat} {a : Asg} {ppl : Nat} {c : Int} {M : Mem} {R : Res} (hb : 24 ≤ b) (h : SInv b room D ord a ppl c M R) : SInv b room D ord a ppl c (tryM b M) (mayT R).2 ∧ Fr b (b + 20) M (tryM b M) ∧ OldE b a M (tryM b M) ∧ ((M.1 b 13 = 0 ∧ M.1 b 11 < 300000) ↔ (mayT R).1 = true) := by
  obtain ⟨h1, h2, h3, h4, h5, h6, h7, h8⟩ := h
  obtain ⟨r1, r2⟩ := h8.try
  have hp : ∀ p, p ≠ b → (tryM b M).1 p = M.1 p := fun p hp => by
    unfold tryM
    split
    · split <;> rw [si_1 _ _ _ _ _ hp]
    · rfl
  have hJ : (tryM b M).2 = M.2 := by
    unfold tryM
    split
    · split <;> rfl
    · rfl
  have h9 : ∀ k, k = 9 ∨ k = 10 → (tryM b M).1 b k = M.1 b k := fun k hk => by
    unfold tryM
    split
    · split <;> rw [sil, if_neg (by omega)]
    · rfl
  have hF : Fr b (b + 20) M (tryM b M) := fun p hp2 => ⟨hp p (by omega), by rw [hJ]⟩
  refine ⟨⟨h1.tr (hF.dat (by omega)), h2.fr hF hb, ⟨by rw [h9 9 (Or.inl rfl)]; exact h3.1, fun i hi => by rw [hp _ (by omega)]; exact h3.2 i hi⟩, by rw [h9 10 (Or.inr rfl)]; exact h4, by rw [hp _ (by omega)]; exact h5, fun q hq => Per_eq (fun p h1 h2 => hp p (by omega)) (h6 q hq), fun x hx => by rw [hp _ (by omega)]; exact h7 x hx, r1⟩, hF, OldE.eq (fun p h1 h2 => hp p (by omega)), r2⟩
theorem SInv.keep {b room : Nat} {D : Mem} {ord : List Nat} {a : Asg} {ppl : Nat} {c : Int} {M M' : Mem} {R R' : Res} (hb : 24 ≤ b) (h : SInv b room D ord a ppl c M R) (hK : KF b M M') (hR : RInv b room ord M' R') : SInv b room D ord a ppl c M' R' ∧ Fr b (b + 20) M M' ∧ OldE b a M M' := by
  obtain ⟨h1, h2, h3, h4, h5, h6, h7, h8⟩ := h
  obtain ⟨k1, k2, k3⟩ := hK
  have hF : Fr b (b + 20) M M' := fun p hp2 => k1 p (by omega)
  exact ⟨⟨h1.tr (hF.dat (by omega)), h2.fr hF hb, ⟨by rw [k2]; exact h3.1, fun i hi => by rw [(k1 _ (by omega)).1]; exact h3.2 i hi⟩, by rw [k3]; exact h4, by rw [(k1 _ (by omega)).1]; exact h5, fun q hq => Per_eq (fun p h1 h2 => (k1 p (by omega)).1) (h6 q hq), fun x hx => by rw [(k1 _ (by omega)).1]; exact h7 x hx, hR⟩, hF, OldE.eq (fun p h1 h2 => (k1 p (by omega)).1)⟩
/-- the way so far, and the row -/
def AInv (D : Mem) (ord : List Nat) (rem : List Nat) (a : Asg) (ppl : Nat) (c : Int) : Prop :=
  a.map (fun x => x.1) ++ rem = ord ∧ (∀ x ∈ a, x.2 < ppl) ∧ ppl ≤ a.length ∧ 0 ≤ c ∧ c ≤ D.1 12 5
theorem ord_len {D : Mem} (hw : Wf D) {ord : List Nat} (hO : OrdOK D ord) : ord.length ≤ 14 := by
  have h1 : ∀ o ∈ ord, o < 14 := fun o ho => by have := hO.1 o ho; have := hw.1; unfold WfB at this; omega
  have h2 : ord ⊆ List.range 14 := fun o ho => List.mem_range.mpr (h1 o ho)
  have := hO.nd.length_le_of_subset h2
  simpa using this

