/-! MODULE 31: the two ways to ask whether a role can be a person's are one. -/
def mkN (r k s a b : Nat) : Nat := 2 ^ r ||| (if k = 0 then 256 else 0) ||| (if k = 5 then 512 else 0) ||| (if s = 1 then a else 0) ||| (if s = 2 then b else 0)
theorem mk_dec : ∀ (r k : Fin 8) (s : Fin 3), mkI ((r.val : Nat) : Int) ((k.val : Nat) : Int) ((s.val : Nat) : Int) 1024 2048 = ((mkN r.val k.val s.val 1024 2048 : Nat) : Int) ∧ mkI ((r.val : Nat) : Int) ((k.val : Nat) : Int) ((s.val : Nat) : Int) 2048 1024 = ((mkN r.val k.val s.val 2048 1024 : Nat) : Int) ∧ mkN r.val k.val s.val 1024 2048 < 4096 ∧ mkN r.val k.val s.val 2048 1024 < 4096 := by decide +kernel
theorem and_or_0 (x y z : Nat) : (x ||| y) &&& z = 0 ↔ x &&& z = 0 ∧ y &&& z = 0 := by
  rw [Nat.and_or_distrib_right]
  exact Nat.or_eq_zero_iff
theorem or4 (a x b y : Nat) : (a ||| x) &&& (b ||| y) = 0 ↔ a &&& b = 0 ∧ a &&& y = 0 ∧ x &&& b = 0 ∧ x &&& y = 0 := by
  rw [and_or_0, Nat.and_comm a (b ||| y), Nat.and_comm x (b ||| y), and_or_0, and_or_0, Nat.and_comm b a, Nat.and_comm y a, Nat.and_comm b x, Nat.and_comm y x, and_assoc]
theorem clash_k : ∀ (k k' : Fin 8) (s s' : Fin 3), ((if k.val = 0 then 256 else 0) ||| (if k.val = 5 then 512 else 0) ||| (if s.val = 1 then 1024 else 0) ||| (if s.val = 2 then 2048 else 0)) &&& ((if k'.val = 0 then 256 else 0) ||| (if k'.val = 5 then 512 else 0) ||| (if s'.val = 1 then 2048 else 0) ||| (if s'.val = 2 then 1024 else 0)) = 0 ↔ (¬ (k.val = 0 ∧ k'.val = 0) ∧ ¬ (k.val = 5 ∧ k'.val = 5) ∧ ¬ (s.val = 1 ∧ s'.val = 2) ∧ ¬ (s.val = 2 ∧ s'.val = 1)) := by decide +kernel
theorem clash_r : ∀ (r r' : Fin 8), 2 ^ r.val &&& 2 ^ r'.val = 0 ↔ r.val ≠ r'.val := by decide +kernel
theorem clash_x : ∀ (r k : Fin 8) (s : Fin 3), 2 ^ r.val &&& ((if k.val = 0 then 256 else 0) ||| (if k.val = 5 then 512 else 0) ||| (if s.val = 1 then 1024 else 0) ||| (if s.val = 2 then 2048 else 0)) = 0 ∧ 2 ^ r.val &&& ((if k.val = 0 then 256 else 0) ||| (if k.val = 5 then 512 else 0) ||| (if s.val = 1 then 2048 else 0) ||| (if s.val = 2 then 1024 else 0)) = 0 := by decide +kernel
theorem clash_all (r r' k k' : Fin 8) (s s' : Fin 3) : mkN r.val k.val s.val 1024 2048 &&& mkN r'.val k'.val s'.val 2048 1024 = 0 ↔ r.val ≠ r'.val ∧ ¬ (k.val = 0 ∧ k'.val = 0) ∧ ¬ (k.val = 5 ∧ k'.val = 5) ∧ ¬ (s.val = 1 ∧ s'.val = 2) ∧ ¬ (s.val = 2 ∧ s'.val = 1) := by
  have h1 := clash_k k k' s s'
  have h2 := clash_r r r'
  have h3 := (clash_x r k' s').2
  have h4 := (clash_x r' k s).1
  have e : ∀ (r k s a b : Nat), mkN r k s a b = 2 ^ r ||| ((if k = 0 then 256 else 0) ||| (if k = 5 then 512 else 0) ||| (if s = 1 then a else 0) ||| (if s = 2 then b else 0)) := fun r k s a b => by
    unfold mkN
    simp only [Nat.or_assoc]
  rw [e, e, or4, h2, h1, Nat.and_comm _ (2 ^ r'.val)]
  simp only [h3, h4, true_and]
def mN (D : Mem) (p : Nat) : Nat := mkN (D.1 5 p).toNat (D.1 6 p).toNat (D.1 8 p).toNat 1024 2048
def cN (D : Mem) (p : Nat) : Nat := mkN (D.1 5 p).toNat (D.1 6 p).toNat (D.1 8 p).toNat 2048 1024
theorem mN_eq {D : Mem} (hw : Wf D) {p : Nat} (hp : (p : Int) < D.1 1 11) : mF D p = mN D p ∧ cF D p = cN D p ∧ mN D p < 4096 ∧ cN D p < 4096 := by
  obtain ⟨v1, v2, v3, v4, v5, v6, v7, v8, v9⟩ := hw.2.2.2.2.2.1 p hp
  obtain ⟨b1, b2, b3, b4⟩ := hw.1
  obtain ⟨c1, c2, c3, c4⟩ := hw.2.2.1 p hp
  have h := mk_dec ⟨(D.1 5 p).toNat, by omega⟩ ⟨(D.1 6 p).toNat, by omega⟩ ⟨(D.1 8 p).toNat, by omega⟩
  simp only [Int.toNat_of_nonneg c1, Int.toNat_of_nonneg v1, Int.toNat_of_nonneg v5] at h
  exact h
theorem clash_iff {D : Mem} (hw : Wf D) {p o : Nat} (hp : (p : Int) < D.1 1 11) (ho : (o : Int) < D.1 1 11) : mN D p &&& cN D o = 0 ↔ D.1 5 p ≠ D.1 5 o ∧ ¬ (D.1 6 p = 0 ∧ D.1 6 o = 0) ∧ ¬ (D.1 6 p = 5 ∧ D.1 6 o = 5) ∧ ¬ (D.1 8 p = 1 ∧ D.1 8 o = 2) ∧ ¬ (D.1 8 p = 2 ∧ D.1 8 o = 1) := by
  obtain ⟨v1, v2, v3, v4, v5, v6, v7, v8, v9⟩ := hw.2.2.2.2.2.1 p hp
  obtain ⟨b1, b2, b3, b4⟩ := hw.1
  obtain ⟨c1, c2, c3, c4⟩ := hw.2.2.1 p hp
  obtain ⟨w1, w2, w3, w4, w5, w6, w7, w8, w9⟩ := hw.2.2.2.2.2.1 o ho
  obtain ⟨e1, e2, e3, e4⟩ := hw.2.2.1 o ho
  have h := clash_all ⟨(D.1 5 p).toNat, by omega⟩ ⟨(D.1 5 o).toNat, by omega⟩ ⟨(D.1 6 p).toNat, by omega⟩ ⟨(D.1 6 o).toNat, by omega⟩ ⟨(D.1 8 p).toNat, by omega⟩ ⟨(D.1 8 o).toNat, by omega⟩
  unfold mN cN
  rw [h]
  show ((D.1 5 p).toNat ≠ (D.1 5 o).toNat ∧ ¬ ((D.1 6 p).toNat = 0 ∧ (D.1 6 o).toNat = 0) ∧ ¬ ((D.1 6 p).toNat = 5 ∧ (D.1 6 o).toNat = 5) ∧ ¬ ((D.1 8 p).toNat = 1 ∧ (D.1 8 o).toNat = 2) ∧ ¬ ((D.1 8 p).toNat = 2 ∧ (D.1 8 o).toNat = 1)) ↔ _
  omega
theorem foldl_bor {D : Mem} (hw : Wf D) : ∀ (l : List Nat), (∀ p ∈ l, (p : Int) < D.1 1 11) → ∀ acc : Nat, acc < 4096 → ∃ n : Nat, n < 4096 ∧ (l.map (mF D)).foldl bor (acc : Int) = (n : Int) ∧ ∀ z, (n &&& z = 0 ↔ acc &&& z = 0 ∧ ∀ p ∈ l, mN D p &&& z = 0)
  | [], _, acc, h => ⟨acc, h, rfl, fun z => by simp⟩
  | p :: l, hl, acc, h => by
    obtain ⟨e1, e2, e3, e4⟩ := mN_eq hw (hl p List.mem_cons_self)
    have hlt : acc ||| mN D p < 2 ^ 12 := Nat.or_lt_two_pow h e3
    obtain ⟨n, hn, h1, h2⟩ := foldl_bor hw l (fun q hq => hl q (List.mem_cons_of_mem _ hq)) (acc ||| mN D p) hlt
    refine ⟨n, hn, ?_, fun z => ?_⟩
    · rw [List.map_cons, List.foldl_cons, e1, bor_nat (by omega) (by omega)]
      exact h1
    · rw [h2 z, and_or_0]
      simp only [List.mem_cons, forall_eq_or_imp, and_assoc]
theorem marks_iff {D : Mem} (hw : Wf D) {p o : Nat} {r : List Nat} (hp : ∀ x ∈ p :: r, (x : Int) < D.1 1 11) (ho : (o : Int) < D.1 1 11) : band (fold1 bor ((p :: r).map (mF D))) (cF D o) = 0 ↔ ∀ x ∈ p :: r, mN D x &&& cN D o = 0 := by
  obtain ⟨e1, e2, e3, e4⟩ := mN_eq hw (hp p List.mem_cons_self)
  obtain ⟨f1, f2, f3, f4⟩ := mN_eq hw ho
  obtain ⟨n, hn, h1, h2⟩ := foldl_bor hw r (fun q hq => hp q (List.mem_cons_of_mem _ hq)) (mN D p) e3
  have h3 : fold1 bor ((p :: r).map (mF D)) = (n : Int) := by
    show (r.map (mF D)).foldl bor (mF D p) = _
    rw [e1]; exact h1
  rw [h3, f2, band_nat (by omega) (by omega)]
  simp only [List.mem_cons, forall_eq_or_imp]
  rw [← h2]
  omega
theorem foldl_max : ∀ (l : List Int) (a z : Int), l.foldl max a ≤ z ↔ a ≤ z ∧ ∀ x ∈ l, x ≤ z
  | [], a, z => by simp
  | x :: l, a, z => by
    rw [List.foldl_cons, foldl_max l (max a x) z]
    simp only [List.mem_cons, forall_eq_or_imp, ← and_assoc]
    refine and_congr ?_ Iff.rfl
    omega
theorem foldl_min : ∀ (l : List Int) (a z : Int), z ≤ l.foldl min a ↔ z ≤ a ∧ ∀ x ∈ l, z ≤ x
  | [], a, z => by simp
  | x :: l, a, z => by
    rw [List.foldl_cons, foldl_min l (min a x) z]
    simp only [List.mem_cons, forall_eq_or_imp, ← and_assoc]
    refine and_congr ?_ Iff.rfl
    omega
theorem mm_iff (f g : Nat → Int) (p o : Nat) (r : List Nat) : max (fold1 max ((p :: r).map f)) (f o) ≤ min (fold1 min ((p :: r).map g)) (g o) ↔ ∀ x y, (x ∈ p :: r ∨ x = o) → (y ∈ p :: r ∨ y = o) → f x ≤ g y := by
  have h1 : ∀ z, fold1 max ((p :: r).map f) ≤ z ↔ ∀ x ∈ p :: r, f x ≤ z := fun z => by
    show (r.map f).foldl max (f p) ≤ z ↔ _
    rw [foldl_max]
    simp
  have h2 : ∀ z, z ≤ fold1 min ((p :: r).map g) ↔ ∀ x ∈ p :: r, z ≤ g x := fun z => by
    show z ≤ (r.map g).foldl min (g p) ↔ _
    rw [foldl_min]
    simp
  have h3 : ∀ z, max (fold1 max ((p :: r).map f)) (f o) ≤ z ↔ ∀ x, (x ∈ p :: r ∨ x = o) → f x ≤ z := fun z => by
    rw [show (max (fold1 max ((p :: r).map f)) (f o) ≤ z ↔ fold1 max ((p :: r).map f) ≤ z ∧ f o ≤ z) by omega, h1]
    refine ⟨fun h x hx => hx.elim (fun hx => h.1 x hx) (fun hx => hx ▸ h.2), fun h => ⟨fun x hx => h x (Or.inl hx), h o (Or.inr rfl)⟩⟩
  have h4 : ∀ z, z ≤ min (fold1 min ((p :: r).map g)) (g o) ↔ ∀ x, (x ∈ p :: r ∨ x = o) → z ≤ g x := fun z => by
    rw [show (z ≤ min (fold1 min ((p :: r).map g)) (g o) ↔ z ≤ fold1 min ((p :: r).map g) ∧ z ≤ g o) by omega, h2]
    refine ⟨fun h x hx => hx.elim (fun hx => h.1 x hx) (fun hx => hx ▸ h.2), fun h => ⟨fun x hx => h x (Or.inl hx), h o (Or.inr rfl)⟩⟩
  rw [h3]
  exact ⟨fun h x y hx hy => (h4 _).mp (h x hx) y hy, fun h x hx => (h4 _).mpr (fun y hy => h x y hx hy)⟩
theorem copy_neg {D : Mem} (hw : Wf D) {o : Nat} (ho : (o : Int) < D.1 1 11) : D.1 10 o < 0 ↔ D.1 10 o = -1 := by
  obtain ⟨hB, hR, hO, hC, hD, hV, hL⟩ := hw
  obtain ⟨c1, c2, c3, c4⟩ := hO o ho
  obtain ⟨d1, d2⟩ := hD o ho
  have c := hC (D.1 5 o).toNat (by omega)
  rcases c with c | ⟨c5, c6, c7, c8⟩
  · rw [d1 c]; omega
  · have r1 := hR.1 (D.1 5 o).toNat (by omega)
    have r2 := hR.1 (D.1 4 (D.1 5 o).toNat).toNat (by omega)
    rw [(d2 c5).1]; omega
/-- what the reference finds when it asks -/
theorem canM_spec (D : Mem) (hw : Wf D) (o q : Nat) : ∀ (a : Asg), (∀ x ∈ a, (x.1 : Int) < D.1 1 11) → ∀ s : Int × Int × Int, (canM D o q a s = none ∧ ∃ x ∈ a, x.2 = q ∧ ¬ oneF D o x.1) ∨ (∃ s', canM D o q a s = some s' ∧ (∀ x ∈ a, x.2 = q → oneF D o x.1) ∧ (∀ z, s'.1 ≤ z ↔ s.1 ≤ z ∧ ∀ x ∈ a, x.2 = q → eF D x.1 ≤ z) ∧ (∀ z, z ≤ s'.2.1 ↔ z ≤ s.2.1 ∧ ∀ x ∈ a, x.2 = q → z ≤ lF D x.1) ∧ s'.2.2 = s.2.2 + (if D.1 10 o < 0 then sumI ((mems D a q).map (apF D o)) else 0))
  | [], _, s => Or.inr ⟨s, rfl, fun x hx => by (cases hx), fun z => by simp, fun z => by simp, by simp [mems, sumI]⟩
  | x :: a, ha, s => by
    have ha' := fun y hy => ha y (List.mem_cons_of_mem _ hy)
    have hx := ha x List.mem_cons_self
    have hcp : D.1 10 x.1 < 0 ↔ D.1 10 x.1 = -1 := copy_neg hw hx
    unfold canM
    by_cases h1 : x.2 = q
    · rw [if_pos h1]
      by_cases h2 : oneF D o x.1
      · rw [if_pos h2]
        rcases canM_spec D hw o q a ha' (max (eF D x.1) s.1, min (lF D x.1) s.2.1, if D.1 10 o < 0 ∧ D.1 10 x.1 < 0 then s.2.2 + apF D o x.1 else s.2.2) with ⟨h3, y, hy, h4, h5⟩ | ⟨s', h3, h4, h5, h6, h7⟩
        · exact Or.inl ⟨h3, y, List.mem_cons_of_mem _ hy, h4, h5⟩
        · right
          refine ⟨s', h3, fun y hy hq => ?_, fun z => ?_, fun z => ?_, ?_⟩
          · rcases List.mem_cons.mp hy with rfl | hy
            · exact h2
            · exact h4 y hy hq
          · rw [h5 z]
            show max (eF D x.1) s.1 ≤ z ∧ _ ↔ _
            simp only [List.mem_cons, forall_eq_or_imp, h1, true_implies]
            constructor
            · rintro ⟨a1, a2⟩; exact ⟨by omega, by omega, a2⟩
            · rintro ⟨a1, a2, a3⟩; exact ⟨by omega, a3⟩
          · rw [h6 z]
            show z ≤ min (lF D x.1) s.2.1 ∧ _ ↔ _
            simp only [List.mem_cons, forall_eq_or_imp, h1, true_implies]
            constructor
            · rintro ⟨a1, a2⟩; exact ⟨by omega, by omega, a2⟩
            · rintro ⟨a1, a2, a3⟩; exact ⟨by omega, a3⟩
          · rw [h7]
            have em : mems D (x :: a) q = if x.2 = q ∧ D.1 10 x.1 = -1 then x.1 :: mems D a q else mems D a q := rfl
            rw [em]
            by_cases h8 : D.1 10 o < 0
            · by_cases h9 : D.1 10 x.1 = -1
              · rw [if_pos (show x.2 = q ∧ D.1 10 x.1 = -1 from ⟨h1, h9⟩), if_pos h8, if_pos h8]
                simp only [if_pos (show D.1 10 o < 0 ∧ D.1 10 x.1 < 0 from ⟨h8, hcp.mpr h9⟩), List.map_cons, sumI]
                omega
              · rw [if_neg (show ¬ (x.2 = q ∧ D.1 10 x.1 = -1) from fun z => h9 z.2), if_pos h8]
                simp only [if_neg (show ¬ (D.1 10 o < 0 ∧ D.1 10 x.1 < 0) from fun z => h9 (hcp.mp z.2))]
            · rw [if_neg h8, if_neg h8]
              simp only [if_neg (show ¬ (D.1 10 o < 0 ∧ D.1 10 x.1 < 0) from fun z => h8 z.1)]
      · rw [if_neg h2]
        exact Or.inl ⟨rfl, x, List.mem_cons_self, h1, h2⟩
    · rw [if_neg h1]
      rcases canM_spec D hw o q a ha' s with ⟨h3, y, hy, h4, h5⟩ | ⟨s', h3, h4, h5, h6, h7⟩
      · exact Or.inl ⟨h3, y, List.mem_cons_of_mem _ hy, h4, h5⟩
      · right
        refine ⟨s', h3, fun y hy hq => ?_, fun z => ?_, fun z => ?_, ?_⟩
        · rcases List.mem_cons.mp hy with rfl | hy
          · exact absurd hq h1
          · exact h4 y hy hq
        · rw [h5 z]; simp only [List.mem_cons, forall_eq_or_imp, h1, false_implies, true_and]
        · rw [h6 z]; simp only [List.mem_cons, forall_eq_or_imp, h1, false_implies, true_and]
        · rw [h7]
          have e : mems D (x :: a) q = mems D a q := by
            show (if x.2 = q ∧ D.1 10 x.1 = -1 then x.1 :: mems D a q else mems D a q) = _
            rw [if_neg (fun z => h1 z.1)]
          rw [e]

