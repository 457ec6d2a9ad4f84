/-! MODULE 12: the search, as a function of the book: a row of roles, a way so far (each role's person, oldest first), how many persons, its cost; tries, ways found (with their costs), spent. -/
abbrev Asg : Type := List (Nat × Nat)
abbrev Res : Type := Nat × List (Asg × Int) × Bool
def per (a : Asg) (o : Nat) : Nat := match a with
  | [] => 0
  | x :: r => if x.1 = o then x.2 else per r o
def fold1 (f : Int → Int → Int) : List Int → Int
  | [] => 0
  | a :: r => r.foldl f a
theorem fold1_one (f : Int → Int → Int) (x : Int) : fold1 f [x] = x := rfl
theorem fold1_snoc (f : Int → Int → Int) {l : List Int} (x : Int) (h : l ≠ []) : fold1 f (l ++ [x]) = f (fold1 f l) x := by
  cases l with
  | nil => exact absurd rfl h
  | cons a r => simp [fold1, List.foldl_append]
/-- the members of person q that are no copies -/
def mems (D : Mem) : Asg → Nat → List Nat
  | [], _ => []
  | x :: r, q => if x.2 = q ∧ D.1 10 x.1 = -1 then x.1 :: mems D r q else mems D r q
theorem mems_app (D : Mem) (q : Nat) : ∀ a b : Asg, mems D (a ++ b) q = mems D a q ++ mems D b q
  | [], b => rfl
  | x :: r, b => by
    simp only [List.cons_append, mems, mems_app D q r b]
    split <;> rfl
/-- may role o be of a person with these members, as the laws go -/
def feC (D : Mem) (o : Nat) (ms : List Nat) : Bool := match ms with
  | [] => decide (eF D o ≤ lF D o)
  | p :: r => decide (band (fold1 bor ((p :: r).map (mF D))) (cF D o) = 0 ∧ max (fold1 max ((p :: r).map (eF D))) (eF D o) ≤ min (fold1 min ((p :: r).map (lF D))) (lF D o) ∧ max (fold1 max ((p :: r).map (alF D))) (alF D o) ≤ min (fold1 min ((p :: r).map (deF D))) (deF D o))
def sumI : List Int → Int
  | [] => 0
  | a :: r => a + sumI r
theorem sumI_app : ∀ a b : List Int, sumI (a ++ b) = sumI a + sumI b
  | [], b => by simp [sumI]
  | x :: r, b => by simp only [List.cons_append, sumI, sumI_app r b]; omega
/-- what it costs more -/
def addC (D : Mem) (o : Nat) (ms : List Nat) : Int := match ms with
  | [] => D.1 12 6
  | p :: r => sumI ((p :: r).map (apF D o))
def mayT (R : Res) : Bool × Res := if R.2.2 = true then (false, R) else if 300000 ≤ R.1 then (false, (R.1, R.2.1, true)) else (true, (R.1 + 1, R.2.1, R.2.2))
def keepR (a : Asg) (c : Int) (R : Res) : Res := if 3000 ≤ R.2.1.length then (R.1, R.2.1, true) else (R.1, R.2.1 ++ [(a, c)], R.2.2)
def loopP (f : Nat → Res → Res) : Nat → Nat → Res → Res
  | 0, _, R => R
  | n + 1, k, R => loopP f n (k + 1) (f k R)
def placeP (D : Mem) : List Nat → Asg → Nat → Int → Res → Res
  | [], a, _, c, R => keepR a c R
  | o :: rem, a, ppl, c, R =>
    if D.1 10 o = -1 then
      loopP (fun q R => if (mayT R).1 = true then (if feC D o (mems D a q) = true ∧ c + addC D o (mems D a q) ≤ D.1 12 5 then placeP D rem (a ++ [(o, q)]) (if q < ppl then ppl else ppl + 1) (c + addC D o (mems D a q)) (mayT R).2 else (mayT R).2) else (mayT R).2) (ppl + 1) 0 R
    else if (mayT R).1 = true then placeP D rem (a ++ [(o, per a (D.1 10 o).toNat)]) ppl c (mayT R).2 else (mayT R).2
def R0 : Res := (0, [], false)
def seekP (D : Mem) (ord : List Nat) : Res := placeP D ord [] 0 0 R0
theorem mayT_spent {R : Res} (h : R.2.2 = true) : mayT R = (false, R) := by unfold mayT; rw [if_pos h]
theorem loopP_id {f : Nat → Res → Res} (h : ∀ k R, R.2.2 = true → f k R = R) : ∀ (n k : Nat) (R : Res), R.2.2 = true → loopP f n k R = R
  | 0, _, _, _ => rfl
  | n + 1, k, R, hR => by
    show loopP f n (k + 1) (f k R) = R
    rw [h k R hR]
    exact loopP_id h n (k + 1) R hR
theorem mayT_false {R : Res} (h : (mayT R).1 = false) : (mayT R).2.2.2 = true := by
  unfold mayT at h ⊢
  split
  · next h1 => exact h1
  · split
    · rfl
    · next h1 h2 => rw [if_neg h1, if_neg h2] at h; cases h
theorem per_app (o : Nat) : ∀ (a b : Asg), per (a ++ b) o = if o ∈ a.map (fun x => x.1) then per a o else per b o
  | [], b => by simp [per]
  | x :: r, b => by
    simp only [List.cons_append, per, List.map_cons, List.mem_cons]
    by_cases h : x.1 = o
    · rw [if_pos h, if_pos (Or.inl h.symm), if_pos h]
    · rw [if_neg h, if_neg h, per_app o r b]
      by_cases h2 : o ∈ r.map (fun x => x.1)
      · rw [if_pos h2, if_pos (Or.inr h2)]
      · rw [if_neg h2, if_neg (fun z => z.elim (fun q => h q.symm) h2)]
theorem per_in {a : Asg} {o : Nat} {q : Nat} (hm : (o, q) ∈ a) (hn : (a.map (fun x => x.1)).Nodup) : per a o = q := by
  induction a with
  | nil => cases hm
  | cons x r ih =>
    simp only [List.map_cons, List.nodup_cons] at hn
    unfold per
    rcases List.mem_cons.mp hm with h | h
    · rw [← h, if_pos rfl]
    · rw [if_neg (fun z => hn.1 (by rw [z]; exact List.mem_map.mpr ⟨(o, q), h, rfl⟩))]
      exact ih h hn.2
/-- the roles of a set of records, in order -/
def ordOf (D : Mem) (s : Nat) : List Nat := (List.range (nN D)).filter (fun o => s.testBit (D.1 5 o).toNat)
/-- a row of roles that can be sought -/
def OrdOK (D : Mem) (ord : List Nat) : Prop := (∀ o ∈ ord, (o : Int) < D.1 1 11) ∧ ord.Pairwise (· < ·) ∧ ∀ o ∈ ord, D.1 10 o ≠ -1 → 0 ≤ D.1 10 o ∧ (D.1 10 o).toNat ∈ ord ∧ D.1 10 o < o ∧ D.1 10 (D.1 10 o).toNat = -1
theorem OrdOK.nd {D : Mem} {ord : List Nat} (h : OrdOK D ord) : ord.Nodup := h.2.1.imp (fun h => Nat.ne_of_lt h)

