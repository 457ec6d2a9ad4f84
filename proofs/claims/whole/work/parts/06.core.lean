/-! MODULE 2: the abstract run. Values, memory, worlds, locals. -/
abbrev AV : Type := Int ⊕ (Int64 ⊕ Nat)
abbrev vi (z : Int) : AV := Sum.inl z
abbrev vl (x : Int64) : AV := Sum.inr (Sum.inl x)
abbrev vr (p : Nat) : AV := Sum.inr (Sum.inr p)
/-- ints by place and index (an array's element, an object's slot); longs likewise -/
abbrev Mem : Type := (Nat → Nat → Int) × (Nat → Nat → Int64)
/-- a place: an array (0 int, 1 long, 2 boolean, 3 byte; its length), or an object (class; a slot: none: a number, some p: the place p) -/
abbrev Sh : Type := (Nat × Nat) ⊕ (Nat × List (Option Nat))
def cv (ad : Nat → Nat) (v : AV) : Value := match v with
  | .inl z => .int (Int32.ofInt z)
  | .inr (.inl x) => .long x
  | .inr (.inr p) => .ref (ad p)
def catv (v : AV) : Nat := match v with
  | .inr (.inl _) => 2
  | _ => 1
theorem cv_cat (ad : Nat → Nat) (v : AV) : (cv ad v).category = catv v := by
  rcases v with z | x | p <;> rfl
def si (M : Mem) (p k : Nat) (z : Int) : Mem := (fun p' k' => if p' = p ∧ k' = k then z else M.1 p' k', M.2)
def sj (M : Mem) (p k : Nat) (x : Int64) : Mem := (M.1, fun p' k' => if p' = p ∧ k' = k then x else M.2 p' k')
def fv (ad : Nat → Nat) (g : Nat → Int) : Nat → List (Option Nat) → List Value
  | _, [] => []
  | k, none :: r => .int (Int32.ofInt (g k)) :: fv ad g (k + 1) r
  | k, some p :: r => .ref (ad p) :: fv ad g (k + 1) r
theorem fv_int (ad : Nat → Nat) (g : Nat → Int) : ∀ (L : List (Option Nat)) (k0 j : Nat), L[j]? = some none → (fv ad g k0 L)[j]? = some (.int (Int32.ofInt (g (k0 + j))))
  | [], _, _, h => by simp at h
  | none :: r, k0, 0, _ => by simp [fv]
  | some p :: r, k0, 0, h => by simp at h
  | none :: r, k0, j + 1, h => by
    have := fv_int ad g r (k0 + 1) j (by simpa using h)
    simpa [fv, Nat.add_assoc, Nat.add_comm, Nat.add_left_comm] using this
  | some p :: r, k0, j + 1, h => by
    have := fv_int ad g r (k0 + 1) j (by simpa using h)
    simpa [fv, Nat.add_assoc, Nat.add_comm, Nat.add_left_comm] using this
theorem fv_ref (ad : Nat → Nat) (g : Nat → Int) : ∀ (L : List (Option Nat)) (k0 j p : Nat), L[j]? = some (some p) → (fv ad g k0 L)[j]? = some (.ref (ad p))
  | [], _, _, _, h => by simp at h
  | none :: r, k0, 0, _, h => by simp at h
  | some q :: r, k0, 0, p, h => by
    have : q = p := by simpa using h
    subst this
    simp [fv]
  | none :: r, k0, j + 1, p, h => by simpa [fv] using fv_ref ad g r (k0 + 1) j p (by simpa using h)
  | some q :: r, k0, j + 1, p, h => by simpa [fv] using fv_ref ad g r (k0 + 1) j p (by simpa using h)
theorem fv_len (ad : Nat → Nat) (g : Nat → Int) : ∀ (L : List (Option Nat)) (k0 : Nat), (fv ad g k0 L).length = L.length
  | [], _ => rfl
  | none :: r, k0 => by simp [fv, fv_len ad g r]
  | some p :: r, k0 => by simp [fv, fv_len ad g r]
theorem fv_ext (ad : Nat → Nat) (g g' : Nat → Int) : ∀ (L : List (Option Nat)) (k0 : Nat), (∀ j, k0 ≤ j → g j = g' j) → fv ad g k0 L = fv ad g' k0 L
  | [], _, _ => rfl
  | none :: r, k0, h => by simp only [fv]; rw [h k0 (Nat.le_refl _), fv_ext ad g g' r (k0 + 1) (fun j hj => h j (by omega))]
  | some p :: r, k0, h => by simp only [fv]; rw [fv_ext ad g g' r (k0 + 1) (fun j hj => h j (by omega))]
theorem fv_set (ad : Nat → Nat) (g : Nat → Int) (z : Int) : ∀ (L : List (Option Nat)) (k0 j : Nat), L[j]? = some none → (fv ad g k0 L).set j (.int (Int32.ofInt z)) = fv ad (fun i => if i = k0 + j then z else g i) k0 L
  | [], _, _, h => by simp at h
  | none :: r, k0, 0, _ => by
    simp only [fv, List.set_cons_zero, Nat.add_zero, if_true]
    rw [fv_ext ad g (fun i => if i = k0 then z else g i) r (k0 + 1) (fun j hj => by
      show g j = if j = k0 then z else g j
      rw [if_neg (by omega)])]
  | some p :: r, k0, 0, h => by simp at h
  | none :: r, k0, j + 1, h => by
    simp only [fv, List.set_cons_succ]
    rw [fv_set ad g z r (k0 + 1) j (by simpa using h), if_neg (by omega)]
    congr 1
    exact fv_ext ad _ _ r (k0 + 1) (fun i _ => by rw [show k0 + 1 + j = k0 + (j + 1) by omega])
  | some p :: r, k0, j + 1, h => by
    simp only [fv, List.set_cons_succ]
    rw [fv_set ad g z r (k0 + 1) j (by simpa using h)]
    congr 1
    exact fv_ext ad _ _ r (k0 + 1) (fun i _ => by rw [show k0 + 1 + j = k0 + (j + 1) by omega])
def aca (f : Nat → Int) (g : Nat → Int64) (t n : Nat) : vp_A := if t = 1 then (n, .inr (.inl g)) else (n, .inl (fun j => Int32.ofInt (f j)))
def ac (ad : Nat → Nat) (kd : Nat → ClassId) (M : Mem) (p : Nat) (sh : Sh) : va_E := match sh with
  | .inl (t, n) => .inl (kd t, aca (M.1 p) (M.2 p) t n)
  | .inr (ci, L) => .inr (ci, fv ad (M.1 p) 0 L)
def wl (ad : Nat → Nat) (kd : Nat → ClassId) (M : Mem) : Nat → List Sh → va_W
  | _, [] => []
  | p, sh :: r => (ad p, ac ad kd M p sh) :: wl ad kd M (p + 1) r
theorem wl_get (ad : Nat → Nat) (kd : Nat → ClassId) (M : Mem) : ∀ (L : List Sh) (p0 j : Nat), (wl ad kd M p0 L)[j]? = (L[j]?).map (fun sh => (ad (p0 + j), ac ad kd M (p0 + j) sh))
  | [], _, _ => by simp [wl]
  | sh :: r, p0, 0 => by simp [wl]
  | sh :: r, p0, j + 1 => by
    have := wl_get ad kd M r (p0 + 1) j
    simpa [wl, Nat.add_assoc, Nat.add_comm, Nat.add_left_comm] using this
theorem wl_at {ad : Nat → Nat} {kd : Nat → ClassId} {M : Mem} {wd : List Sh} {p : Nat} {sh : Sh} (h : wd[p]? = some sh) : (wl ad kd M 0 wd)[p]? = some (ad p, ac ad kd M p sh) := by
  rw [wl_get, h]; simp
theorem wl_set {ad : Nat → Nat} {kd : Nat → ClassId} {M M' : Mem} {wd : List Sh} {p : Nat} {sh : Sh} (h : wd[p]? = some sh) (h1 : ∀ p', p' ≠ p → M'.1 p' = M.1 p') (h2 : ∀ p', p' ≠ p → M'.2 p' = M.2 p') : (wl ad kd M 0 wd).set p (ad p, ac ad kd M' p sh) = wl ad kd M' 0 wd := by
  apply List.ext_getElem?
  intro j
  rw [List.getElem?_set, wl_get, wl_get]
  by_cases hj : p = j
  · subst hj
    have hl : p < (wl ad kd M 0 wd).length := (List.getElem?_eq_some_iff.mp (wl_at (M := M) h)).1
    rw [if_pos rfl, if_pos hl, h]
    simp
  · rw [if_neg hj]
    cases hw : wd[j]? with
    | none => rfl
    | some s2 =>
      have e1 : M'.1 j = M.1 j := h1 j (fun q => hj q.symm)
      have e2 : M'.2 j = M.2 j := h2 j (fun q => hj q.symm)
      rcases s2 with ⟨t, n⟩ | ⟨ci, L⟩ <;> simp [ac, e1, e2]
theorem si_1 (M : Mem) (p k : Nat) (z : Int) (p' : Nat) (h : p' ≠ p) : (si M p k z).1 p' = M.1 p' := by
  funext k'; simp [si, h]
theorem sj_2 (M : Mem) (p k : Nat) (x : Int64) (p' : Nat) (h : p' ≠ p) : (sj M p k x).2 p' = M.2 p' := by
  funext k'; simp [sj, h]
/-- locals -/
def LR (ad : Nat → Nat) (al : List (Option AV)) (nL : Nat) (ls : Array Slot) : Prop :=
  ls.size = nL ∧ lv_wf ls ∧ ∀ (i : Nat) (v : AV), al[i]? = some (some v) → ls[i]? = some (.val (cv ad v))
def kl (o : Option AV) : Option AV := match o with
  | some (.inr (.inl _)) => none
  | o => o
def st1 : List (Option AV) → Nat → AV → List (Option AV)
  | [], _, _ => []
  | _ :: r, 0, v => some v :: r
  | a :: r, 1, v => kl a :: st1 r 0 v
  | a :: r, i + 2, v => a :: st1 r (i + 1) v
def st2 : List (Option AV) → Nat → AV → List (Option AV)
  | [], _, _ => []
  | [_], _, _ => [none]
  | _ :: _ :: r, 0, v => some v :: none :: r
  | a :: r, 1, v => kl a :: st2 r 0 v
  | a :: r, i + 2, v => a :: st2 r (i + 1) v
def lvOf (ad : Nat → Nat) (al : List (Option AV)) : List (Nat × Value) := (List.range al.length).filterMap fun i => match al[i]? with
  | some (some v) => some (i, cv ad v)
  | _ => none
theorem lvOf_mem {ad : Nat → Nat} {al : List (Option AV)} {i : Nat} {v : AV} (h : al[i]? = some (some v)) : (i, cv ad v) ∈ lvOf ad al := by
  refine List.mem_filterMap.mpr ⟨i, List.mem_range.mpr (List.getElem?_eq_some_iff.mp h).1, ?_⟩
  rw [h]
theorem LR.has {ad : Nat → Nat} {al : List (Option AV)} {nL : Nat} {ls : Array Slot} (h : LR ad al nL ls) : lv_has ls nL (lvOf ad al) := by
  refine ⟨h.1, h.2.1, fun q hq => ?_⟩
  obtain ⟨i, -, hi⟩ := List.mem_filterMap.mp hq
  split at hi
  · next v hv => cases hi; exact h.2.2 i v hv
  · cases hi
theorem kl_some {o : Option AV} {w : AV} (h : kl o = some w) : o = some w ∧ catv w = 1 := by
  rcases o with _ | (z | x | p)
  · simp [kl] at h
  · simp [kl] at h; subst h; exact ⟨rfl, rfl⟩
  · simp [kl] at h
  · simp [kl] at h; subst h; exact ⟨rfl, rfl⟩
theorem st1_get : ∀ (al : List (Option AV)) (i : Nat) (v : AV) (j : Nat) (w : AV), (st1 al i v)[j]? = some (some w) → (j = i ∧ w = v) ∨ (j ≠ i ∧ al[j]? = some (some w) ∧ ¬ (j + 1 = i ∧ catv w = 2))
  | [], _, _, _, _, h => by simp [st1] at h
  | a :: r, 0, v, 0, w, h => by simp [st1] at h; exact Or.inl ⟨rfl, h.symm⟩
  | a :: r, 0, v, j + 1, w, h => by
    simp [st1] at h
    exact Or.inr ⟨by omega, by simpa using h, by omega⟩
  | a :: r, 1, v, 0, w, h => by
    have h1 : kl a = some w := by simpa [st1] using h
    obtain ⟨h2, h3⟩ := kl_some h1
    exact Or.inr ⟨by omega, by simp [h2], by omega⟩
  | a :: r, 1, v, j + 1, w, h => by
    have h1 : (st1 r 0 v)[j]? = some (some w) := by simpa [st1] using h
    rcases st1_get r 0 v j w h1 with ⟨e, e2⟩ | ⟨e, e2, e3⟩
    · exact Or.inl ⟨by omega, e2⟩
    · exact Or.inr ⟨by omega, by simpa using e2, by omega⟩
  | a :: r, i + 2, v, 0, w, h => by
    have h1 : a = some w := by simpa [st1] using h
    exact Or.inr ⟨by omega, by simp [h1], by omega⟩
  | a :: r, i + 2, v, j + 1, w, h => by
    have h1 : (st1 r (i + 1) v)[j]? = some (some w) := by simpa [st1] using h
    rcases st1_get r (i + 1) v j w h1 with ⟨e, e2⟩ | ⟨e, e2, e3⟩
    · exact Or.inl ⟨by omega, e2⟩
    · exact Or.inr ⟨by omega, by simpa using e2, fun q => e3 ⟨by omega, q.2⟩⟩
theorem st2_get : ∀ (al : List (Option AV)) (i : Nat) (v : AV) (j : Nat) (w : AV), (st2 al i v)[j]? = some (some w) → (j = i ∧ w = v) ∨ (j ≠ i ∧ j ≠ i + 1 ∧ al[j]? = some (some w) ∧ ¬ (j + 1 = i ∧ catv w = 2))
  | [], _, _, _, _, h => by simp [st2] at h
  | [_], i, _, 0, _, h => by simp [st2] at h
  | [_], i, _, j + 1, _, h => by simp [st2] at h
  | a :: b :: r, 0, v, 0, w, h => by simp [st2] at h; exact Or.inl ⟨rfl, h.symm⟩
  | a :: b :: r, 0, v, 1, w, h => by simp [st2] at h
  | a :: b :: r, 0, v, j + 2, w, h => by
    simp [st2] at h
    exact Or.inr ⟨by omega, by omega, by simpa using h, by omega⟩
  | a :: b :: r, 1, v, 0, w, h => by
    have h1 : kl a = some w := by simpa [st2] using h
    obtain ⟨h2, h3⟩ := kl_some h1
    exact Or.inr ⟨by omega, by omega, by simp [h2], by omega⟩
  | a :: b :: r, 1, v, j + 1, w, h => by
    have h1 : (st2 (b :: r) 0 v)[j]? = some (some w) := by simpa [st2] using h
    rcases st2_get (b :: r) 0 v j w h1 with ⟨e, e2⟩ | ⟨e, e1, e2, e3⟩
    · exact Or.inl ⟨by omega, e2⟩
    · exact Or.inr ⟨by omega, by omega, by simpa using e2, by omega⟩
  | a :: b :: r, i + 2, v, 0, w, h => by
    have h1 : a = some w := by simpa [st2] using h
    exact Or.inr ⟨by omega, by omega, by simp [h1], by omega⟩
  | a :: b :: r, i + 2, v, j + 1, w, h => by
    have h1 : (st2 (b :: r) (i + 1) v)[j]? = some (some w) := by simpa [st2] using h
    rcases st2_get (b :: r) (i + 1) v j w h1 with ⟨e, e2⟩ | ⟨e, e1, e2, e3⟩
    · exact Or.inl ⟨by omega, e2⟩
    · exact Or.inr ⟨by omega, by omega, by simpa using e2, fun q => e3 ⟨by omega, q.2⟩⟩
theorem LR.st1 {ad : Nat → Nat} {al : List (Option AV)} {nL i : Nat} {v : AV} {ls : Array Slot} {x : Value} (hx : x = cv ad v)
    (h : lv_has ls nL ((i, x) :: (lvOf ad al).filter (fun q => !(q.1 == i) && !(q.1 + 1 == i && q.2.category == 2)))) : LR ad (st1 al i v) nL ls := by
  subst hx
  refine ⟨h.1, h.2.1, fun j w hw => ?_⟩
  rcases st1_get al i v j w hw with ⟨rfl, rfl⟩ | ⟨h1, h2, h3⟩
  · exact h.2.2 _ List.mem_cons_self
  · refine h.2.2 (j, cv ad w) (List.mem_cons_of_mem _ (List.mem_filter.mpr ⟨lvOf_mem h2, ?_⟩))
    simp only [cv_cat, Bool.and_eq_true, Bool.not_eq_true', beq_eq_false_iff_ne, Bool.and_eq_false_iff]
    refine ⟨h1, ?_⟩
    by_cases hj : j + 1 = i
    · exact Or.inr fun q => h3 ⟨hj, q⟩
    · exact Or.inl hj
theorem LR.st2 {ad : Nat → Nat} {al : List (Option AV)} {nL i : Nat} {v : AV} {ls : Array Slot} {x : Value} (hx : x = cv ad v)
    (h : lv_has ls nL ((i, x) :: (lvOf ad al).filter (fun q => !(q.1 == i) && (!(q.1 == i + 1) && !(q.1 + 1 == i && q.2.category == 2))))) : LR ad (st2 al i v) nL ls := by
  subst hx
  refine ⟨h.1, h.2.1, fun j w hw => ?_⟩
  rcases st2_get al i v j w hw with ⟨rfl, rfl⟩ | ⟨h1, h0, h2, h3⟩
  · exact h.2.2 _ List.mem_cons_self
  · refine h.2.2 (j, cv ad w) (List.mem_cons_of_mem _ (List.mem_filter.mpr ⟨lvOf_mem h2, ?_⟩))
    simp only [cv_cat, Bool.and_eq_true, Bool.not_eq_true', beq_eq_false_iff_ne, Bool.and_eq_false_iff]
    refine ⟨h1, h0, ?_⟩
    by_cases hj : j + 1 = i
    · exact Or.inr fun q => h3 ⟨hj, q⟩
    · exact Or.inl hj
theorem LR.lt {ad : Nat → Nat} {al : List (Option AV)} {nL i : Nat} {v : AV} {ls : Array Slot} (h : LR ad al nL ls) (hi : al[i]? = some (some v)) : i < nL := by
  have := (Array.getElem?_eq_some_iff.mp (h.2.2 i v hi)).1
  rw [h.1] at this
  exact this
/-- fewer locals are known -/
theorem LR.mono {ad : Nat → Nat} {al al' : List (Option AV)} {nL : Nat} {ls : Array Slot} (h : LR ad al nL ls) (hs : ∀ (i : Nat) (v : AV), al'[i]? = some (some v) → al[i]? = some (some v)) : LR ad al' nL ls := ⟨h.1, h.2.1, fun i v hv => h.2.2 i v (hs i v hv)⟩
def entL : List AV → List (Option AV)
  | [] => []
  | .inr (.inl x) :: r => some (vl x) :: none :: entL r
  | v :: r => some v :: entL r
def padL (n : Nat) (l : List (Option AV)) : List (Option AV) := l ++ List.replicate (n - l.length) none
theorem entL_args (ad : Nat → Nat) : ∀ (As : List AV) (k i : Nat) (v : AV), (entL As)[i]? = some (some v) → (k + i, cv ad v) ∈ lv_args k (As.map (cv ad))
  | [], _, _, _, h => by simp [entL] at h
  | .inl z :: r, k, 0, v, h => by
    have h1 : vi z = v := by simpa [entL] using h
    subst h1
    simp [lv_args, cv]
  | .inl z :: r, k, i + 1, v, h => by
    have h1 : (entL r)[i]? = some (some v) := by simpa [entL] using h
    have := entL_args ad r (k + 1) i v h1
    simp only [List.map_cons, lv_args]
    rw [if_neg (by simp [cv_cat, catv])]
    exact List.mem_cons_of_mem _ (by rwa [show k + 1 + i = k + (i + 1) by omega] at this)
  | .inr (.inr p) :: r, k, 0, v, h => by
    have h1 : vr p = v := by simpa [entL] using h
    subst h1
    simp [lv_args, cv]
  | .inr (.inr p) :: r, k, i + 1, v, h => by
    have h1 : (entL r)[i]? = some (some v) := by simpa [entL] using h
    have := entL_args ad r (k + 1) i v h1
    simp only [List.map_cons, lv_args]
    rw [if_neg (by simp [cv_cat, catv])]
    exact List.mem_cons_of_mem _ (by rwa [show k + 1 + i = k + (i + 1) by omega] at this)
  | .inr (.inl x) :: r, k, 0, v, h => by
    have h1 : vl x = v := by simpa [entL] using h
    subst h1
    simp [lv_args, cv]
  | .inr (.inl x) :: r, k, 1, v, h => by simp [entL] at h
  | .inr (.inl x) :: r, k, i + 2, v, h => by
    have h1 : (entL r)[i]? = some (some v) := by simpa [entL] using h
    have := entL_args ad r (k + 2) i v h1
    simp only [List.map_cons, lv_args]
    rw [if_pos (by simp [cv_cat, catv])]
    exact List.mem_cons_of_mem _ (by rwa [show k + 2 + i = k + (i + 2) by omega] at this)
theorem entL_len (ad : Nat → Nat) : ∀ (As : List AV), (lg_sl (As.map (cv ad))).length = (entL As).length
  | [] => rfl
  | .inl z :: r => by simp [lg_sl, entL, cv_cat, catv]; have := entL_len ad r; simp [lg_sl] at this; omega
  | .inr (.inr p) :: r => by simp [lg_sl, entL, cv_cat, catv]; have := entL_len ad r; simp [lg_sl] at this; omega
  | .inr (.inl x) :: r => by simp [lg_sl, entL, cv_cat, catv]; have := entL_len ad r; simp [lg_sl] at this; omega
theorem LR.entry {ad : Nat → Nat} {As : List AV} {n : Nat} {ls : Array Slot} (h : lv_has ls n (lv_args 0 (As.map (cv ad)))) : LR ad (padL n (entL As)) n ls := by
  refine ⟨h.1, h.2.1, fun i v hv => ?_⟩
  unfold padL at hv
  by_cases hi : i < (entL As).length
  · rw [List.getElem?_append_left hi] at hv
    have := h.2.2 _ (entL_args ad As 0 i v hv)
    simpa using this
  · rw [List.getElem?_append_right (by omega)] at hv
    have := List.eq_of_mem_replicate (List.mem_of_getElem? hv)
    cases this
