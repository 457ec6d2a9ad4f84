/-! MODULE 58: objects are made: an abstract run whose world grows (1000: null). -/
def slN (ad : Nat → Nat) (g : Nat → Int) (j : Nat) (o : Option Nat) : Value := match o with
  | none => .int (Int32.ofInt (g j))
  | some p => if p = 1000 then .null else .ref (ad p)
def fvN (ad : Nat → Nat) (g : Nat → Int) : Nat → List (Option Nat) → List Value
  | _, [] => []
  | k, o :: r => slN ad g k o :: fvN ad g (k + 1) r
theorem fvN_get (ad : Nat → Nat) (g : Nat → Int) : ∀ (L : List (Option Nat)) (k0 j : Nat), (fvN ad g k0 L)[j]? = (L[j]?).map (slN ad g (k0 + j))
  | [], _, _ => by simp [fvN]
  | o :: r, k0, 0 => by simp [fvN]
  | o :: r, k0, j + 1 => by
    have := fvN_get ad g r (k0 + 1) j
    simpa [fvN, Nat.add_assoc, Nat.add_comm, Nat.add_left_comm] using this
theorem fvN_len (ad : Nat → Nat) (g : Nat → Int) : ∀ (L : List (Option Nat)) (k0 : Nat), (fvN ad g k0 L).length = L.length
  | [], _ => rfl
  | o :: r, k0 => by simp [fvN, fvN_len ad g r]
theorem fvN_set {ad : Nat → Nat} {g g' : Nat → Int} {L : List (Option Nat)} {k : Nat} {o : Option Nat} (hg : ∀ j, j ≠ k → g' j = g j) : (fvN ad g 0 L).set k (slN ad g' k o) = fvN ad g' 0 (L.set k o) := by
  apply List.ext_getElem?
  intro j
  rw [List.getElem?_set, fvN_get, fvN_get, List.getElem?_set, fvN_len]
  by_cases h : k = j
  · subst h
    rw [if_pos rfl, if_pos rfl]
    by_cases hl : k < L.length
    · rw [if_pos hl, if_pos hl]; simp
    · rw [if_neg hl, if_neg hl]; rfl
  · rw [if_neg h, if_neg h]
    congr 1
    funext o2
    unfold slN
    cases o2 with
    | none => rw [Nat.zero_add, hg j (fun z => h z.symm)]
    | some p => rfl
def acN (ad : Nat → Nat) (kd : Nat → ClassId) (M : Mem) (p : Nat) (sh : Sh) : va_E := match sh with
  | .inl (t, n) => .inl (kd t, aca (M.1 p) (M.2 p) t n)
  | .inr (ci, L) => .inr (ci, fvN ad (M.1 p) 0 L)
def wlN (ad : Nat → Nat) (kd : Nat → ClassId) (M : Mem) : Nat → List Sh → va_W
  | _, [] => []
  | p, sh :: r => (ad p, acN ad kd M p sh) :: wlN ad kd M (p + 1) r
theorem wlN_get (ad : Nat → Nat) (kd : Nat → ClassId) (M : Mem) : ∀ (L : List Sh) (p0 j : Nat), (wlN ad kd M p0 L)[j]? = (L[j]?).map (fun sh => (ad (p0 + j), acN ad kd M (p0 + j) sh))
  | [], _, _ => by simp [wlN]
  | sh :: r, p0, 0 => by simp [wlN]
  | sh :: r, p0, j + 1 => by
    have := wlN_get ad kd M r (p0 + 1) j
    simpa [wlN, Nat.add_assoc, Nat.add_comm, Nat.add_left_comm] using this
theorem wlN_at {ad : Nat → Nat} {kd : Nat → ClassId} {M : Mem} {wd : List Sh} {p : Nat} {sh : Sh} (h : wd[p]? = some sh) : (wlN ad kd M 0 wd)[p]? = some (ad p, acN ad kd M p sh) := by
  rw [wlN_get, h]; simp
theorem acN_eq {ad : Nat → Nat} {kd : Nat → ClassId} {M M' : Mem} {p : Nat} {sh : Sh} (h1 : M'.1 p = M.1 p) (h2 : M'.2 p = M.2 p) : acN ad kd M' p sh = acN ad kd M p sh := by
  rcases sh with ⟨t, n⟩ | ⟨ci, L⟩ <;> simp [acN, h1, h2]
theorem wlN_put {ad : Nat → Nat} {kd : Nat → ClassId} {M M' : Mem} {wd : List Sh} {p : Nat} {sh sh' : Sh} (h : wd[p]? = some sh) (h1 : ∀ p', p' ≠ p → M'.1 p' = M.1 p') (h2 : ∀ p', p' ≠ p → M'.2 p' = M.2 p') : (wlN ad kd M 0 wd).set p (ad p, acN ad kd M' p sh') = wlN ad kd M' 0 (wd.set p sh') := by
  apply List.ext_getElem?
  intro j
  rw [List.getElem?_set, wlN_get, wlN_get, List.getElem?_set]
  have hl : p < (wlN ad kd M 0 wd).length := (List.getElem?_eq_some_iff.mp (wlN_at (M := M) h)).1
  have hl2 : p < wd.length := (List.getElem?_eq_some_iff.mp h).1
  by_cases hj : p = j
  · subst hj
    rw [if_pos rfl, if_pos rfl, if_pos hl, if_pos hl2]
    simp
  · rw [if_neg hj, if_neg hj]
    congr 1
    funext sh2
    rw [acN_eq (h1 _ (by omega)) (h2 _ (by omega))]
theorem wlN_push (ad : Nat → Nat) (kd : Nat → ClassId) (M : Mem) (sh : Sh) : ∀ (L : List Sh) (p0 : Nat), wlN ad kd M p0 (L ++ [sh]) = wlN ad kd M p0 L ++ [(ad (p0 + L.length), acN ad kd M (p0 + L.length) sh)]
  | [], p0 => by simp [wlN]
  | a :: r, p0 => by
    have := wlN_push ad kd M sh r (p0 + 1)
    simp [wlN, this, Nat.add_assoc, Nat.add_comm, Nat.add_left_comm]
def okO (n : Nat) (o : Option Nat) : Bool := match o with
  | none => true
  | some p => Nat.blt p n || Nat.beq p 1000
def okS (n : Nat) (sh : Sh) : Bool := match sh with
  | .inl _ => true
  | .inr (_, L) => L.all (okO n)
def okA (n : Nat) (v : AV) : Bool := match v with
  | .inr (.inr p) => Nat.blt p n
  | _ => true
def okL (n : Nat) (o : Option AV) : Bool := match o with
  | some v => okA n v
  | none => true
theorem fvN_ad {ad ad' : Nat → Nat} {n : Nat} {g : Nat → Int} (h : ∀ p, p < n → ad' p = ad p) {L : List (Option Nat)} (hL : L.all (okO n) = true) (k0 : Nat) : fvN ad' g k0 L = fvN ad g k0 L := by
  apply List.ext_getElem?
  intro j
  rw [fvN_get, fvN_get]
  cases hj : L[j]? with
  | none => rfl
  | some o =>
    have ho := List.all_eq_true.mp hL o (List.mem_of_getElem? hj)
    simp only [Option.map_some]
    congr 1
    unfold slN
    cases o with
    | none => rfl
    | some p =>
      by_cases hp : p = 1000
      · simp only [hp, if_true]
      · simp only [hp, if_false]
        unfold okO at ho
        rw [Bool.or_eq_true] at ho
        rcases ho with ho | ho
        · rw [h p (Nat.le_of_ble_eq_true ho)]
        · exact absurd (Nat.eq_of_beq_eq_true ho) hp
theorem wlN_ad {ad ad' : Nat → Nat} {kd : Nat → ClassId} {M : Mem} {n : Nat} {wd : List Sh} (h : ∀ p, p < n → ad' p = ad p) (hw : wd.all (okS n) = true) (hn : wd.length ≤ n) : wlN ad' kd M 0 wd = wlN ad kd M 0 wd := by
  apply List.ext_getElem?
  intro j
  rw [wlN_get, wlN_get]
  cases hj : wd[j]? with
  | none => rfl
  | some sh =>
    have hjl := (List.getElem?_eq_some_iff.mp hj).1
    have ho := List.all_eq_true.mp hw sh (List.mem_of_getElem? hj)
    simp only [Option.map_some]
    rw [h (0 + j) (by omega)]
    congr 2
    rcases sh with ⟨t, k⟩ | ⟨ci, L⟩
    · rfl
    · show Sum.inr (ci, _) = Sum.inr (ci, _)
      rw [fvN_ad h ho]
theorem cv_ad {ad ad' : Nat → Nat} {n : Nat} (h : ∀ p, p < n → ad' p = ad p) {v : AV} (hv : okA n v = true) : cv ad' v = cv ad v := by
  rcases v with z | x | p
  · rfl
  · rfl
  · show Value.ref (ad' p) = Value.ref (ad p)
    rw [h p (Nat.le_of_ble_eq_true hv)]
theorem st_ad {ad ad' : Nat → Nat} {n : Nat} (h : ∀ p, p < n → ad' p = ad p) {st : List AV} (hv : st.all (okA n) = true) : st.map (cv ad') = st.map (cv ad) :=
  List.map_congr_left (fun v hm => cv_ad h (List.all_eq_true.mp hv v hm))
theorem ls_ad {ad ad' : Nat → Nat} {n nL : Nat} (h : ∀ p, p < n → ad' p = ad p) {ls : List (Option AV)} {als : Array Slot} (hv : ls.all (okL n) = true) (hL : LR ad ls nL als) : LR ad' ls nL als := by
  refine ⟨hL.1, hL.2.1, fun i v hi => ?_⟩
  have := List.all_eq_true.mp hv _ (List.mem_of_getElem? hi)
  rw [cv_ad h this]
  exact hL.2.2 i v hi
abbrev rmN (d mc ms : Nat) : Room := { frames := d, cells := mc, slots := ms, locals := 64 * d }
def pcN (D : va_G) (ad : Nat → Nat) (kd : Nat → ClassId) (wd : List Sh) (As : List AV) (M : Mem) (A : Nat → Prop) : Array Value → State → Prop := fun v U =>
  v = (As.map (cv ad)).toArray ∧ va_P D vwCl (wlN ad kd M 0 wd) U.heap ∧ va_K D vwCl (tysOf kd) U ∧ (∀ w ∈ nestW, va_Nw w U) ∧ va_D A (wlN ad kd M 0 wd) ∧ ∀ a, U.heap.size ≤ a → A a
def qcN (D : va_G) (ad0 : Nat → Nat) (kd : Nat → ClassId) (n0 : Nat) (wd2 : List Sh) (M2 : Mem) (A : Nat → Prop) : Array Value → State → Outcome → State → Prop := fun _ st oc t =>
  oc = .returned none ∧ (∃ ad' : Nat → Nat, (∀ p, p < n0 → ad' p = ad0 p) ∧ va_P D vwCl (wlN ad' kd M2 0 wd2) t.heap ∧ va_D A (wlN ad' kd M2 0 wd2)) ∧ va_F A st t
/-- a constructor y: from the world wd to wd2, with so many cells and slots -/
def WN (wd : List Sh) (M : Mem) (As : List AV) (wd2 : List Sh) (M2 : Mem) (d mc ms : Nat) (y : MD) : Prop :=
  ∀ (l : Launch) (D : va_G) (ad : Nat → Nat) (kd : Nat → ClassId) (A : Nat → Prop), Met l y.1 (wsOf y) (rmN d mc ms) (pcN D ad kd wd As M A) (qcN D ad kd wd.length wd2 M2 A) mc ms A
def CxN (p : Program) (s : State) (m : MethodId) (args : Array Value) (meth : Method) (c : Code) (D : va_G) (kd : Nat → ClassId) (q : MD) : Prop :=
  p.tables.exec = Jvm.exec ∧ c.code = q.2.1 ∧ c.maxLocals = q.2.2.1 ∧ meth.sig.returnType = q.2.2.2 ∧ meth.locks = false ∧ s.vm.findClass q.1.cls = some m.cls ∧ (∀ w ∈ wsOf q, w.before args s = true) ∧ (∀ w ∈ nestW, va_Nw w s) ∧ va_K D vwCl (tysOf kd) s ∧ meth.name = q.1.name
theorem CxN.good {p : Program} {s : State} {m : MethodId} {args : Array Value} {meth : Method} {c : Code} {D : va_G} {kd : Nat → ClassId} {q : MD} (X : CxN p s m args meth c D kd q) : ∀ w ∈ goodTbl, w.before args s = true :=
  fun w hw => X.2.2.2.2.2.2.1 w (List.mem_cons_of_mem _ hw)
def GN (n0 : Nat) (wd2 : List Sh) (M2 : Mem) (q : MD) (d mc ms pc kc ks : Nat) (ls : List (Option AV)) (st : List AV) (wd : List Sh) (M : Mem) : Prop :=
  ∀ (p : Program) (l : Launch) (e : Jvm.Env) (s : State) (m : MethodId) (args : Array Value) (below : List Frame) (meth : Method) (c : Code) (D : va_G) (kd : Nat → ClassId), CxN p s m args meth c D kd q → ∀ (A : Nat → Prop), (∀ a, s.heap.size ≤ a → A a) → ∀ (ad0 ad : Nat → Nat), (∀ p, p < n0 → ad p = ad0 p) →
  ∀ (H : Heap) (locs : List Loc) (als : Array Slot), va_P D vwCl (wlN ad kd M 0 wd) H → va_D A (wlN ad kd M 0 wd) → va_S A s.heap H locs → LR ad ls q.2.2.1 als →
  W p l e (rmN d mc ms) s m args below meth c H locs kc ks (MQ below (qcN D ad0 kd n0 wd2 M2 A) args s mc ms A) (F0 m pc als (st.map (cv ad)))
theorem wn_of {wd wd2 : List Sh} {M M2 : Mem} {As : List AV} {d mc ms : Nat} {y : MD} (hy : plainName y.1.cls = true) (hn : (entL As).length ≤ y.2.2.1) (h : GN wd.length wd2 M2 y d mc ms 0 0 0 (padL y.2.2.1 (entL As)) [] wd M) : WN wd M As wd2 M2 d mc ms y := by
  intro l D ad kd A
  refine Met.ofW (cc := y.2.1) (maxL := y.2.2.1) (ret := y.2.2.2) hy rfl ?_
  intro p e s m args below meth c s₁ B hml hv
  obtain ⟨rfl, hP, hK, hN, hD, hA⟩ := hv
  have hl := lv_entry (As.map (cv ad)) (n := y.2.2.1) (by rw [entL_len]; exact hn)
  rw [lg_entry_eq]
  exact h p l e s m _ below meth c D kd ⟨B.exec, B.bytes, hml, B.returns, B.notSynchronized, findClass_of_methodNamed B.named, atoms_spec (ws := wsOf y) B.pre, hN, hK, (name_of_methodNamed B.named B.method).1⟩ A hA ad ad (fun _ _ => rfl) s.heap [] _ hP hD va_S.rf (LR.entry hl)
theorem ofN {n : Nat} (h : n < 2147483648) : ¬ Int32.ofInt (n : Int) < 0 ∧ (Int32.ofInt (n : Int)).toNatClampNeg = n := by
  have e : (Int32.ofInt (n : Int)).toNatClampNeg = ((n : Int)).toNat := Int32.toNatClampNeg_ofInt_of_le (by omega) (by simpa using (by omega : (n : Int) < 2147483648))
  refine ⟨fun hz => ?_, by rw [e]; simp⟩
  rw [← o_0, o_lt (by omega) (by omega) (by omega) (by omega)] at hz
  omega
section ROWSN
variable {n0 : Nat} {wd2 : List Sh} {M2 : Mem} {q : MD} {d mc ms pc kc ks : Nat} {ls ls' : List (Option AV)} {st rest : List AV} {wd : List Sh} {M : Mem}

theorem n_iconst {n : Int} (hd : decode q.2.1 pc = .ok (.iconst n, 1)) (kk : GN n0 wd2 M2 q d mc ms (pc + 1) kc ks ls (vi n :: st) wd M) : GN n0 wd2 M2 q d mc ms pc kc ks ls st wd M :=
  fun p l e s m args below meth c D kd X A hA ad0 ad had H locs als hP hD hS hL => lv_iconst X.1 X.2.1 hd rfl (kk p l e s m args below meth c D kd X A hA ad0 ad had H locs als hP hD hS hL)
theorem n_bipush {n : Int} (hd : decode q.2.1 pc = .ok (.bipush n, 2)) (hv : (Int8.ofInt n).toInt32 = Int32.ofInt n) (kk : GN n0 wd2 M2 q d mc ms (pc + 2) kc ks ls (vi n :: st) wd M) : GN n0 wd2 M2 q d mc ms pc kc ks ls st wd M :=
  fun p l e s m args below meth c D kd X A hA ad0 ad had H locs als hP hD hS hL => lv_bipush X.1 X.2.1 hd hv (kk p l e s m args below meth c D kd X A hA ad0 ad had H locs als hP hD hS hL)
theorem n_sipush {n : Int} (hd : decode q.2.1 pc = .ok (.sipush n, 3)) (hv : (Int16.ofInt n).toInt32 = Int32.ofInt n) (kk : GN n0 wd2 M2 q d mc ms (pc + 3) kc ks ls (vi n :: st) wd M) : GN n0 wd2 M2 q d mc ms pc kc ks ls st wd M :=
  fun p l e s m args below meth c D kd X A hA ad0 ad had H locs als hP hD hS hL => lv_sipush X.1 X.2.1 hd hv (kk p l e s m args below meth c D kd X A hA ad0 ad had H locs als hP hD hS hL)
theorem n_ldc {idx : Nat} {v : Int32} {z : Int} (hd : decode q.2.1 pc = .ok (.ldc idx, 2)) (hc : Cond.constant q.1.cls idx v ∈ goodTbl) (hv : v = Int32.ofInt z) (kk : GN n0 wd2 M2 q d mc ms (pc + 2) kc ks ls (vi z :: st) wd M) : GN n0 wd2 M2 q d mc ms pc kc ks ls st wd M :=
  fun p l e s m args below meth c D kd X A hA ad0 ad had H locs als hP hD hS hL => lv_ldc X.1 X.2.1 X.2.2.2.2.2.1 (X.good _ hc) hd (by rw [hv]; exact kk p l e s m args below meth c D kd X A hA ad0 ad had H locs als hP hD hS hL)
theorem n_aload_n {k : Fin 4} {i : Nat} {x : Nat} (hd : decode q.2.1 pc = .ok (.aload_n k, 1)) (hi : (k : Nat) = i) (hl : ls[i]? = some (some (vr x))) (kk : GN n0 wd2 M2 q d mc ms (pc + 1) kc ks ls (vr x :: st) wd M) : GN n0 wd2 M2 q d mc ms pc kc ks ls st wd M :=
  fun p l e s m args below meth c D kd X A hA ad0 ad had H locs als hP hD hS hL => lv_aload_n X.1 X.2.1 hd hi (hL.2.2 i (vr x) hl) (kk p l e s m args below meth c D kd X A hA ad0 ad had H locs als hP hD hS hL)
theorem n_iload_n {k : Fin 4} {i : Nat} {x : Int} (hd : decode q.2.1 pc = .ok (.iload_n k, 1)) (hi : (k : Nat) = i) (hl : ls[i]? = some (some (vi x))) (kk : GN n0 wd2 M2 q d mc ms (pc + 1) kc ks ls (vi x :: st) wd M) : GN n0 wd2 M2 q d mc ms pc kc ks ls st wd M :=
  fun p l e s m args below meth c D kd X A hA ad0 ad had H locs als hP hD hS hL => lv_iload_n X.1 X.2.1 hd hi (hL.2.2 i (vi x) hl) (kk p l e s m args below meth c D kd X A hA ad0 ad had H locs als hP hD hS hL)
theorem n_iload {i : Nat} {x : Int} (hd : decode q.2.1 pc = .ok (.iload i, 2)) (hl : ls[i]? = some (some (vi x))) (kk : GN n0 wd2 M2 q d mc ms (pc + 2) kc ks ls (vi x :: st) wd M) : GN n0 wd2 M2 q d mc ms pc kc ks ls st wd M :=
  fun p l e s m args below meth c D kd X A hA ad0 ad had H locs als hP hD hS hL => lv_iload X.1 X.2.1 hd (hL.2.2 i (vi x) hl) (kk p l e s m args below meth c D kd X A hA ad0 ad had H locs als hP hD hS hL)
theorem n_istore_n {k : Fin 4} {i : Nat} {z : Int} (hd : decode q.2.1 pc = .ok (.istore_n k, 1)) (hi : (k : Nat) = i) (hn : i < q.2.2.1) (hl : st1 ls i (vi z) = ls') (kk : GN n0 wd2 M2 q d mc ms (pc + 1) kc ks ls' st wd M) : GN n0 wd2 M2 q d mc ms pc kc ks ls (vi z :: st) wd M :=
  fun p l e s m args below meth c D kd X A hA ad0 ad had H locs als hP hD hS hL => lv_istore_n X.1 X.2.1 hd hi hL.has hn rfl (fun als' h' => kk p l e s m args below meth c D kd X A hA ad0 ad had H locs als' hP hD hS (hl ▸ LR.st1 (v := vi z) rfl h'))
theorem n_istore {i : Nat} {z : Int} (hd : decode q.2.1 pc = .ok (.istore i, 2)) (hn : i < q.2.2.1) (hl : st1 ls i (vi z) = ls') (kk : GN n0 wd2 M2 q d mc ms (pc + 2) kc ks ls' st wd M) : GN n0 wd2 M2 q d mc ms pc kc ks ls (vi z :: st) wd M :=
  fun p l e s m args below meth c D kd X A hA ad0 ad had H locs als hP hD hS hL => lv_istore X.1 X.2.1 hd hL.has hn rfl (fun als' h' => kk p l e s m args below meth c D kd X A hA ad0 ad had H locs als' hP hD hS (hl ▸ LR.st1 (v := vi z) rfl h'))
theorem n_dup {v : AV} (hd : decode q.2.1 pc = .ok (.dup, 1)) (hc : catv v = 1) (kk : GN n0 wd2 M2 q d mc ms (pc + 1) kc ks ls (v :: v :: st) wd M) : GN n0 wd2 M2 q d mc ms pc kc ks ls (v :: st) wd M :=
  fun p l e s m args below meth c D kd X A hA ad0 ad had H locs als hP hD hS hL => lv_dup X.1 X.2.1 hd (by rw [cv_cat]; exact hc) (kk p l e s m args below meth c D kd X A hA ad0 ad had H locs als hP hD hS hL)
theorem n_goto {off : Int} {tgt : Nat} (hd : decode q.2.1 pc = .ok (.goto off, 3)) (ht : (pc : Int) + off = (tgt : Int)) (kk : GN n0 wd2 M2 q d mc ms tgt kc ks ls st wd M) : GN n0 wd2 M2 q d mc ms pc kc ks ls st wd M :=
  fun p l e s m args below meth c D kd X A hA ad0 ad had H locs als hP hD hS hL => lv_goto X.1 X.2.1 hd ht (kk p l e s m args below meth c D kd X A hA ad0 ad had H locs als hP hD hS hL)
theorem n_imul {a b : Int} (hd : decode q.2.1 pc = .ok (.imul, 1)) (kk : GN n0 wd2 M2 q d mc ms (pc + 1) kc ks ls (vi (a * b) :: st) wd M) : GN n0 wd2 M2 q d mc ms pc kc ks ls (vi b :: vi a :: st) wd M :=
  fun p l e s m args below meth c D kd X A hA ad0 ad had H locs als hP hD hS hL => lv_imul X.1 X.2.1 hd (by rw [← Int32.ofInt_mul]; exact kk p l e s m args below meth c D kd X A hA ad0 ad had H locs als hP hD hS hL)
theorem n_iinc {i : Nat} {n z : Int} (hd : decode q.2.1 pc = .ok (.iinc i n, 3)) (hg : ls[i]? = some (some (vi z))) (hl : st1 ls i (vi (z + n)) = ls') (kk : GN n0 wd2 M2 q d mc ms (pc + 3) kc ks ls' st wd M) : GN n0 wd2 M2 q d mc ms pc kc ks ls st wd M := by
  intro p l e s m args below meth c D kd X A hA ad0 ad had H locs als hP hD hS hL
  obtain ⟨k, hk⟩ := List.getElem?_of_mem (lvOf_mem (ad := ad) hg)
  exact lv_iinc (k := k) (x := Int32.ofInt z) (v := Int32.ofInt (z + n)) X.1 X.2.1 hd hL.has hk (by rw [Int32.ofInt_add]) (hL.lt hg) rfl (fun als' h' => kk p l e s m args below meth c D kd X A hA ad0 ad had H locs als' hP hD hS (hl ▸ LR.st1 (v := vi (z + n)) rfl h'))
theorem n_icmp_ge {a b off : Int} {tgt : Nat} (hd : decode q.2.1 pc = .ok (.if_icmp .ge off, 3)) (ht : (pc : Int) + off = (tgt : Int)) (kt : b ≤ a → GN n0 wd2 M2 q d mc ms tgt kc ks ls st wd M) (kf : ¬ b ≤ a → GN n0 wd2 M2 q d mc ms (pc + 3) kc ks ls st wd M) (h1 : -2147483648 ≤ a := by omega) (h2 : a < 2147483648 := by omega) (h3 : -2147483648 ≤ b := by omega) (h4 : b < 2147483648 := by omega) : GN n0 wd2 M2 q d mc ms pc kc ks ls (vi b :: vi a :: st) wd M :=
  fun p l e s m args below meth c D kd X A hA ad0 ad had H locs als hP hD hS hL => lv_icmp_ge X.1 X.2.1 hd ht (fun h => kt ((o_le h3 h4 h1 h2).mp h) p l e s m args below meth c D kd X A hA ad0 ad had H locs als hP hD hS hL) (fun h => kf (fun z => h ((o_le h3 h4 h1 h2).mpr z)) p l e s m args below meth c D kd X A hA ad0 ad had H locs als hP hD hS hL)
theorem n_getr {idx ci k N p p' : Nat} {C : String} {T : u_T} {fds : List (Option Nat)} (hd : decode q.2.1 pc = .ok (.getfield idx, 3)) (hf : FOK q.1.cls idx ci k C T N) (hp : wd[p]? = some (.inr (ci, fds))) (hk : fds[k]? = some (some p')) (hp' : p' ≠ 1000) (kk : GN n0 wd2 M2 q d mc ms (pc + 3) kc ks ls (vr p' :: st) wd M) : GN n0 wd2 M2 q d mc ms pc kc ks ls (vr p :: st) wd M := by
  intro p0 l e s m args below meth c D kd X A hA ad0 ad had H locs als hP hD hS hL
  obtain ⟨hc, hT, hN, hlink⟩ := hf
  have he : (wlN ad kd M 0 wd)[p]? = some (ad p, .inr (ci, fvN ad (M.1 p) 0 fds)) := wlN_at hp
  have hv : (fvN ad (M.1 p) 0 fds)[k]? = some (.ref (ad p')) := by
    rw [fvN_get, hk]
    simp [slN, hp']
  have hin := (clsOK ci C T N hc).1
  have kw := kk p0 l e s m args below meth c D kd X A hA ad0 ad had H locs als hP hD hS hL
  rcases hlink with hl | ⟨host, hl⟩
  · exact va_get X.1 X.2.1 X.good hin X.2.2.2.2.2.1 X.2.2.2.2.2.2.2.2.1 hP p he hc k hN (X.good _ hl) (fun x h => by rwa [hT] at h) hv hd kw
  · exact va_getN X.1 X.2.1 X.good hin X.2.2.2.2.2.1 X.2.2.2.2.2.2.2.2.1 hP p he hc k hN (va_Nw.use rfl (X.2.2.2.2.2.2.2.1 _ hl)) (fun x h => by rwa [hT] at h) hv hd kw
theorem n_putr {idx ci k N p p' : Nat} {C : String} {T : u_T} {fds : List (Option Nat)} {ty : FieldType} (hd : decode q.2.1 pc = .ok (.putfield idx, 3)) (hf : FOK q.1.cls idx ci k C T N) (hl : Cond.fieldLink q.1.cls idx C (T k).2.1 (T k).2.2.1 ∈ goodTbl) (hini : q.1.name = "<init>") (hdecl : (T k).1 = q.1.cls) (hty : parseFieldDescriptor (T k).2.2.1 = some ty) (hn : ∀ a, narrow ty (.ref a) = .ref a) (hfit : ∀ a, fits ty (.ref a) = true) (hp : wd[p]? = some (.inr (ci, fds))) (hk : k < fds.length) (hp' : p' ≠ 1000) (kk : GN n0 wd2 M2 q d mc ms (pc + 3) kc ks ls st (wd.set p (.inr (ci, fds.set k (some p')))) M) : GN n0 wd2 M2 q d mc ms pc kc ks ls (vr p' :: vr p :: st) wd M := by
  intro p0 l e s m args below meth c D kd X A hA ad0 ad had H locs als hP hD hS hL
  obtain ⟨hc, hT, hN, hlink⟩ := hf
  have he : (wlN ad kd M 0 wd)[p]? = some (ad p, .inr (ci, fvN ad (M.1 p) 0 fds)) := wlN_at hp
  obtain ⟨hin, ⟨ty0, hty0⟩, hnm⟩ := clsOK ci C T N hc
  have hset : (wlN ad kd M 0 wd).set p (ad p, .inr (ci, (fvN ad (M.1 p) 0 fds).set k (.ref (ad p')))) = wlN ad kd M 0 (wd.set p (.inr (ci, fds.set k (some p')))) := by
    rw [show (Value.ref (ad p')) = slN ad (M.1 p) k (some p') by simp [slN, hp'], fvN_set (fun _ _ => rfl)]
    exact wlN_put (ad := ad) (kd := kd) (M := M) (M' := M) (sh' := .inr (ci, fds.set k (some p'))) hp (fun _ _ => rfl) (fun _ _ => rfl)
  have kw : ∀ (H1 : Heap) (locs1 : List Loc), va_P D vwCl ((wlN ad kd M 0 wd).set p (ad p, .inr (ci, (fvN ad (M.1 p) 0 fds).set k (.ref (ad p'))))) H1 → va_D A ((wlN ad kd M 0 wd).set p (ad p, .inr (ci, (fvN ad (M.1 p) 0 fds).set k (.ref (ad p'))))) → va_S A s.heap H1 locs1 → W p0 l e (rmN d mc ms) s m args below meth c H1 locs1 kc ks (MQ below (qcN D ad0 kd n0 wd2 M2 A) args s mc ms A) (F0 m (pc + 3) als (st.map (cv ad))) := by
    intro H1 locs1 hP1 hD1 hS1
    rw [hset] at hP1 hD1
    exact kk p0 l e s m args below meth c D kd X A hA ad0 ad had H1 locs1 als hP1 hD1 hS1 hL
  by_cases hfin : (T k).2.2.2 = true
  · exact va_putF X.1 X.2.1 X.good hin ty0 hty0 hnm X.2.2.2.2.2.1 X.2.2.2.2.2.2.2.2.1 hP hD hS p he hc k hN (X.good _ hl) (fun x h => by rwa [hT] at h) hfin (X.2.2.2.2.2.2.2.2.2.trans hini) hdecl hty (hn _) (hfit _) (by rw [fvN_len]; exact hk) hd kw
  · exact va_put X.1 X.2.1 X.good hin ty0 hty0 hnm X.2.2.2.2.2.1 X.2.2.2.2.2.2.2.2.1 hP hD hS p he hc k hN (X.good _ hl) (fun x h => by rwa [hT] at h) (Bool.eq_false_iff.mpr hfin) hty (hn _) (hfit _) (by rw [fvN_len]; exact hk) hd kw
theorem n_putg {idx ci k N p : Nat} {C : String} {T : u_T} {fds : List (Option Nat)} {z : Int} {ty : FieldType} (hd : decode q.2.1 pc = .ok (.putfield idx, 3)) (hf : FOK q.1.cls idx ci k C T N) (hp : wd[p]? = some (.inr (ci, fds))) (hk : fds[k]? = some none) (hfin : (T k).2.2.2 = false) (hty : parseFieldDescriptor (T k).2.2.1 = some ty) (hn : narrow ty (.int (Int32.ofInt z)) = .int (Int32.ofInt z)) (hfit : fits ty (.int (Int32.ofInt z)) = true) (kk : GN n0 wd2 M2 q d mc ms (pc + 3) kc ks ls st wd (si M p k z)) : GN n0 wd2 M2 q d mc ms pc kc ks ls (vi z :: vr p :: st) wd M := by
  intro p0 l e s m args below meth c D kd X A hA ad0 ad had H locs als hP hD hS hL
  obtain ⟨hc, hT, hN, hlink⟩ := hf
  have he : (wlN ad kd M 0 wd)[p]? = some (ad p, .inr (ci, fvN ad (M.1 p) 0 fds)) := wlN_at hp
  obtain ⟨hin, ⟨ty0, hty0⟩, hnm⟩ := clsOK ci C T N hc
  have hlen : k < (fvN ad (M.1 p) 0 fds).length := by rw [fvN_len]; exact (List.getElem?_eq_some_iff.mp hk).1
  have hL2 : fds.set k none = fds := by
    apply List.ext_getElem?
    intro j
    rw [List.getElem?_set]
    by_cases h : k = j
    · subst h
      rw [if_pos rfl, if_pos (List.getElem?_eq_some_iff.mp hk).1, hk]
    · rw [if_neg h]
  have hW2 : wd.set p (.inr (ci, fds)) = wd := by
    apply List.ext_getElem?
    intro j
    rw [List.getElem?_set]
    by_cases h : p = j
    · subst h
      rw [if_pos rfl, if_pos (List.getElem?_eq_some_iff.mp hp).1, hp]
    · rw [if_neg h]
  have hset : (wlN ad kd M 0 wd).set p (ad p, .inr (ci, (fvN ad (M.1 p) 0 fds).set k (.int (Int32.ofInt z)))) = wlN ad kd (si M p k z) 0 wd := by
    rw [show (Value.int (Int32.ofInt z)) = slN ad ((si M p k z).1 p) k none by simp [slN, si], fvN_set (g' := (si M p k z).1 p) (fun j hj => by simp [si, hj]), hL2]
    have := wlN_put (ad := ad) (kd := kd) (M := M) (M' := si M p k z) (sh' := .inr (ci, fds)) hp (fun p' h => si_1 M p k z p' h) (fun _ _ => rfl)
    rw [hW2] at this
    exact this
  have kw : ∀ (H1 : Heap) (locs1 : List Loc), va_P D vwCl ((wlN ad kd M 0 wd).set p (ad p, .inr (ci, (fvN ad (M.1 p) 0 fds).set k (.int (Int32.ofInt z))))) H1 → va_D A ((wlN ad kd M 0 wd).set p (ad p, .inr (ci, (fvN ad (M.1 p) 0 fds).set k (.int (Int32.ofInt z))))) → va_S A s.heap H1 locs1 → W p0 l e (rmN d mc ms) s m args below meth c H1 locs1 kc ks (MQ below (qcN D ad0 kd n0 wd2 M2 A) args s mc ms A) (F0 m (pc + 3) als (st.map (cv ad))) := by
    intro H1 locs1 hP1 hD1 hS1
    rw [hset] at hP1 hD1
    exact kk p0 l e s m args below meth c D kd X A hA ad0 ad had H1 locs1 als hP1 hD1 hS1 hL
  rcases hlink with hl | ⟨host, hl⟩
  · exact va_put X.1 X.2.1 X.good hin ty0 hty0 hnm X.2.2.2.2.2.1 X.2.2.2.2.2.2.2.2.1 hP hD hS p he hc k hN (X.good _ hl) (fun x h => by rwa [hT] at h) hfin hty hn hfit hlen hd kw
  · exact va_putN X.1 X.2.1 X.good hin ty0 hty0 hnm X.2.2.2.2.2.1 X.2.2.2.2.2.2.2.2.1 hP hD hS p he hc k hN (va_Nw.use rfl (X.2.2.2.2.2.2.2.1 _ hl)) (fun x h => by rwa [hT] at h) hfin hty hn hfit hlen hd kw
theorem n_bastz {p n : Nat} {z v : Int} (hd : decode q.2.1 pc = .ok (.bastore, 1)) (hp : wd[p]? = some (.inl (2, n))) (hn : n < 2147483648) (kk : GN n0 wd2 M2 q d mc ms (pc + 1) kc ks ls st wd (si M p z.toNat v)) (hv : v = 0 ∨ v = 1 := by omega) (h1 : 0 ≤ z := by omega) (h2 : z < n := by omega) : GN n0 wd2 M2 q d mc ms pc kc ks ls (vi v :: vi z :: vr p :: st) wd M := by
  intro p0 l e s m args below meth c D kd X A hA ad0 ad had H locs als hP hD hS hL
  obtain ⟨hi, hi2⟩ := oi_in h1 h2 (by omega)
  have he : (wlN ad kd M 0 wd)[p]? = some (ad p, .inl (kd 2, n, .inl (fun j => Int32.ofInt (M.1 p j)))) := wlN_at hp
  refine va_zast X.1 X.2.1 X.2.2.2.2.2.2.2.2.1 hP hD hS p 2 he rfl hi hd fun H1 locs1 hP1 hD1 hS1 => ?_
  have hnar : vp_nar .boolean (Int32.ofInt v) = Int32.ofInt v := by rcases hv with rfl | rfl <;> decide
  have hW2 : wd.set p (.inl (2, n)) = wd := by
    apply List.ext_getElem?
    intro j
    rw [List.getElem?_set]
    by_cases h : p = j
    · subst h
      rw [if_pos rfl, if_pos (List.getElem?_eq_some_iff.mp hp).1, hp]
    · rw [if_neg h]
  have e9 := wlN_put (ad := ad) (kd := kd) (M := M) (M' := si M p z.toNat v) (sh' := .inl (2, n)) hp (fun p' h => si_1 M p _ v p' h) (fun _ _ => rfl)
  rw [hW2] at e9
  rw [hi2, hnar, upd_si] at hP1 hD1
  exact kk p0 l e s m args below meth c D kd X A hA ad0 ad had H1 locs1 als (e9 ▸ hP1) (e9 ▸ hD1) hS1 hL
theorem n_newa_int {pn n : Nat} (hd : decode q.2.1 pc = .ok (.newarray .int, 2)) (harr : Cond.arrayClass .int ∈ goodTbl) (hpn : wd.length = pn) (hn : n < 2147483648) (hb : n * componentBytes .int ≤ 536870912) (hc : kc + 1 ≤ mc) (hs : ks + n ≤ ms) (hw : wd.all (okS pn) = true) (hst : st.all (okA pn) = true) (hls : ls.all (okL pn) = true) (hz : M.1 pn = (fun _ => 0) ∧ M.2 pn = (fun _ => 0)) (hn0 : n0 ≤ pn) (kk : GN n0 wd2 M2 q d mc ms (pc + 2) (kc + 1) (ks + n) ls (vr pn :: st) (wd ++ [.inl (0, n)]) M) : GN n0 wd2 M2 q d mc ms pc kc ks ls (vi (n : Int) :: st) wd M := by
  intro p0 l e s m args below meth c D kd X A hA ad0 ad had H locs als hP hD hS hL
  obtain ⟨z1, z2⟩ := ofN hn
  have hK := X.2.2.2.2.2.2.2.2.1
  refine va_newa (atype := .int) (ty := .int) (a0 := (n, .inl fun _ => 0)) X.1 X.2.1 (X.good _ harr) rfl hK hP hD hS hA (fun cA => rfl) z1 z2 hb hc hs hd (fun a cA H1 hK1 hP1 hD1 hS1 => ?_)
  have e1 : s.vm.findClass ("[" ++ (FieldType.int).toString) = some cA := (hK1.2 4 (cA, .int) rfl).2
  have e2 : s.vm.findClass ("[" ++ (FieldType.int).toString) = some (kd 0) := (hK.2 0 (kd 0, .int) rfl).2
  obtain rfl : cA = kd 0 := Option.some.inj (e1.symm.trans e2)
  obtain ⟨ad', hae⟩ : ∃ ad' : Nat → Nat, ad' = fun x => if x = pn then a else ad x := ⟨_, rfl⟩
  have hadl : ∀ x, x < pn → ad' x = ad x := fun x hx => by rw [hae]; exact if_neg (by omega)
  have hada : ad' pn = a := by rw [hae]; exact if_pos rfl
  have hww : wlN ad' kd M 0 (wd ++ [.inl (0, n)]) = wlN ad kd M 0 wd ++ [(a, .inl (kd 0, n, .inl fun _ => 0))] := by
    rw [wlN_push, wlN_ad hadl hw (by omega), Nat.zero_add, hpn, hada]
    congr 2
    show Prod.mk a (Sum.inl (kd 0, aca (M.1 pn) (M.2 pn) 0 n)) = _
    rw [hz.1, hz.2]
    rfl
  rw [← hww] at hP1 hD1
  have k2 := kk p0 l e s m args below meth c D kd X A hA ad0 ad' (fun x hx => (hadl x (by omega)).trans (had x hx)) H1 locs als hP1 hD1 hS1 (ls_ad hadl hls hL)
  rw [List.map_cons, st_ad hadl hst] at k2
  rw [show Value.ref a = cv ad' (vr pn) by show _ = Value.ref (ad' pn); rw [hada]]
  exact k2
theorem n_newa_long {pn n : Nat} (hd : decode q.2.1 pc = .ok (.newarray .long, 2)) (harr : Cond.arrayClass .long ∈ goodTbl) (hpn : wd.length = pn) (hn : n < 2147483648) (hb : n * componentBytes .long ≤ 536870912) (hc : kc + 1 ≤ mc) (hs : ks + n ≤ ms) (hw : wd.all (okS pn) = true) (hst : st.all (okA pn) = true) (hls : ls.all (okL pn) = true) (hz : M.1 pn = (fun _ => 0) ∧ M.2 pn = (fun _ => 0)) (hn0 : n0 ≤ pn) (kk : GN n0 wd2 M2 q d mc ms (pc + 2) (kc + 1) (ks + n) ls (vr pn :: st) (wd ++ [.inl (1, n)]) M) : GN n0 wd2 M2 q d mc ms pc kc ks ls (vi (n : Int) :: st) wd M := by
  intro p0 l e s m args below meth c D kd X A hA ad0 ad had H locs als hP hD hS hL
  obtain ⟨z1, z2⟩ := ofN hn
  have hK := X.2.2.2.2.2.2.2.2.1
  refine va_newa (atype := .long) (ty := .long) (a0 := (n, .inr (.inl fun _ => 0))) X.1 X.2.1 (X.good _ harr) rfl hK hP hD hS hA (fun cA => rfl) z1 z2 hb hc hs hd (fun a cA H1 hK1 hP1 hD1 hS1 => ?_)
  have e1 : s.vm.findClass ("[" ++ (FieldType.long).toString) = some cA := (hK1.2 4 (cA, .long) rfl).2
  have e2 : s.vm.findClass ("[" ++ (FieldType.long).toString) = some (kd 1) := (hK.2 1 (kd 1, .long) rfl).2
  obtain rfl : cA = kd 1 := Option.some.inj (e1.symm.trans e2)
  obtain ⟨ad', hae⟩ : ∃ ad' : Nat → Nat, ad' = fun x => if x = pn then a else ad x := ⟨_, rfl⟩
  have hadl : ∀ x, x < pn → ad' x = ad x := fun x hx => by rw [hae]; exact if_neg (by omega)
  have hada : ad' pn = a := by rw [hae]; exact if_pos rfl
  have hww : wlN ad' kd M 0 (wd ++ [.inl (1, n)]) = wlN ad kd M 0 wd ++ [(a, .inl (kd 1, n, .inr (.inl fun _ => 0)))] := by
    rw [wlN_push, wlN_ad hadl hw (by omega), Nat.zero_add, hpn, hada]
    congr 2
    show Prod.mk a (Sum.inl (kd 1, aca (M.1 pn) (M.2 pn) 1 n)) = _
    rw [hz.1, hz.2]
    rfl
  rw [← hww] at hP1 hD1
  have k2 := kk p0 l e s m args below meth c D kd X A hA ad0 ad' (fun x hx => (hadl x (by omega)).trans (had x hx)) H1 locs als hP1 hD1 hS1 (ls_ad hadl hls hL)
  rw [List.map_cons, st_ad hadl hst] at k2
  rw [show Value.ref a = cv ad' (vr pn) by show _ = Value.ref (ad' pn); rw [hada]]
  exact k2
theorem n_newa_boolean {pn n : Nat} (hd : decode q.2.1 pc = .ok (.newarray .boolean, 2)) (harr : Cond.arrayClass .boolean ∈ goodTbl) (hpn : wd.length = pn) (hn : n < 2147483648) (hb : n * componentBytes .boolean ≤ 536870912) (hc : kc + 1 ≤ mc) (hs : ks + n ≤ ms) (hw : wd.all (okS pn) = true) (hst : st.all (okA pn) = true) (hls : ls.all (okL pn) = true) (hz : M.1 pn = (fun _ => 0) ∧ M.2 pn = (fun _ => 0)) (hn0 : n0 ≤ pn) (kk : GN n0 wd2 M2 q d mc ms (pc + 2) (kc + 1) (ks + n) ls (vr pn :: st) (wd ++ [.inl (2, n)]) M) : GN n0 wd2 M2 q d mc ms pc kc ks ls (vi (n : Int) :: st) wd M := by
  intro p0 l e s m args below meth c D kd X A hA ad0 ad had H locs als hP hD hS hL
  obtain ⟨z1, z2⟩ := ofN hn
  have hK := X.2.2.2.2.2.2.2.2.1
  refine va_newa (atype := .boolean) (ty := .boolean) (a0 := (n, .inl fun _ => 0)) X.1 X.2.1 (X.good _ harr) rfl hK hP hD hS hA (fun cA => rfl) z1 z2 hb hc hs hd (fun a cA H1 hK1 hP1 hD1 hS1 => ?_)
  have e1 : s.vm.findClass ("[" ++ (FieldType.boolean).toString) = some cA := (hK1.2 4 (cA, .boolean) rfl).2
  have e2 : s.vm.findClass ("[" ++ (FieldType.boolean).toString) = some (kd 2) := (hK.2 2 (kd 2, .boolean) rfl).2
  obtain rfl : cA = kd 2 := Option.some.inj (e1.symm.trans e2)
  obtain ⟨ad', hae⟩ : ∃ ad' : Nat → Nat, ad' = fun x => if x = pn then a else ad x := ⟨_, rfl⟩
  have hadl : ∀ x, x < pn → ad' x = ad x := fun x hx => by rw [hae]; exact if_neg (by omega)
  have hada : ad' pn = a := by rw [hae]; exact if_pos rfl
  have hww : wlN ad' kd M 0 (wd ++ [.inl (2, n)]) = wlN ad kd M 0 wd ++ [(a, .inl (kd 2, n, .inl fun _ => 0))] := by
    rw [wlN_push, wlN_ad hadl hw (by omega), Nat.zero_add, hpn, hada]
    congr 2
    show Prod.mk a (Sum.inl (kd 2, aca (M.1 pn) (M.2 pn) 2 n)) = _
    rw [hz.1, hz.2]
    rfl
  rw [← hww] at hP1 hD1
  have k2 := kk p0 l e s m args below meth c D kd X A hA ad0 ad' (fun x hx => (hadl x (by omega)).trans (had x hx)) H1 locs als hP1 hD1 hS1 (ls_ad hadl hls hL)
  rw [List.map_cons, st_ad hadl hst] at k2
  rw [show Value.ref a = cv ad' (vr pn) by show _ = Value.ref (ad' pn); rw [hada]]
  exact k2
theorem n_newa_byte {pn n : Nat} (hd : decode q.2.1 pc = .ok (.newarray .byte, 2)) (harr : Cond.arrayClass .byte ∈ goodTbl) (hpn : wd.length = pn) (hn : n < 2147483648) (hb : n * componentBytes .byte ≤ 536870912) (hc : kc + 1 ≤ mc) (hs : ks + n ≤ ms) (hw : wd.all (okS pn) = true) (hst : st.all (okA pn) = true) (hls : ls.all (okL pn) = true) (hz : M.1 pn = (fun _ => 0) ∧ M.2 pn = (fun _ => 0)) (hn0 : n0 ≤ pn) (kk : GN n0 wd2 M2 q d mc ms (pc + 2) (kc + 1) (ks + n) ls (vr pn :: st) (wd ++ [.inl (3, n)]) M) : GN n0 wd2 M2 q d mc ms pc kc ks ls (vi (n : Int) :: st) wd M := by
  intro p0 l e s m args below meth c D kd X A hA ad0 ad had H locs als hP hD hS hL
  obtain ⟨z1, z2⟩ := ofN hn
  have hK := X.2.2.2.2.2.2.2.2.1
  refine va_newa (atype := .byte) (ty := .byte) (a0 := (n, .inl fun _ => 0)) X.1 X.2.1 (X.good _ harr) rfl hK hP hD hS hA (fun cA => rfl) z1 z2 hb hc hs hd (fun a cA H1 hK1 hP1 hD1 hS1 => ?_)
  have e1 : s.vm.findClass ("[" ++ (FieldType.byte).toString) = some cA := (hK1.2 4 (cA, .byte) rfl).2
  have e2 : s.vm.findClass ("[" ++ (FieldType.byte).toString) = some (kd 3) := (hK.2 3 (kd 3, .byte) rfl).2
  obtain rfl : cA = kd 3 := Option.some.inj (e1.symm.trans e2)
  obtain ⟨ad', hae⟩ : ∃ ad' : Nat → Nat, ad' = fun x => if x = pn then a else ad x := ⟨_, rfl⟩
  have hadl : ∀ x, x < pn → ad' x = ad x := fun x hx => by rw [hae]; exact if_neg (by omega)
  have hada : ad' pn = a := by rw [hae]; exact if_pos rfl
  have hww : wlN ad' kd M 0 (wd ++ [.inl (3, n)]) = wlN ad kd M 0 wd ++ [(a, .inl (kd 3, n, .inl fun _ => 0))] := by
    rw [wlN_push, wlN_ad hadl hw (by omega), Nat.zero_add, hpn, hada]
    congr 2
    show Prod.mk a (Sum.inl (kd 3, aca (M.1 pn) (M.2 pn) 3 n)) = _
    rw [hz.1, hz.2]
    rfl
  rw [← hww] at hP1 hD1
  have k2 := kk p0 l e s m args below meth c D kd X A hA ad0 ad' (fun x hx => (hadl x (by omega)).trans (had x hx)) H1 locs als hP1 hD1 hS1 (ls_ad hadl hls hL)
  rw [List.map_cons, st_ad hadl hst] at k2
  rw [show Value.ref a = cv ad' (vr pn) by show _ = Value.ref (ad' pn); rw [hada]]
  exact k2
theorem n_new {idx ci N pn : Nat} {C : String} {T : u_T} {L : List (Option Nat)} {ty : Nat → FieldType} (hd : decode q.2.1 pc = .ok (.new idx, 3)) (hc : vwCl[ci]? = some (C, T, N)) (hty : ∀ k, k < N → parseFieldDescriptor (T k).2.2.1 = some (ty k)) (hcl : Cond.classLink q.1.cls idx C ∈ goodTbl) (hi : Cond.instantiable C N ∈ goodTbl) (hini : Cond.initialized C ∈ goodTbl) (hLo : L.all (okO 0) = true) (hfs : ∀ ad j, j < N → defaultValue (ty j) = vp_V (fvN ad (fun _ => 0) 0 L) j) (hpn : wd.length = pn) (hcc : kc + 1 ≤ mc) (hss : ks + N ≤ ms) (hw : wd.all (okS pn) = true) (hst : st.all (okA pn) = true) (hls : ls.all (okL pn) = true) (hz : M.1 pn = (fun _ => 0)) (hn0 : n0 ≤ pn) (kk : GN n0 wd2 M2 q d mc ms (pc + 3) (kc + 1) (ks + N) ls (vr pn :: st) (wd ++ [.inr (ci, L)]) M) : GN n0 wd2 M2 q d mc ms pc kc ks ls st wd M := by
  intro p0 l e s m args below meth c D kd X A hA ad0 ad had H locs als hP hD hS hL
  refine va_new (fs := fvN ad (fun _ => 0) 0 L) X.1 X.2.1 X.good (clsOK ci C T N hc).1 ty hty X.2.2.2.2.2.1 (X.good _ hcl) (X.good _ hi) (X.good _ hini) X.2.2.2.2.2.2.2.2.1 hP hD hS hA hc (hfs ad) hcc hss hd (fun a H1 hP1 hD1 hS1 => ?_)
  obtain ⟨ad', hae⟩ : ∃ ad' : Nat → Nat, ad' = fun x => if x = pn then a else ad x := ⟨_, rfl⟩
  have hadl : ∀ x, x < pn → ad' x = ad x := fun x hx => by rw [hae]; exact if_neg (by omega)
  have hada : ad' pn = a := by rw [hae]; exact if_pos rfl
  have hww : wlN ad' kd M 0 (wd ++ [.inr (ci, L)]) = wlN ad kd M 0 wd ++ [(a, .inr (ci, fvN ad (fun _ => 0) 0 L))] := by
    rw [wlN_push, wlN_ad hadl hw (by omega), Nat.zero_add, hpn, hada]
    congr 2
    show Prod.mk a (Sum.inr (ci, fvN ad' (M.1 pn) 0 L)) = _
    rw [hz, fvN_ad (ad := ad) (ad' := ad') (n := 0) (fun p hp => absurd hp (by omega)) hLo]
  rw [← hww] at hP1 hD1
  have k2 := kk p0 l e s m args below meth c D kd X A hA ad0 ad' (fun x hx => (hadl x (by omega)).trans (had x hx)) H1 locs als hP1 hD1 hS1 (ls_ad hadl hls hL)
  rw [List.map_cons, st_ad hadl hst] at k2
  rw [show Value.ref a = cv ad' (vr pn) by show _ = Value.ref (ad' pn); rw [hada]]
  exact k2
theorem n_obj {idx x : Nat} (hd : decode q.2.1 pc = .ok (.invokespecial idx, 3)) (hl : Cond.methodLink q.1.cls idx Lib.objectInit ∈ goodTbl) (hi : Cond.instanceMethod Lib.objectInit ∈ goodTbl) (hc : Cond.code Lib.objectInit ⟨#[0xb1]⟩ 1 none ∈ goodTbl) (hdd : 1 ≤ d) (hr : (st.map catv).sum ≤ 8) (kk : GN n0 wd2 M2 q d mc ms (pc + 3) kc ks ls st wd M) : GN n0 wd2 M2 q d mc ms pc kc ks ls (vr x :: st) wd M := by
  intro p0 l e s m args below meth c D kd X A hA ad0 ad had H locs als hP hD hS hL
  refine W.objInit X.1 X.2.1 X.2.2.2.2.2.1 (X.good _ hl) (X.good _ hi) (X.good _ hc) rfl (hL.1.trans X.2.2.1.symm) rfl hd hdd ?_ ?_
  · have e1 := cat_sum (ad := ad) st
    show 2 * 0 + ((st.map (cv ad)).map fun v => v.category).sum + 12 ≤ 64 * d
    rw [e1]; omega
  · exact kk p0 l e s m args below meth c D kd X A hA ad0 ad had H locs als hP hD hS hL
theorem n_vret (hd : decode q.2.1 pc = .ok (.return_, 1)) (hr : q.2.2.2 = none) (h1 : kc = mc) (h2 : ks = ms) (h3 : wd = wd2) (h4 : M = M2) : GN n0 wd2 M2 q d mc ms pc kc ks ls [] wd M := by
  intro p0 l e s m args below meth c D kd X A hA ad0 ad had H locs als hP hD hS hL
  subst h1; subst h2; subst h3; subst h4
  exact W.vret X.1 X.2.1 (X.2.2.2.1.trans hr) (fun t ht _ => ⟨rfl, ⟨ad, had, by rw [ht]; exact hP, hD⟩, hS.F ht⟩) hS.2.2 hd X.2.2.2.2.1
theorem pcN_blind {D : va_G} {ad : Nat → Nat} {kd : Nat → ClassId} {wd1 : List Sh} {As : List AV} {M1 : Mem} {A : Nat → Prop} : FrameBlind (pcN D ad kd wd1 As M1 A) := fun a U g mk ⟨h1, hP, hK, hN, hD, hA⟩ =>
  ⟨h1, hP, va_K.moved (u := U) (U := U.calling g mk a) (Vm.Alike.refl U.vm) hK, fun w hw => va_Nw.same (u := U) (U := U.calling g mk a) (nest_on hw) rfl (hN w hw), hD, hA⟩
/-- a constructor's words -/
def IOK (own : String) (idx : Nat) (y : MD) (n : Nat) : Prop :=
  LOK own idx y ∧ Cond.instanceMethod y.1 ∈ goodTbl ∧ Cond.initialized y.1.cls ∈ goodTbl ∧ Cond.code y.1 y.2.1 y.2.2.1 y.2.2.2 ∈ goodTbl ∧ y.2.2.1 ≤ 45 ∧ (y.1.cls ≠ "java/lang/invoke/MethodHandle" ∧ y.1.cls ≠ "java/lang/invoke/VarHandle" ∧ (parseMethodDescriptor y.1.desc).map (fun d => d.parameters.length) = some n) ∧ y.1.name = "<init>" ∧ y.2.2.2 = none
theorem n_callI {idx n pl d' mc' ms' : Nat} {y : MD} {As : List AV} {wd' : List Sh} {M' : Mem} {pn : Nat} (hd : decode q.2.1 pc = .ok (.invokespecial idx, 3)) (hs : IOK q.1.cls idx y n) (hw : WN wd M (vr pl :: As) wd' M' d' mc' ms' y) (hst : st = As.reverse ++ vr pl :: rest) (hn : As.length = n) (hdd : d' + 1 ≤ d) (hcc : kc + mc' ≤ mc) (hss : ks + ms' ≤ ms) (hpn : wd.length = pn) (hrr : rest.all (okA pn) = true) (hls : ls.all (okL pn) = true) (hn0 : n0 ≤ pn) (hrest : (rest.map catv).sum ≤ 8) (kk : GN n0 wd2 M2 q d mc ms (pc + 3) (kc + mc') (ks + ms') ls rest wd' M') : GN n0 wd2 M2 q d mc ms pc kc ks ls st wd M := by
  intro p0 l e s m args below meth c D kd X A hA ad0 ad had H locs als hP hD hS hL
  obtain ⟨hlink, hinst, hini, hcode, hml, ⟨hm1, hm2, hpar⟩, hnm, hret⟩ := hs
  have hlen : ∀ sig, parseMethodDescriptor y.1.desc = some sig → n = sig.parameters.length := fun sig h => by
    rw [h] at hpar; exact (Option.some.inj hpar).symm
  have hfix : CallFix p0 m c q.2.1 q.2.2.1 s args goodTbl q.1.cls := ⟨X.1, X.2.1, X.2.2.1, X.2.2.2.2.2.1, X.good⟩
  have hstk : (F0 m pc als (st.map (cv ad))).stack = (As.map (cv ad)).reverse ++ .ref (ad pl) :: rest.map (cv ad) := by
    show st.map (cv ad) = _
    rw [hst, List.map_append, List.map_reverse]
    rfl
  have hpre : PreS s H (pcN D ad kd wd (vr pl :: As) M A) (.ref (ad pl) :: As.map (cv ad)) := ⟨pcN_blind, fun U hU hW => ⟨rfl, by rw [hU]; exact hP, va_K.moved hW.alike X.2.2.2.2.2.2.2.2.1, fun w hw => nest_warm hw hW (X.2.2.2.2.2.2.2.1 w hw), hD, fun a ha => hA a (by rw [hU] at ha; exact Nat.le_trans hS.1 ha)⟩⟩
  have hloc : 8 + (y.2.2.1 + 11) + (rmN d' mc' ms').locals ≤ (rmN d mc ms).locals := by show 8 + (y.2.2.1 + 11) + 64 * d' ≤ 64 * d; omega
  have hroom : 2 * (F0 m pc als (st.map (cv ad))).monitorRoom + ((rest.map (cv ad)).map fun v => v.category).sum ≤ 8 := lv_room (by rw [cat_sum]; exact hrest)
  have hpay : ∀ w ∈ wsOf y, ∀ (a' : Array Value) (U : State), s.WarmedH U.vm → w.before a' U = true :=
    pay_in (big := goodTbl) X.good (fun w hw => by
      rcases List.mem_cons.mp hw with rfl | hw
      · exact ⟨hcode, good_of hcode⟩
      · exact ⟨hw, good_of hw⟩)
  have hrun : va_Run p0 l e (rmN d mc ms) s m args below meth c H locs kc ks mc' ms' (F0 m pc als (st.map (cv ad))) (rest.map (cv ad)) (qcN D ad kd wd.length wd' M' A (Value.ref (ad pl) :: As.map (cv ad)).toArray) A := by
    obtain ⟨y1, y2, y3, y4⟩ := y
    obtain rfl : y4 = none := hret
    rcases hlink with hl | ⟨host, hl⟩
    · exact va_runI hfix (hw l D ad kd A) ⟨⟨rfl, rfl, hdd, hloc, hpay, List.mem_cons_self, X.good _ hcode, X.good _ hini, ⟨hm1, hm2⟩, hlen, X.good _ hl⟩, hnm, X.good _ hinst⟩ hpre rfl (by rw [List.length_map]; exact hn) hL.1 hstk hroom hd ⟨hcc, hss⟩
    · exact va_runIN hfix (hw l D ad kd A) ⟨⟨⟨rfl, rfl, hdd, hloc, hpay, List.mem_cons_self⟩, X.good _ hcode, X.good _ hini, ⟨hm1, hm2⟩, hlen, va_Nw.use rfl (X.2.2.2.2.2.2.2.1 _ hl)⟩, hnm, X.good _ hinst⟩ hpre rfl (by rw [List.length_map]; exact hn) hL.1 hstk hroom hd ⟨hcc, hss⟩
  intro T hT XT
  obtain ⟨v, st₀, t, T', L, h0, X', hLL, e1, e2, ⟨hv, ⟨ad', had', hb, hbD⟩, hz, hk⟩, stp⟩ := hrun T hT XT
  have hv : v = none := by injection hv
  subst hv
  rw [h0] at hz hk
  have hadl : ∀ x, x < pn → ad' x = ad x := fun x hx => had' x (by omega)
  have k2 := kk p0 l e s m args below meth c D kd X A hA ad0 ad' (fun x hx => (hadl x (by omega)).trans (had x hx)) T'.heap (locs ++ L) als (by rw [e1]; exact hb) hbD ⟨Nat.le_trans hS.1 (by rw [e1]; exact hz), fun q h1 h2 => by rw [e1, hk q (Nat.lt_of_lt_of_le h1 hS.1) h2]; exact hS.2.1 q h1 h2, fun q hq => by
      rcases List.mem_append.mp hq with h | h
      · exact hS.2.2 q h
      · exact hLL q h⟩ (ls_ad hadl hls hL)
  rw [st_ad hadl hrr] at k2
  obtain ⟨t2, a1, b1⟩ := k2 T' rfl X'
  exact ⟨t2, stp t2 a1, b1⟩
theorem n_max {idx : Nat} {a b : Int} (hd : decode q.2.1 pc = .ok (.invokestatic idx, 3)) (hl : Cond.methodLink q.1.cls idx Lib.Math.max.name ∈ goodTbl) (hdd : 1 ≤ d) (hkc : kc ≤ mc) (hks : ks ≤ ms) (hrest : (st.map catv).sum ≤ 8) (kk : GN n0 wd2 M2 q d mc ms (pc + 3) kc ks ls (vi (max a b) :: st) wd M) (h1 : -2147483648 ≤ a := by omega) (h2 : a < 2147483648 := by omega) (h3 : -2147483648 ≤ b := by omega) (h4 : b < 2147483648 := by omega) : GN n0 wd2 M2 q d mc ms pc kc ks ls (vi b :: vi a :: st) wd M := by
  intro p0 l e s m args below meth c D kd X A hA ad0 ad had H locs als hP hD hS hL
  refine va_mmax X.1 X.2.1 (X.2.2.1.trans hL.1.symm) X.2.2.2.2.2.1 (X.good _ hl) (X.good _ kS_max) (X.good _ kI_math) (X.good _ kC_max) hdd (by rw [cat_sum]; show _ ≤ 64 * d; omega) (by exact hkc) (by exact hks) hd ?_
  have e1 : (if Int32.ofInt a < Int32.ofInt b then Int32.ofInt b else Int32.ofInt a) = Int32.ofInt (max a b) := by
    by_cases hab : a < b
    · rw [if_pos ((o_lt h1 h2 h3 h4).mpr hab), show max a b = b by omega]
    · rw [if_neg (fun z => hab ((o_lt h1 h2 h3 h4).mp z)), show max a b = a by omega]
  rw [e1]
  exact kk p0 l e s m args below meth c D kd X A hA ad0 ad had H locs als hP hD hS hL
theorem n_min {idx : Nat} {a b : Int} (hd : decode q.2.1 pc = .ok (.invokestatic idx, 3)) (hl : Cond.methodLink q.1.cls idx Lib.Math.min.name ∈ goodTbl) (hdd : 1 ≤ d) (hkc : kc ≤ mc) (hks : ks ≤ ms) (hrest : (st.map catv).sum ≤ 8) (kk : GN n0 wd2 M2 q d mc ms (pc + 3) kc ks ls (vi (min a b) :: st) wd M) (h1 : -2147483648 ≤ a := by omega) (h2 : a < 2147483648 := by omega) (h3 : -2147483648 ≤ b := by omega) (h4 : b < 2147483648 := by omega) : GN n0 wd2 M2 q d mc ms pc kc ks ls (vi b :: vi a :: st) wd M := by
  intro p0 l e s m args below meth c D kd X A hA ad0 ad had H locs als hP hD hS hL
  refine va_mmin X.1 X.2.1 (X.2.2.1.trans hL.1.symm) X.2.2.2.2.2.1 (X.good _ hl) (X.good _ kS_min) (X.good _ kI_math) (X.good _ kC_min) hdd (by rw [cat_sum]; show _ ≤ 64 * d; omega) (by exact hkc) (by exact hks) hd ?_
  have e1 : (if Int32.ofInt b < Int32.ofInt a then Int32.ofInt b else Int32.ofInt a) = Int32.ofInt (min a b) := by
    by_cases hab : b < a
    · rw [if_pos ((o_lt h3 h4 h1 h2).mpr hab), show min a b = b by omega]
    · rw [if_neg (fun z => hab ((o_lt h3 h4 h1 h2).mp z)), show min a b = a by omega]
  rw [e1]
  exact kk p0 l e s m args below meth c D kd X A hA ad0 ad had H locs als hP hD hS hL
end ROWSN
