/-! MODULE 3: what it means that a method runs (WP), that it runs on from a frame (G); a row an instruction. -/
def tysOf (kd : Nat → ClassId) : List (ClassId × FieldType) := [(kd 0, .int), (kd 1, .long), (kd 2, .boolean), (kd 3, .byte)]
def AA (ad : Nat → Nat) (wd : List Sh) : Nat → Prop := fun q => ∃ p, p < wd.length ∧ ad p = q
abbrev rmL (d : Nat) : Room := { frames := d, cells := 0, slots := 0, locals := 64 * d }
def pcOf (D : va_G) (ad : Nat → Nat) (kd : Nat → ClassId) (wd : List Sh) (As : List AV) (M : Mem) : Array Value → State → Prop := fun v U =>
  v = (As.map (cv ad)).toArray ∧ va_P D vwCl (wl ad kd M 0 wd) U.heap ∧ va_K D vwCl (tysOf kd) U ∧ (∀ w ∈ nestW, va_Nw w U) ∧ va_D (fun _ => True) (wl ad kd M 0 wd)
def qcOf (D : va_G) (ad : Nat → Nat) (kd : Nat → ClassId) (wd : List Sh) (Post : Option AV → Mem → Prop) : Array Value → State → Outcome → State → Prop := fun _ st oc t =>
  ∃ (v : Option AV) (M' : Mem), Post v M' ∧ oc = .returned (v.map (cv ad)) ∧ va_P D vwCl (wl ad kd M' 0 wd) t.heap ∧ va_F (AA ad wd) st t
/-- method y, at a depth of calls of at most d, from the arguments As and the memory M, comes to its end with Post -/
def WP (wd : List Sh) (d : Nat) (y : MD) (As : List AV) (M : Mem) (Post : Option AV → Mem → Prop) : Prop :=
  ∀ (l : Launch) (D : va_G) (ad : Nat → Nat) (kd : Nat → ClassId), Met l y.1 (wsOf y) (rmL d) (pcOf D ad kd wd As M) (qcOf D ad kd wd Post) 0 0 (AA ad wd)
def Cx (p : Program) (s : State) (m : MethodId) (args : Array Value) (meth : Method) (c : Code) (D : va_G) (ad : Nat → Nat) (kd : Nat → ClassId) (wd : List Sh) (q : MD) : Prop :=
  p.tables.exec = Jvm.exec ∧ c.code = q.2.1 ∧ c.maxLocals = q.2.2.1 ∧ meth.sig.returnType = q.2.2.2 ∧ meth.locks = false ∧ s.vm.findClass q.1.cls = some m.cls ∧ (∀ w ∈ wsOf q, w.before args s = true) ∧ (∀ w ∈ nestW, va_Nw w s) ∧ va_K D vwCl (tysOf kd) s ∧ ∀ M : Mem, va_D (AA ad wd) (wl ad kd M 0 wd)
/-- in method q, at pc, with locals ls, stack st and memory M: the frame runs on to the method's end, with Post -/
def G (wd : List Sh) (q : MD) (d : Nat) (Post : Option AV → Mem → Prop) (pc : Nat) (ls : List (Option AV)) (st : List AV) (M : Mem) : Prop :=
  ∀ (p : Program) (l : Launch) (e : Env) (s : State) (m : MethodId) (args : Array Value) (below : List Frame) (meth : Method) (c : Code) (D : va_G) (ad : Nat → Nat) (kd : Nat → ClassId), Cx p s m args meth c D ad kd wd q →
  ∀ (H : Heap) (locs : List Loc) (als : Array Slot), va_P D vwCl (wl ad kd M 0 wd) H → va_S (AA ad wd) s.heap H locs → LR ad ls q.2.2.1 als →
  W p l e (rmL d) s m args below meth c H locs 0 0 (MQ below (qcOf D ad kd wd Post) args s 0 0 (AA ad wd)) (F0 m pc als (st.map (cv ad)))
theorem wl_D {ad : Nat → Nat} {kd : Nat → ClassId} {wd : List Sh} {A : Nat → Prop} {M : Mem} (h : va_D A (wl ad kd M 0 wd)) (M' : Mem) : va_D A (wl ad kd M' 0 wd) := by
  have key : ∀ (k : Nat) (q : Nat × va_E), (wl ad kd M' 0 wd)[k]? = some q → ∃ q', (wl ad kd M 0 wd)[k]? = some q' ∧ q'.1 = q.1 := by
    intro k q hq
    rw [wl_get] at hq
    cases hw : wd[k]? with
    | none => rw [hw] at hq; cases hq
    | some sh =>
      rw [hw] at hq
      cases hq
      exact ⟨_, wl_at hw, by simp⟩
  refine ⟨fun i j x y hi hj hxy => ?_, fun k q hq => ?_⟩
  · obtain ⟨x', h1, h2⟩ := key i x hi
    obtain ⟨y', h3, h4⟩ := key j y hj
    exact h.1 i j x' y' h1 h3 (by rw [h2, h4, hxy])
  · obtain ⟨q', h1, h2⟩ := key k q hq
    rw [← h2]
    exact h.2 k q' h1
theorem wl_DA {ad : Nat → Nat} {kd : Nat → ClassId} {wd : List Sh} {A : Nat → Prop} {M : Mem} (h : va_D A (wl ad kd M 0 wd)) (M' : Mem) : va_D (AA ad wd) (wl ad kd M' 0 wd) := by
  refine ⟨(wl_D h M').1, fun k q hq => ?_⟩
  rw [wl_get] at hq
  cases hw : wd[k]? with
  | none => rw [hw] at hq; cases hq
  | some sh =>
    rw [hw] at hq
    cases hq
    exact ⟨k, (List.getElem?_eq_some_iff.mp hw).1, by simp⟩
theorem wp_of {wd : List Sh} {d : Nat} {y : MD} {As : List AV} {M : Mem} {Post : Option AV → Mem → Prop} (hy : plainName y.1.cls = true) (hn : (entL As).length ≤ y.2.2.1) (h : G wd y d Post 0 (padL y.2.2.1 (entL As)) [] M) : WP wd d y As M Post := by
  intro l D ad kd
  refine Met.ofW (cc := y.2.1) (maxL := y.2.2.1) (ret := y.2.2.2) hy rfl ?_
  intro p e s m args below meth c s₁ B hml hv
  obtain ⟨rfl, hP, hK, hN, hD⟩ := hv
  have hl := lv_entry (As.map (cv ad)) (n := y.2.2.1) (by rw [entL_len]; exact hn)
  rw [lg_entry_eq]
  refine h p l e s m _ below meth c D ad kd ⟨B.exec, B.bytes, hml, B.returns, B.notSynchronized, findClass_of_methodNamed B.named, atoms_spec (ws := wsOf y) B.pre, hN, hK, fun M' => wl_DA hD M'⟩ s.heap [] _ hP va_S.rf (LR.entry hl)
theorem G.ls {wd : List Sh} {q : MD} {d : Nat} {Post : Option AV → Mem → Prop} {pc : Nat} {ls ls' : List (Option AV)} {st : List AV} {M : Mem} (hs : ∀ (i : Nat) (v : AV), ls'[i]? = some (some v) → ls[i]? = some (some v)) (h : G wd q d Post pc ls' st M) : G wd q d Post pc ls st M :=
  fun p l e s m args below meth c D ad kd X H locs als hP hS hL => h p l e s m args below meth c D ad kd X H locs als hP hS (hL.mono hs)
theorem clsOK : ∀ (ci : Nat) (C : String) (T : u_T) (N : Nat), vwCl[ci]? = some (C, T, N) → (∀ w ∈ u_ws C T N, w ∈ goodTbl) ∧ (∃ ty0 : Nat → FieldType, ∀ k, k < N → parseFieldDescriptor (T k).2.2.1 = some (ty0 k)) ∧ ∀ a, a < N → ∀ b, b < N → a ≠ b → (T a).2.1 ≠ (T b).2.1
  | 0, _, _, _, h => by cases h; exact ⟨uX0_in, ⟨_, tyX0_ok⟩, nmX0⟩
  | 1, _, _, _, h => by cases h; exact ⟨uX1_in, ⟨_, tyX1_ok⟩, nmX1⟩
  | 2, _, _, _, h => by cases h; exact ⟨uX2_in, ⟨_, tyX2_ok⟩, nmX2⟩
  | 3, _, _, _, h => by cases h; exact ⟨uX4_in, ⟨_, tyX4_ok⟩, nmX4⟩
  | 4, _, _, _, h => by cases h; exact ⟨uX5_in, ⟨_, tyX5_ok⟩, nmX5⟩
  | 5, _, _, _, h => by cases h; exact ⟨uX6_in, ⟨_, tyX6_ok⟩, nmX6⟩
  | 6, _, _, _, h => by cases h; exact ⟨uX7_in, ⟨_, tyX7_ok⟩, nmX7⟩
  | 7, _, _, _, h => by cases h; exact ⟨uX8_in, ⟨_, tyX8_ok⟩, nmX8⟩
  | 8, _, _, _, h => by cases h; exact ⟨uX9_in, ⟨_, tyX9_ok⟩, nmX9⟩
  | 9, _, _, _, h => by cases h; exact ⟨uX10_in, ⟨_, tyX10_ok⟩, nmX10⟩
  | n + 10, _, _, _, h => by simp [vwCl] at h
theorem Cx.good {p : Program} {s : State} {m : MethodId} {args : Array Value} {meth : Method} {c : Code} {D : va_G} {ad : Nat → Nat} {kd : Nat → ClassId} {wd : List Sh} {q : MD} (X : Cx p s m args meth c D ad kd wd q) : ∀ w ∈ goodTbl, w.before args s = true :=
  fun w hw => X.2.2.2.2.2.2.1 w (List.mem_cons_of_mem _ hw)
def shl (a b : Int) : Int := (Int32.ofInt a <<< (Int32.ofInt b &&& 31)).toInt
def shr (a b : Int) : Int := (Int32.ofInt a >>> (Int32.ofInt b &&& 31)).toInt
def ushr (a b : Int) : Int := ((Int32.ofInt a).toUInt32 >>> ((Int32.ofInt b).toUInt32 &&& Int32.toUInt32 31)).toInt32.toInt
def band (a b : Int) : Int := (Int32.ofInt a &&& Int32.ofInt b).toInt
def bor (a b : Int) : Int := (Int32.ofInt a ||| Int32.ofInt b).toInt
def lushr (x : Int64) (b : Int) : Int64 := (x.toUInt64 >>> ((Int32.ofInt b).toInt64.toUInt64 &&& Int64.toUInt64 63)).toInt64
def lshl (x : Int64) (b : Int) : Int64 := x <<< ((Int32.ofInt b).toInt64 &&& 63)
def lshr (x : Int64) (b : Int) : Int64 := x >>> ((Int32.ofInt b).toInt64 &&& 63)
theorem oi {a : Int} (h1 : -2147483648 ≤ a) (h2 : a < 2147483648) : (Int32.ofInt a).toInt = a := Int32.toInt_ofInt_of_le (by simpa using h1) (by simpa using h2)
theorem o_eq {a b : Int} (h1 : -2147483648 ≤ a) (h2 : a < 2147483648) (h3 : -2147483648 ≤ b) (h4 : b < 2147483648) : Int32.ofInt a = Int32.ofInt b ↔ a = b := by
  rw [← Int32.toInt_inj, oi h1 h2, oi h3 h4]
theorem o_lt {a b : Int} (h1 : -2147483648 ≤ a) (h2 : a < 2147483648) (h3 : -2147483648 ≤ b) (h4 : b < 2147483648) : Int32.ofInt a < Int32.ofInt b ↔ a < b := by
  rw [Int32.lt_iff_toInt_lt, oi h1 h2, oi h3 h4]
theorem o_le {a b : Int} (h1 : -2147483648 ≤ a) (h2 : a < 2147483648) (h3 : -2147483648 ≤ b) (h4 : b < 2147483648) : Int32.ofInt a ≤ Int32.ofInt b ↔ a ≤ b := by
  rw [Int32.le_iff_toInt_le, oi h1 h2, oi h3 h4]
theorem o_0 : Int32.ofInt 0 = 0 := rfl
theorem oi_in {z : Int} {n : Nat} (h1 : 0 ≤ z) (h2 : z < n) (h3 : z < 2147483648) : vp_in (Int32.ofInt z) n ∧ (Int32.ofInt z).toNatClampNeg = z.toNat := by
  have e : (Int32.ofInt z).toNatClampNeg = z.toNat := Int32.toNatClampNeg_ofInt_of_le (by omega) (by simpa using h3)
  refine ⟨?_, e⟩
  rintro (h | h)
  · rw [← o_0, o_lt (by omega) h3 (by omega) (by omega)] at h
    omega
  · rw [e] at h
    omega
section ROWS
variable {wd : List Sh} {q : MD} {d : Nat} {Post : Option AV → Mem → Prop} {pc : Nat} {ls ls' : List (Option AV)} {st rest : List AV} {M : Mem}
theorem g_iconst {n : Int} (hd : decode q.2.1 pc = .ok (.iconst n, 1)) (k : G wd q d Post (pc + 1) ls (vi n :: st) M) : G wd q d Post pc ls st M :=
  fun p l e s m args below meth c D ad kd X H locs als hP hS hL => lv_iconst X.1 X.2.1 hd rfl (k p l e s m args below meth c D ad kd X H locs als hP hS hL)
theorem g_bipush {n : Int} (hd : decode q.2.1 pc = .ok (.bipush n, 2)) (hv : (Int8.ofInt n).toInt32 = Int32.ofInt n) (k : G wd q d Post (pc + 2) ls (vi n :: st) M) : G wd q d Post pc ls st M :=
  fun p l e s m args below meth c D ad kd X H locs als hP hS hL => lv_bipush X.1 X.2.1 hd hv (k p l e s m args below meth c D ad kd X H locs als hP hS hL)
theorem g_sipush {n : Int} (hd : decode q.2.1 pc = .ok (.sipush n, 3)) (hv : (Int16.ofInt n).toInt32 = Int32.ofInt n) (k : G wd q d Post (pc + 3) ls (vi n :: st) M) : G wd q d Post pc ls st M :=
  fun p l e s m args below meth c D ad kd X H locs als hP hS hL => lv_sipush X.1 X.2.1 hd hv (k p l e s m args below meth c D ad kd X H locs als hP hS hL)
theorem g_lconst {n : Fin 2} {v : Int64} (hd : decode q.2.1 pc = .ok (.lconst n, 1)) (hv : Int64.ofNat (n : Nat) = v) (k : G wd q d Post (pc + 1) ls (vl v :: st) M) : G wd q d Post pc ls st M :=
  fun p l e s m args below meth c D ad kd X H locs als hP hS hL => lv_lconst X.1 X.2.1 hd hv (k p l e s m args below meth c D ad kd X H locs als hP hS hL)
theorem g_ldc {idx : Nat} {v : Int32} {z : Int} (hd : decode q.2.1 pc = .ok (.ldc idx, 2)) (hc : Cond.constant q.1.cls idx v ∈ goodTbl) (hv : v = Int32.ofInt z) (k : G wd q d Post (pc + 2) ls (vi z :: st) M) : G wd q d Post pc ls st M :=
  fun p l e s m args below meth c D ad kd X H locs als hP hS hL => lv_ldc X.1 X.2.1 X.2.2.2.2.2.1 (X.good _ hc) hd (by rw [hv]; exact k p l e s m args below meth c D ad kd X H locs als hP hS hL)
theorem g_ldcw {idx : Nat} {v : Int32} {z : Int} (hd : decode q.2.1 pc = .ok (.ldc_w idx, 3)) (hc : Cond.constant q.1.cls idx v ∈ goodTbl) (hv : v = Int32.ofInt z) (k : G wd q d Post (pc + 3) ls (vi z :: st) M) : G wd q d Post pc ls st M :=
  fun p l e s m args below meth c D ad kd X H locs als hP hS hL => lv_ldcw X.1 X.2.1 X.2.2.2.2.2.1 (X.good _ hc) hd (by rw [hv]; exact k p l e s m args below meth c D ad kd X H locs als hP hS hL)
theorem g_ldc2 {idx : Nat} {v : Int64} (hd : decode q.2.1 pc = .ok (.ldc2_w idx, 3)) (hc : Cond.constantLong q.1.cls idx v ∈ goodTbl) (k : G wd q d Post (pc + 3) ls (vl v :: st) M) : G wd q d Post pc ls st M :=
  fun p l e s m args below meth c D ad kd X H locs als hP hS hL => lv_ldc2 X.1 X.2.1 X.2.2.2.2.2.1 (X.good _ hc) hd (k p l e s m args below meth c D ad kd X H locs als hP hS hL)
theorem g_iload_n {k : Fin 4} {i : Nat} {z : Int} (hd : decode q.2.1 pc = .ok (.iload_n k, 1)) (hi : (k : Nat) = i) (hl : ls[i]? = some (some (vi z))) (kk : G wd q d Post (pc + 1) ls (vi z :: st) M) : G wd q d Post pc ls st M :=
  fun p l e s m args below meth c D ad kd X H locs als hP hS hL => lv_iload_n X.1 X.2.1 hd hi (hL.2.2 i (vi z) hl) (kk p l e s m args below meth c D ad kd X H locs als hP hS hL)
theorem g_iload {i : Nat} {z : Int} (hd : decode q.2.1 pc = .ok (.iload i, 2)) (hl : ls[i]? = some (some (vi z))) (kk : G wd q d Post (pc + 2) ls (vi z :: st) M) : G wd q d Post pc ls st M :=
  fun p l e s m args below meth c D ad kd X H locs als hP hS hL => lv_iload X.1 X.2.1 hd (hL.2.2 i (vi z) hl) (kk p l e s m args below meth c D ad kd X H locs als hP hS hL)
theorem g_lload_n {k : Fin 4} {i : Nat} {x : Int64} (hd : decode q.2.1 pc = .ok (.lload_n k, 1)) (hi : (k : Nat) = i) (hl : ls[i]? = some (some (vl x))) (kk : G wd q d Post (pc + 1) ls (vl x :: st) M) : G wd q d Post pc ls st M :=
  fun p l e s m args below meth c D ad kd X H locs als hP hS hL => lv_lload_n X.1 X.2.1 hd hi (hL.2.2 i (vl x) hl) (kk p l e s m args below meth c D ad kd X H locs als hP hS hL)
theorem g_lload {i : Nat} {x : Int64} (hd : decode q.2.1 pc = .ok (.lload i, 2)) (hl : ls[i]? = some (some (vl x))) (kk : G wd q d Post (pc + 2) ls (vl x :: st) M) : G wd q d Post pc ls st M :=
  fun p l e s m args below meth c D ad kd X H locs als hP hS hL => lv_lload X.1 X.2.1 hd (hL.2.2 i (vl x) hl) (kk p l e s m args below meth c D ad kd X H locs als hP hS hL)
theorem g_aload_n {k : Fin 4} {i : Nat} {x : Nat} (hd : decode q.2.1 pc = .ok (.aload_n k, 1)) (hi : (k : Nat) = i) (hl : ls[i]? = some (some (vr x))) (kk : G wd q d Post (pc + 1) ls (vr x :: st) M) : G wd q d Post pc ls st M :=
  fun p l e s m args below meth c D ad kd X H locs als hP hS hL => lv_aload_n X.1 X.2.1 hd hi (hL.2.2 i (vr x) hl) (kk p l e s m args below meth c D ad kd X H locs als hP hS hL)
theorem g_aload {i : Nat} {x : Nat} (hd : decode q.2.1 pc = .ok (.aload i, 2)) (hl : ls[i]? = some (some (vr x))) (kk : G wd q d Post (pc + 2) ls (vr x :: st) M) : G wd q d Post pc ls st M :=
  fun p l e s m args below meth c D ad kd X H locs als hP hS hL => lv_aload X.1 X.2.1 hd (hL.2.2 i (vr x) hl) (kk p l e s m args below meth c D ad kd X H locs als hP hS hL)
theorem g_istore_n {k : Fin 4} {i : Nat} {z : Int} (hd : decode q.2.1 pc = .ok (.istore_n k, 1)) (hi : (k : Nat) = i) (hn : i < q.2.2.1) (hl : st1 ls i (vi z) = ls') (kk : G wd q d Post (pc + 1) ls' st M) : G wd q d Post pc ls (vi z :: st) M :=
  fun p l e s m args below meth c D ad kd X H locs als hP hS hL => lv_istore_n X.1 X.2.1 hd hi hL.has hn rfl (fun als' h' => kk p l e s m args below meth c D ad kd X H locs als' hP hS (hl ▸ LR.st1 (v := vi z) rfl h'))
theorem g_istore {i : Nat} {z : Int} (hd : decode q.2.1 pc = .ok (.istore i, 2)) (hn : i < q.2.2.1) (hl : st1 ls i (vi z) = ls') (kk : G wd q d Post (pc + 2) ls' st M) : G wd q d Post pc ls (vi z :: st) M :=
  fun p l e s m args below meth c D ad kd X H locs als hP hS hL => lv_istore X.1 X.2.1 hd hL.has hn rfl (fun als' h' => kk p l e s m args below meth c D ad kd X H locs als' hP hS (hl ▸ LR.st1 (v := vi z) rfl h'))
theorem g_lstore_n {k : Fin 4} {i : Nat} {x : Int64} (hd : decode q.2.1 pc = .ok (.lstore_n k, 1)) (hi : (k : Nat) = i) (hn : i + 1 < q.2.2.1) (hl : st2 ls i (vl x) = ls') (kk : G wd q d Post (pc + 1) ls' st M) : G wd q d Post pc ls (vl x :: st) M :=
  fun p l e s m args below meth c D ad kd X H locs als hP hS hL => lv_lstore_n X.1 X.2.1 hd hi hL.has hn rfl (fun als' h' => kk p l e s m args below meth c D ad kd X H locs als' hP hS (hl ▸ LR.st2 (v := vl x) rfl h'))
theorem g_iinc {i : Nat} {n z : Int} (hd : decode q.2.1 pc = .ok (.iinc i n, 3)) (hg : ls[i]? = some (some (vi z))) (hl : st1 ls i (vi (z + n)) = ls') (kk : G wd q d Post (pc + 3) ls' st M) : G wd q d Post pc ls st M := by
  intro p l e s m args below meth c D ad kd X H locs als hP hS hL
  obtain ⟨k, hk⟩ := List.getElem?_of_mem (lvOf_mem (ad := ad) hg)
  exact lv_iinc (k := k) (x := Int32.ofInt z) (v := Int32.ofInt (z + n)) X.1 X.2.1 hd hL.has hk (by rw [Int32.ofInt_add]) (hL.lt hg) rfl (fun als' h' => kk p l e s m args below meth c D ad kd X H locs als' hP hS (hl ▸ LR.st1 (v := vi (z + n)) rfl h'))
theorem g_goto {off : Int} {tgt : Nat} (hd : decode q.2.1 pc = .ok (.goto off, 3)) (ht : (pc : Int) + off = (tgt : Int)) (kk : G wd q d Post tgt ls st M) : G wd q d Post pc ls st M :=
  fun p l e s m args below meth c D ad kd X H locs als hP hS hL => lv_goto X.1 X.2.1 hd ht (kk p l e s m args below meth c D ad kd X H locs als hP hS hL)
theorem g_dup {v : AV} (hd : decode q.2.1 pc = .ok (.dup, 1)) (hc : catv v = 1) (kk : G wd q d Post (pc + 1) ls (v :: v :: st) M) : G wd q d Post pc ls (v :: st) M :=
  fun p l e s m args below meth c D ad kd X H locs als hP hS hL => lv_dup X.1 X.2.1 hd (by rw [cv_cat]; exact hc) (kk p l e s m args below meth c D ad kd X H locs als hP hS hL)
theorem g_dup2 {v w : AV} (hd : decode q.2.1 pc = .ok (.dup2, 1)) (hc : catv v = 1) (hw : catv w = 1) (kk : G wd q d Post (pc + 1) ls (v :: w :: v :: w :: st) M) : G wd q d Post pc ls (v :: w :: st) M :=
  fun p l e s m args below meth c D ad kd X H locs als hP hS hL => lv_dup2_11 X.1 X.2.1 hd (by rw [cv_cat]; exact hc) (by rw [cv_cat]; exact hw) (kk p l e s m args below meth c D ad kd X H locs als hP hS hL)
theorem g_iadd {a b : Int} (hd : decode q.2.1 pc = .ok (.iadd, 1)) (kk : G wd q d Post (pc + 1) ls (vi (a + b) :: st) M) : G wd q d Post pc ls (vi b :: vi a :: st) M :=
  fun p l e s m args below meth c D ad kd X H locs als hP hS hL => lv_iadd X.1 X.2.1 hd (by rw [← Int32.ofInt_add]; exact kk p l e s m args below meth c D ad kd X H locs als hP hS hL)
theorem g_isub {a b : Int} (hd : decode q.2.1 pc = .ok (.isub, 1)) (kk : G wd q d Post (pc + 1) ls (vi (a - b) :: st) M) : G wd q d Post pc ls (vi b :: vi a :: st) M :=
  fun p l e s m args below meth c D ad kd X H locs als hP hS hL => lv_isub X.1 X.2.1 hd (by rw [← Int32.ofInt_sub]; exact kk p l e s m args below meth c D ad kd X H locs als hP hS hL)
theorem g_imul {a b : Int} (hd : decode q.2.1 pc = .ok (.imul, 1)) (kk : G wd q d Post (pc + 1) ls (vi (a * b) :: st) M) : G wd q d Post pc ls (vi b :: vi a :: st) M :=
  fun p l e s m args below meth c D ad kd X H locs als hP hS hL => lv_imul X.1 X.2.1 hd (by rw [← Int32.ofInt_mul]; exact kk p l e s m args below meth c D ad kd X H locs als hP hS hL)
theorem g_iand {a b : Int} (hd : decode q.2.1 pc = .ok (.iand, 1)) (kk : G wd q d Post (pc + 1) ls (vi (band a b) :: st) M) : G wd q d Post pc ls (vi b :: vi a :: st) M :=
  fun p l e s m args below meth c D ad kd X H locs als hP hS hL => lv_iand X.1 X.2.1 hd (by have := kk p l e s m args below meth c D ad kd X H locs als hP hS hL; simpa only [List.map_cons, cv, band, Int32.ofInt_toInt] using this)
theorem g_ior {a b : Int} (hd : decode q.2.1 pc = .ok (.ior, 1)) (kk : G wd q d Post (pc + 1) ls (vi (bor a b) :: st) M) : G wd q d Post pc ls (vi b :: vi a :: st) M :=
  fun p l e s m args below meth c D ad kd X H locs als hP hS hL => lv_ior X.1 X.2.1 hd (by have := kk p l e s m args below meth c D ad kd X H locs als hP hS hL; simpa only [List.map_cons, cv, bor, Int32.ofInt_toInt] using this)
theorem g_ishl {a b : Int} (hd : decode q.2.1 pc = .ok (.ishl, 1)) (kk : G wd q d Post (pc + 1) ls (vi (shl a b) :: st) M) : G wd q d Post pc ls (vi b :: vi a :: st) M :=
  fun p l e s m args below meth c D ad kd X H locs als hP hS hL => lv_ishl X.1 X.2.1 hd (by have := kk p l e s m args below meth c D ad kd X H locs als hP hS hL; simpa only [List.map_cons, cv, shl, Int32.ofInt_toInt] using this)
theorem g_ishr {a b : Int} (hd : decode q.2.1 pc = .ok (.ishr, 1)) (kk : G wd q d Post (pc + 1) ls (vi (shr a b) :: st) M) : G wd q d Post pc ls (vi b :: vi a :: st) M :=
  fun p l e s m args below meth c D ad kd X H locs als hP hS hL => lv_ishr X.1 X.2.1 hd (by have := kk p l e s m args below meth c D ad kd X H locs als hP hS hL; simpa only [List.map_cons, cv, shr, Int32.ofInt_toInt] using this)
theorem g_iushr {a b : Int} (hd : decode q.2.1 pc = .ok (.iushr, 1)) (kk : G wd q d Post (pc + 1) ls (vi (ushr a b) :: st) M) : G wd q d Post pc ls (vi b :: vi a :: st) M :=
  fun p l e s m args below meth c D ad kd X H locs als hP hS hL => lv_iushr X.1 X.2.1 hd rfl (by have := kk p l e s m args below meth c D ad kd X H locs als hP hS hL; simpa only [List.map_cons, cv, ushr, Int32.ofInt_toInt] using this)
theorem g_i2b {a : Int} (h1 : -128 ≤ a) (h2 : a < 128) (hd : decode q.2.1 pc = .ok (.i2b, 1)) (kk : G wd q d Post (pc + 1) ls (vi a :: st) M) : G wd q d Post pc ls (vi a :: st) M :=
  fun p l e s m args below meth c D ad kd X H locs als hP hS hL => lv_i2b (v := Int32.ofInt a) X.1 X.2.1 hd (by
    rw [← Int32.toInt_inj, Int8.toInt_toInt32, Int32.toInt8_ofInt, oi (by omega) (by omega), Int8.toInt_ofInt_of_le (by omega) (by omega)]) (kk p l e s m args below meth c D ad kd X H locs als hP hS hL)
theorem g_i2l {a : Int} {v : Int64} (hd : decode q.2.1 pc = .ok (.i2l, 1)) (hv : (Int32.ofInt a).toInt64 = v) (kk : G wd q d Post (pc + 1) ls (vl v :: st) M) : G wd q d Post pc ls (vi a :: st) M :=
  fun p l e s m args below meth c D ad kd X H locs als hP hS hL => lv_i2l X.1 X.2.1 hd hv (kk p l e s m args below meth c D ad kd X H locs als hP hS hL)
theorem g_l2i {x : Int64} (hd : decode q.2.1 pc = .ok (.l2i, 1)) (kk : G wd q d Post (pc + 1) ls (vi x.toInt32.toInt :: st) M) : G wd q d Post pc ls (vl x :: st) M :=
  fun p l e s m args below meth c D ad kd X H locs als hP hS hL => lv_l2i (v := x.toInt32) X.1 X.2.1 hd rfl (by have := kk p l e s m args below meth c D ad kd X H locs als hP hS hL; simpa only [List.map_cons, cv, Int32.ofInt_toInt] using this)
theorem g_land {x y : Int64} (hd : decode q.2.1 pc = .ok (.land, 1)) (kk : G wd q d Post (pc + 1) ls (vl (x &&& y) :: st) M) : G wd q d Post pc ls (vl y :: vl x :: st) M :=
  fun p l e s m args below meth c D ad kd X H locs als hP hS hL => lv_land X.1 X.2.1 hd (kk p l e s m args below meth c D ad kd X H locs als hP hS hL)
theorem g_lor {x y : Int64} (hd : decode q.2.1 pc = .ok (.lor, 1)) (kk : G wd q d Post (pc + 1) ls (vl (x ||| y) :: st) M) : G wd q d Post pc ls (vl y :: vl x :: st) M :=
  fun p l e s m args below meth c D ad kd X H locs als hP hS hL => lv_lor X.1 X.2.1 hd (kk p l e s m args below meth c D ad kd X H locs als hP hS hL)
theorem g_lushr {x : Int64} {b : Int} (hd : decode q.2.1 pc = .ok (.lushr, 1)) (kk : G wd q d Post (pc + 1) ls (vl (lushr x b) :: st) M) : G wd q d Post pc ls (vi b :: vl x :: st) M :=
  fun p l e s m args below meth c D ad kd X H locs als hP hS hL => lv_lushr X.1 X.2.1 hd rfl (kk p l e s m args below meth c D ad kd X H locs als hP hS hL)
theorem g_lshl {x : Int64} {b : Int} (hd : decode q.2.1 pc = .ok (.lshl, 1)) (kk : G wd q d Post (pc + 1) ls (vl (lshl x b) :: st) M) : G wd q d Post pc ls (vi b :: vl x :: st) M :=
  fun p l e s m args below meth c D ad kd X H locs als hP hS hL => lv_lshl X.1 X.2.1 hd rfl (kk p l e s m args below meth c D ad kd X H locs als hP hS hL)
theorem g_lshr {x : Int64} {b : Int} (hd : decode q.2.1 pc = .ok (.lshr, 1)) (kk : G wd q d Post (pc + 1) ls (vl (lshr x b) :: st) M) : G wd q d Post pc ls (vi b :: vl x :: st) M :=
  fun p l e s m args below meth c D ad kd X H locs als hP hS hL => lv_lshr X.1 X.2.1 hd rfl (kk p l e s m args below meth c D ad kd X H locs als hP hS hL)
theorem g_lcmp {x y : Int64} (hd : decode q.2.1 pc = .ok (.lcmp, 1)) (kk : G wd q d Post (pc + 1) ls (vi (lg_cmp x y).toInt :: st) M) : G wd q d Post pc ls (vl y :: vl x :: st) M :=
  fun p l e s m args below meth c D ad kd X H locs als hP hS hL => W.lcmp X.1 X.2.1 hd (by have := kk p l e s m args below meth c D ad kd X H locs als hP hS hL; simpa only [List.map_cons, cv, Int32.ofInt_toInt] using this)
theorem g_icmp_eq {a b off : Int} {tgt : Nat} (hd : decode q.2.1 pc = .ok (.if_icmp .eq off, 3)) (ht : (pc : Int) + off = (tgt : Int)) (kt : a = b → G wd q d Post tgt ls st M) (kf : ¬ a = b → G wd q d Post (pc + 3) ls st M) (h1 : -2147483648 ≤ a := by omega) (h2 : a < 2147483648 := by omega) (h3 : -2147483648 ≤ b := by omega) (h4 : b < 2147483648 := by omega) : G wd q d Post pc ls (vi b :: vi a :: st) M :=
  fun p l e s m args below meth c D ad kd X H locs als hP hS hL => lv_icmp_eq X.1 X.2.1 hd ht (fun h => kt ((o_eq h1 h2 h3 h4).mp h) p l e s m args below meth c D ad kd X H locs als hP hS hL) (fun h => kf (fun z => h ((o_eq h1 h2 h3 h4).mpr z)) p l e s m args below meth c D ad kd X H locs als hP hS hL)
theorem g_icmp_ne {a b off : Int} {tgt : Nat} (hd : decode q.2.1 pc = .ok (.if_icmp .ne off, 3)) (ht : (pc : Int) + off = (tgt : Int)) (kt : ¬ a = b → G wd q d Post tgt ls st M) (kf : a = b → G wd q d Post (pc + 3) ls st M) (h1 : -2147483648 ≤ a := by omega) (h2 : a < 2147483648 := by omega) (h3 : -2147483648 ≤ b := by omega) (h4 : b < 2147483648 := by omega) : G wd q d Post pc ls (vi b :: vi a :: st) M :=
  fun p l e s m args below meth c D ad kd X H locs als hP hS hL => lv_icmp_ne X.1 X.2.1 hd ht (fun h => kt (fun z => h ((o_eq h1 h2 h3 h4).mpr z)) p l e s m args below meth c D ad kd X H locs als hP hS hL) (fun h => kf ((o_eq h1 h2 h3 h4).mp h) p l e s m args below meth c D ad kd X H locs als hP hS hL)
theorem g_icmp_lt {a b off : Int} {tgt : Nat} (hd : decode q.2.1 pc = .ok (.if_icmp .lt off, 3)) (ht : (pc : Int) + off = (tgt : Int)) (kt : a < b → G wd q d Post tgt ls st M) (kf : ¬ a < b → G wd q d Post (pc + 3) ls st M) (h1 : -2147483648 ≤ a := by omega) (h2 : a < 2147483648 := by omega) (h3 : -2147483648 ≤ b := by omega) (h4 : b < 2147483648 := by omega) : G wd q d Post pc ls (vi b :: vi a :: st) M :=
  fun p l e s m args below meth c D ad kd X H locs als hP hS hL => lv_icmp_lt X.1 X.2.1 hd ht (fun h => kt ((o_lt h1 h2 h3 h4).mp h) p l e s m args below meth c D ad kd X H locs als hP hS hL) (fun h => kf (fun z => h ((o_lt h1 h2 h3 h4).mpr z)) p l e s m args below meth c D ad kd X H locs als hP hS hL)
theorem g_icmp_gt {a b off : Int} {tgt : Nat} (hd : decode q.2.1 pc = .ok (.if_icmp .gt off, 3)) (ht : (pc : Int) + off = (tgt : Int)) (kt : b < a → G wd q d Post tgt ls st M) (kf : ¬ b < a → G wd q d Post (pc + 3) ls st M) (h1 : -2147483648 ≤ a := by omega) (h2 : a < 2147483648 := by omega) (h3 : -2147483648 ≤ b := by omega) (h4 : b < 2147483648 := by omega) : G wd q d Post pc ls (vi b :: vi a :: st) M :=
  fun p l e s m args below meth c D ad kd X H locs als hP hS hL => lv_icmp_gt X.1 X.2.1 hd ht (fun h => kt ((o_lt h3 h4 h1 h2).mp h) p l e s m args below meth c D ad kd X H locs als hP hS hL) (fun h => kf (fun z => h ((o_lt h3 h4 h1 h2).mpr z)) p l e s m args below meth c D ad kd X H locs als hP hS hL)
theorem g_icmp_le {a b off : Int} {tgt : Nat} (hd : decode q.2.1 pc = .ok (.if_icmp .le off, 3)) (ht : (pc : Int) + off = (tgt : Int)) (kt : a ≤ b → G wd q d Post tgt ls st M) (kf : ¬ a ≤ b → G wd q d Post (pc + 3) ls st M) (h1 : -2147483648 ≤ a := by omega) (h2 : a < 2147483648 := by omega) (h3 : -2147483648 ≤ b := by omega) (h4 : b < 2147483648 := by omega) : G wd q d Post pc ls (vi b :: vi a :: st) M :=
  fun p l e s m args below meth c D ad kd X H locs als hP hS hL => lv_icmp_le X.1 X.2.1 hd ht (fun h => kt ((o_le h1 h2 h3 h4).mp h) p l e s m args below meth c D ad kd X H locs als hP hS hL) (fun h => kf (fun z => h ((o_le h1 h2 h3 h4).mpr z)) p l e s m args below meth c D ad kd X H locs als hP hS hL)
theorem g_icmp_ge {a b off : Int} {tgt : Nat} (hd : decode q.2.1 pc = .ok (.if_icmp .ge off, 3)) (ht : (pc : Int) + off = (tgt : Int)) (kt : b ≤ a → G wd q d Post tgt ls st M) (kf : ¬ b ≤ a → G wd q d Post (pc + 3) ls st M) (h1 : -2147483648 ≤ a := by omega) (h2 : a < 2147483648 := by omega) (h3 : -2147483648 ≤ b := by omega) (h4 : b < 2147483648 := by omega) : G wd q d Post pc ls (vi b :: vi a :: st) M :=
  fun p l e s m args below meth c D ad kd X H locs als hP hS hL => lv_icmp_ge X.1 X.2.1 hd ht (fun h => kt ((o_le h3 h4 h1 h2).mp h) p l e s m args below meth c D ad kd X H locs als hP hS hL) (fun h => kf (fun z => h ((o_le h3 h4 h1 h2).mpr z)) p l e s m args below meth c D ad kd X H locs als hP hS hL)
theorem g_if_eq {a off : Int} {tgt : Nat} (hd : decode q.2.1 pc = .ok (.ifCond .eq off, 3)) (ht : (pc : Int) + off = (tgt : Int)) (kt : a = 0 → G wd q d Post tgt ls st M) (kf : ¬ a = 0 → G wd q d Post (pc + 3) ls st M) (h1 : -2147483648 ≤ a := by omega) (h2 : a < 2147483648 := by omega) : G wd q d Post pc ls (vi a :: st) M :=
  fun p l e s m args below meth c D ad kd X H locs als hP hS hL => lv_if_eq X.1 X.2.1 hd ht (fun h => kt ((o_eq h1 h2 (by decide) (by decide)).mp h) p l e s m args below meth c D ad kd X H locs als hP hS hL) (fun h => kf (fun z => h ((o_eq h1 h2 (by decide) (by decide)).mpr z)) p l e s m args below meth c D ad kd X H locs als hP hS hL)
theorem g_if_ne {a off : Int} {tgt : Nat} (hd : decode q.2.1 pc = .ok (.ifCond .ne off, 3)) (ht : (pc : Int) + off = (tgt : Int)) (kt : ¬ a = 0 → G wd q d Post tgt ls st M) (kf : a = 0 → G wd q d Post (pc + 3) ls st M) (h1 : -2147483648 ≤ a := by omega) (h2 : a < 2147483648 := by omega) : G wd q d Post pc ls (vi a :: st) M :=
  fun p l e s m args below meth c D ad kd X H locs als hP hS hL => lv_if_ne X.1 X.2.1 hd ht (fun h => kt (fun z => h ((o_eq h1 h2 (by decide) (by decide)).mpr z)) p l e s m args below meth c D ad kd X H locs als hP hS hL) (fun h => kf ((o_eq h1 h2 (by decide) (by decide)).mp h) p l e s m args below meth c D ad kd X H locs als hP hS hL)
theorem g_if_lt {a off : Int} {tgt : Nat} (hd : decode q.2.1 pc = .ok (.ifCond .lt off, 3)) (ht : (pc : Int) + off = (tgt : Int)) (kt : a < 0 → G wd q d Post tgt ls st M) (kf : ¬ a < 0 → G wd q d Post (pc + 3) ls st M) (h1 : -2147483648 ≤ a := by omega) (h2 : a < 2147483648 := by omega) : G wd q d Post pc ls (vi a :: st) M :=
  fun p l e s m args below meth c D ad kd X H locs als hP hS hL => lv_if_lt X.1 X.2.1 hd ht (fun h => kt ((o_lt h1 h2 (by decide) (by decide)).mp h) p l e s m args below meth c D ad kd X H locs als hP hS hL) (fun h => kf (fun z => h ((o_lt h1 h2 (by decide) (by decide)).mpr z)) p l e s m args below meth c D ad kd X H locs als hP hS hL)
theorem g_if_ge {a off : Int} {tgt : Nat} (hd : decode q.2.1 pc = .ok (.ifCond .ge off, 3)) (ht : (pc : Int) + off = (tgt : Int)) (kt : 0 ≤ a → G wd q d Post tgt ls st M) (kf : ¬ 0 ≤ a → G wd q d Post (pc + 3) ls st M) (h1 : -2147483648 ≤ a := by omega) (h2 : a < 2147483648 := by omega) : G wd q d Post pc ls (vi a :: st) M :=
  fun p l e s m args below meth c D ad kd X H locs als hP hS hL => lv_if_ge X.1 X.2.1 hd ht (fun h => kt ((o_le (by decide) (by decide) h1 h2).mp h) p l e s m args below meth c D ad kd X H locs als hP hS hL) (fun h => kf (fun z => h ((o_le (by decide) (by decide) h1 h2).mpr z)) p l e s m args below meth c D ad kd X H locs als hP hS hL)
theorem g_if_le {a off : Int} {tgt : Nat} (hd : decode q.2.1 pc = .ok (.ifCond .le off, 3)) (ht : (pc : Int) + off = (tgt : Int)) (kt : a ≤ 0 → G wd q d Post tgt ls st M) (kf : ¬ a ≤ 0 → G wd q d Post (pc + 3) ls st M) (h1 : -2147483648 ≤ a := by omega) (h2 : a < 2147483648 := by omega) : G wd q d Post pc ls (vi a :: st) M :=
  fun p l e s m args below meth c D ad kd X H locs als hP hS hL => lv_if_le X.1 X.2.1 hd ht (fun h => kt ((o_le h1 h2 (by decide) (by decide)).mp h) p l e s m args below meth c D ad kd X H locs als hP hS hL) (fun h => kf (fun z => h ((o_le h1 h2 (by decide) (by decide)).mpr z)) p l e s m args below meth c D ad kd X H locs als hP hS hL)
end ROWS
