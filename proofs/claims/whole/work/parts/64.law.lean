/-! THE CLAIM OUT OF ONE WALK OF THE LAW'S BODY. Your part is whole_start (and what it stands on); all else here is the same for every law, but numbers. -/
def R_law : String := "KinBenchLaw"
def lw_P (b : Addr) (xs : List Int32) (args : Array Value) (s : State) : Prop := args = #[.ref b] ∧ s.IntsAt b xs ∧ xs.length ≤ 4608 ∧ (Jvm.Cond.and given_1 narrow_1).before args s = true
def lw_Q (_ : Array Value) (s : State) (o : Outcome) (t : State) : Prop := o = .returned (some (.int 1)) ∧ Framed s o t [] 600000 7302250
def lw_Z (below : List Frame) (a : Array Value) (s : State) : State → Prop := fun t => ∃ o, t.status = .running ∧ Ended t below o ∧ lw_Q a s o t
/-- the law's own end, with 1 on the stack, nothing written that was there before, its room as the claim has it -/
theorem lw_ret {p : Program} {l : Launch} {e : Env} {s : State} {m : MethodId} {below : List Frame} {meth : Method} {c : Code} {b : Nat} (hx : p.tables.exec = Jvm.exec) (hb : c.code = code) (hr : meth.sig.returnType = ret) (hlocks : meth.locks = false) {pc : Nat} {H : Heap} {ls : Array Slot} (hdg : decode code pc = .ok (.ireturn, 1)) : W p l e room_1 s m #[Value.ref b] below meth c H [] 600000 7302250 (lw_Z below #[Value.ref b] s) (F0 m pc ls [.int 1]) := by
  intro T hT X
  obtain ⟨fs, hret, hrun, hended, hW, hframe⟩ := X.leave (v := some (.int 1)) (hlocks := hlocks) (fun h => by rw [hr] at h; cases h)
  have hmeth' : T.vm.method? m = some meth := X.method'
  refine ⟨T.setFrames fs, ?_, .returned (some (.int 1)), hrun, hended, rfl, ⟨_, rfl⟩, hW, hframe⟩
  jvm_step X.here [X.here.top, hx, hb, hdg, hmeth', hr, ret, narrow_b1]
  (try refine ⟨rfl, ?_⟩); (try refine ⟨rfl, ?_⟩)
  first | (intro acts; rw [hret _ acts rfl rfl rfl]) | rw [hret _ _ rfl rfl rfl]
  exact Steps.refl _
/-- what holds at the law's entry: the machine, the code, the tables' words (any of lw_tbl by 'hts w (by decide +kernel)'), the script of L ints xs at the cell b, what the Statement gives of the start (any of its parts by flat_of_before) -/
def lw_At (p : Program) (s : State) (m : MethodId) (meth : Method) (c : Code) (b L : Nat) (xs : Nat → Int32) : Prop :=
  p.tables.exec = Jvm.exec ∧ c.code = code ∧ meth.sig.returnType = ret ∧ c.maxLocals = 4 ∧ s.vm.findClass R_law = some m.cls ∧ (∀ w ∈ lw_tbl, w.before #[Value.ref b] s = true) ∧ va_X b L xs s s.heap ∧ b < s.heap.size ∧ meth.locks = false ∧ (Jvm.Cond.and given_1 narrow_1).before #[Value.ref b] s = true

/-! MODULE 60: the law's own run: the script, the class's object (place 1), the reference's (place 2). -/
def ad3 (b : Nat) (adC adM : Nat → Nat) (x : Nat) : Nat := if x = 0 then b else if x = 1 then adC 0 else adM 0
def LCx (L : Nat) (xs : Nat → Int32) (p : Program) (s : State) (m : MethodId) (meth : Method) (c : Code) (b : Nat) (D : va_G) (kd : Nat → ClassId) : Prop :=
  p.tables.exec = Jvm.exec ∧ c.code = code ∧ c.maxLocals = 4 ∧ meth.sig.returnType = ret ∧ meth.locks = false ∧ s.vm.findClass R_law = some m.cls ∧ (∀ w ∈ goodTbl, w.before #[Value.ref b] s = true) ∧ (∀ w ∈ nestW, va_Nw w s) ∧ va_K D vwCl (tysOf kd) s ∧ va_X b L xs s s.heap ∧ b < s.heap.size
abbrev frs (s : State) : Nat → Prop := fun a => s.heap.size ≤ a
def GL (L : Nat) (xs : Nat → Int32) (pc : Nat) (ls : List (Option AV)) (st : List AV) (MC MM : Mem) : Prop :=
  ∀ (p : Program) (l : Launch) (e : Jvm.Env) (s : State) (m : MethodId) (below : List Frame) (meth : Method) (c : Code) (b : Nat) (D : va_G) (kd : Nat → ClassId), LCx L xs p s m meth c b D kd →
  ∀ (adC adM : Nat → Nat) (H : Heap) (locs : List Loc) (als : Array Slot) (kc ks : Nat), kc ≤ 600000 → ks ≤ 7302250 → va_P D vwCl (wl adC kd MC 0 wdC) H → va_P D vwCl (wl adM kd MM 0 wdM) H → va_D (frs s) (wl adC kd MC 0 wdC) → va_D (frs s) (wl adM kd MM 0 wdM) → (∀ i j, i < wdC.length → j < wdM.length → adC i ≠ adM j) → va_S (frs s) s.heap H locs → LR (ad3 b adC adM) ls 4 als →
  W p l e room_1 s m #[Value.ref b] below meth c H locs kc ks (lw_Z below #[Value.ref b] s) (F0 m pc als (st.map (cv (ad3 b adC adM))))
section ROWSL
variable {L : Nat} {xs : Nat → Int32} {pc : Nat} {ls ls' : List (Option AV)} {st rest : List AV} {MC MM : Mem}

theorem h_iconst {n : Int} (hd : decode code pc = .ok (.iconst n, 1)) (kk : GL L xs (pc + 1) ls (vi n :: st) MC MM) : GL L xs pc ls st MC MM :=
  fun p l e s m below meth c b D kd X adC adM H locs als kc ks hkc hks hC hM hDC hDM hdis hS hL => lv_iconst X.1 X.2.1 hd rfl (kk p l e s m below meth c b D kd X adC adM H locs als kc ks hkc hks hC hM hDC hDM hdis hS hL)
theorem h_bipush {n : Int} (hd : decode code pc = .ok (.bipush n, 2)) (hv : (Int8.ofInt n).toInt32 = Int32.ofInt n) (kk : GL L xs (pc + 2) ls (vi n :: st) MC MM) : GL L xs pc ls st MC MM :=
  fun p l e s m below meth c b D kd X adC adM H locs als kc ks hkc hks hC hM hDC hDM hdis hS hL => lv_bipush X.1 X.2.1 hd hv (kk p l e s m below meth c b D kd X adC adM H locs als kc ks hkc hks hC hM hDC hDM hdis hS hL)
theorem h_ldc2 {idx : Nat} {v : Int64} (hd : decode code pc = .ok (.ldc2_w idx, 3)) (hc : Cond.constantLong R_law idx v ∈ goodTbl) (kk : GL L xs (pc + 3) ls (vl v :: st) MC MM) : GL L xs pc ls st MC MM :=
  fun p l e s m below meth c b D kd X adC adM H locs als kc ks hkc hks hC hM hDC hDM hdis hS hL => lv_ldc2 X.1 X.2.1 X.2.2.2.2.2.1 (X.2.2.2.2.2.2.1 _ hc) hd (kk p l e s m below meth c b D kd X adC adM H locs als kc ks hkc hks hC hM hDC hDM hdis hS hL)
theorem h_aload_n {k : Fin 4} {i : Nat} {x : Nat} (hd : decode code pc = .ok (.aload_n k, 1)) (hi : (k : Nat) = i) (hl : ls[i]? = some (some (vr x))) (kk : GL L xs (pc + 1) ls (vr x :: st) MC MM) : GL L xs pc ls st MC MM :=
  fun p l e s m below meth c b D kd X adC adM H locs als kc ks hkc hks hC hM hDC hDM hdis hS hL => lv_aload_n X.1 X.2.1 hd hi (hL.2.2 i (vr x) hl) (kk p l e s m below meth c b D kd X adC adM H locs als kc ks hkc hks hC hM hDC hDM hdis hS hL)
theorem h_iload_n {k : Fin 4} {i : Nat} {x : Int} (hd : decode code pc = .ok (.iload_n k, 1)) (hi : (k : Nat) = i) (hl : ls[i]? = some (some (vi x))) (kk : GL L xs (pc + 1) ls (vi x :: st) MC MM) : GL L xs pc ls st MC MM :=
  fun p l e s m below meth c b D kd X adC adM H locs als kc ks hkc hks hC hM hDC hDM hdis hS hL => lv_iload_n X.1 X.2.1 hd hi (hL.2.2 i (vi x) hl) (kk p l e s m below meth c b D kd X adC adM H locs als kc ks hkc hks hC hM hDC hDM hdis hS hL)
theorem h_goto {off : Int} {tgt : Nat} (hd : decode code pc = .ok (.goto off, 3)) (ht : (pc : Int) + off = (tgt : Int)) (kk : GL L xs tgt ls st MC MM) : GL L xs pc ls st MC MM :=
  fun p l e s m below meth c b D kd X adC adM H locs als kc ks hkc hks hC hM hDC hDM hdis hS hL => lv_goto X.1 X.2.1 hd ht (kk p l e s m below meth c b D kd X adC adM H locs als kc ks hkc hks hC hM hDC hDM hdis hS hL)
theorem h_iadd {a b2 : Int} (hd : decode code pc = .ok (.iadd, 1)) (kk : GL L xs (pc + 1) ls (vi (a + b2) :: st) MC MM) : GL L xs pc ls (vi b2 :: vi a :: st) MC MM :=
  fun p l e s m below meth c b D kd X adC adM H locs als kc ks hkc hks hC hM hDC hDM hdis hS hL => lv_iadd X.1 X.2.1 hd (by rw [← Int32.ofInt_add]; exact kk p l e s m below meth c b D kd X adC adM H locs als kc ks hkc hks hC hM hDC hDM hdis hS hL)
theorem h_isub {a b2 : Int} (hd : decode code pc = .ok (.isub, 1)) (kk : GL L xs (pc + 1) ls (vi (a - b2) :: st) MC MM) : GL L xs pc ls (vi b2 :: vi a :: st) MC MM :=
  fun p l e s m below meth c b D kd X adC adM H locs als kc ks hkc hks hC hM hDC hDM hdis hS hL => lv_isub X.1 X.2.1 hd (by rw [← Int32.ofInt_sub]; exact kk p l e s m below meth c b D kd X adC adM H locs als kc ks hkc hks hC hM hDC hDM hdis hS hL)
theorem h_iand {a b2 : Int} (hd : decode code pc = .ok (.iand, 1)) (kk : GL L xs (pc + 1) ls (vi (band a b2) :: st) MC MM) : GL L xs pc ls (vi b2 :: vi a :: st) MC MM :=
  fun p l e s m below meth c b D kd X adC adM H locs als kc ks hkc hks hC hM hDC hDM hdis hS hL => lv_iand X.1 X.2.1 hd (by have := kk p l e s m below meth c b D kd X adC adM H locs als kc ks hkc hks hC hM hDC hDM hdis hS hL; simpa only [List.map_cons, cv, band, Int32.ofInt_toInt] using this)
theorem h_i2l {a : Int} {v : Int64} (hd : decode code pc = .ok (.i2l, 1)) (hv : (Int32.ofInt a).toInt64 = v) (kk : GL L xs (pc + 1) ls (vl v :: st) MC MM) : GL L xs pc ls (vi a :: st) MC MM :=
  fun p l e s m below meth c b D kd X adC adM H locs als kc ks hkc hks hC hM hDC hDM hdis hS hL => lv_i2l X.1 X.2.1 hd hv (kk p l e s m below meth c b D kd X adC adM H locs als kc ks hkc hks hC hM hDC hDM hdis hS hL)
theorem h_land {x y : Int64} (hd : decode code pc = .ok (.land, 1)) (kk : GL L xs (pc + 1) ls (vl (x &&& y) :: st) MC MM) : GL L xs pc ls (vl y :: vl x :: st) MC MM :=
  fun p l e s m below meth c b D kd X adC adM H locs als kc ks hkc hks hC hM hDC hDM hdis hS hL => lv_land X.1 X.2.1 hd (kk p l e s m below meth c b D kd X adC adM H locs als kc ks hkc hks hC hM hDC hDM hdis hS hL)
theorem h_lor {x y : Int64} (hd : decode code pc = .ok (.lor, 1)) (kk : GL L xs (pc + 1) ls (vl (x ||| y) :: st) MC MM) : GL L xs pc ls (vl y :: vl x :: st) MC MM :=
  fun p l e s m below meth c b D kd X adC adM H locs als kc ks hkc hks hC hM hDC hDM hdis hS hL => lv_lor X.1 X.2.1 hd (kk p l e s m below meth c b D kd X adC adM H locs als kc ks hkc hks hC hM hDC hDM hdis hS hL)
theorem h_lshl {x : Int64} {b2 : Int} (hd : decode code pc = .ok (.lshl, 1)) (kk : GL L xs (pc + 1) ls (vl (lshl x b2) :: st) MC MM) : GL L xs pc ls (vi b2 :: vl x :: st) MC MM :=
  fun p l e s m below meth c b D kd X adC adM H locs als kc ks hkc hks hC hM hDC hDM hdis hS hL => lv_lshl X.1 X.2.1 hd rfl (kk p l e s m below meth c b D kd X adC adM H locs als kc ks hkc hks hC hM hDC hDM hdis hS hL)
theorem h_iinc {i : Nat} {n z : Int} (hd : decode code pc = .ok (.iinc i n, 3)) (hg : ls[i]? = some (some (vi z))) (hl : st1 ls i (vi (z + n)) = ls') (kk : GL L xs (pc + 3) ls' st MC MM) : GL L xs pc ls st MC MM := by
  intro p l e s m below meth c b D kd X adC adM H locs als kc ks hkc hks hC hM hDC hDM hdis hS hL
  obtain ⟨k, hk⟩ := List.getElem?_of_mem (lvOf_mem (ad := ad3 b adC adM) hg)
  exact lv_iinc (k := k) (x := Int32.ofInt z) (v := Int32.ofInt (z + n)) X.1 X.2.1 hd hL.has hk (by rw [Int32.ofInt_add]) (hL.lt hg) rfl (fun als' h' => kk p l e s m below meth c b D kd X adC adM H locs als' kc ks hkc hks hC hM hDC hDM hdis hS (hl ▸ LR.st1 (v := vi (z + n)) rfl h'))
theorem h_icmp_gt {a b2 off : Int} {tgt : Nat} (hd : decode code pc = .ok (.if_icmp .gt off, 3)) (ht : (pc : Int) + off = (tgt : Int)) (kt : b2 < a → GL L xs tgt ls st MC MM) (kf : ¬ b2 < a → GL L xs (pc + 3) ls st MC MM) (h1 : -2147483648 ≤ a := by omega) (h2 : a < 2147483648 := by omega) (h3 : -2147483648 ≤ b2 := by omega) (h4 : b2 < 2147483648 := by omega) : GL L xs pc ls (vi b2 :: vi a :: st) MC MM :=
  fun p l e s m below meth c b D kd X adC adM H locs als kc ks hkc hks hC hM hDC hDM hdis hS hL => lv_icmp_gt X.1 X.2.1 hd ht (fun h => kt ((o_lt h3 h4 h1 h2).mp h) p l e s m below meth c b D kd X adC adM H locs als kc ks hkc hks hC hM hDC hDM hdis hS hL) (fun h => kf (fun z => h ((o_lt h3 h4 h1 h2).mpr z)) p l e s m below meth c b D kd X adC adM H locs als kc ks hkc hks hC hM hDC hDM hdis hS hL)
theorem h_icmp_same {a off : Int} {tgt : Nat} (hd : decode code pc = .ok (.if_icmp .eq off, 3)) (ht : (pc : Int) + off = (tgt : Int)) (kt : GL L xs tgt ls st MC MM) : GL L xs pc ls (vi a :: vi a :: st) MC MM :=
  fun p l e s m below meth c b D kd X adC adM H locs als kc ks hkc hks hC hM hDC hDM hdis hS hL => lv_icmp_eq X.1 X.2.1 hd ht (fun _ => kt p l e s m below meth c b D kd X adC adM H locs als kc ks hkc hks hC hM hDC hDM hdis hS hL) (fun h => absurd rfl h)
/-- x != 0 as an argument -/
theorem h_ne0 {x off1 off2 : Int} {t1 t2 : Nat} (h1 : decode code pc = .ok (.ifCond .eq off1, 3)) (e1 : (pc : Int) + off1 = (t1 : Int)) (h2 : decode code (pc + 3) = .ok (.iconst 1, 1)) (h3 : decode code (pc + 3 + 1) = .ok (.goto off2, 3)) (e2 : ((pc + 3 + 1 : Nat) : Int) + off2 = (t2 : Int)) (h4 : decode code t1 = .ok (.iconst 0, 1)) (e3 : t1 + 1 = t2) (hx1 : -2147483648 ≤ x) (hx2 : x < 2147483648) (kk : GL L xs t2 ls (vi (bi (x ≠ 0)) :: st) MC MM) : GL L xs pc ls (vi x :: st) MC MM :=
  fun p l e s m below meth c b D kd X adC adM H locs als kc ks hkc hks hC hM hDC hDM hdis hS hL => lv_if_eq X.1 X.2.1 h1 e1 (fun h => by
    have hz : x = 0 := (o_eq hx1 hx2 (by decide) (by decide)).mp h
    rw [bi_f (fun z => z hz), ← e3] at kk
    exact lv_iconst X.1 X.2.1 h4 rfl (kk p l e s m below meth c b D kd X adC adM H locs als kc ks hkc hks hC hM hDC hDM hdis hS hL)) (fun h => by
    have hz : x ≠ 0 := fun z => h ((o_eq hx1 hx2 (by decide) (by decide)).mpr z)
    rw [bi_t hz] at kk
    exact lv_iconst X.1 X.2.1 h2 rfl (lv_goto X.1 X.2.1 h3 e2 (kk p l e s m below meth c b D kd X adC adM H locs als kc ks hkc hks hC hM hDC hDM hdis hS hL)))
theorem h_tsw {a dflt lo hi : Int} {offs : Array Int} {len : Nat} {off : Int} {tgt : Nat} (hd : decode code pc = .ok (.tableswitch dflt lo hi offs, len)) (ho : offs[(a - lo).toNat]? = some off) (ht : (pc : Int) + off = (tgt : Int)) (kk : GL L xs tgt ls st MC MM) (h1 : lo ≤ a := by omega) (h2 : a ≤ hi := by omega) (h3 : -2147483648 ≤ a := by omega) (h4 : a < 2147483648 := by omega) : GL L xs pc ls (vi a :: st) MC MM :=
  fun p l e s m below meth c b D kd X adC adM H locs als kc ks hkc hks hC hM hDC hDM hdis hS hL => lv_tableIn X.1 X.2.1 hd (by rw [oi h3 h4]; omega) (by rw [oi h3 h4]; omega) (by rw [oi h3 h4]; exact ho) ht (kk p l e s m below meth c b D kd X adC adM H locs als kc ks hkc hks hC hM hDC hDM hdis hS hL)
theorem h_tswO {a dflt lo hi : Int} {offs : Array Int} {len : Nat} {tgt : Nat} (hd : decode code pc = .ok (.tableswitch dflt lo hi offs, len)) (ht : (pc : Int) + dflt = (tgt : Int)) (kk : GL L xs tgt ls st MC MM) (h1 : a < lo ∨ hi < a := by omega) (h3 : -2147483648 ≤ a := by omega) (h4 : a < 2147483648 := by omega) : GL L xs pc ls (vi a :: st) MC MM :=
  fun p l e s m below meth c b D kd X adC adM H locs als kc ks hkc hks hC hM hDC hDM hdis hS hL => lv_tableOut X.1 X.2.1 hd (by rw [oi h3 h4]; exact h1) ht (kk p l e s m below meth c b D kd X adC adM H locs als kc ks hkc hks hC hM hDC hDM hdis hS hL)
theorem h_slen (hLL : L ≤ 4608) (hd : decode code pc = .ok (.arraylength, 1)) (kk : GL L xs (pc + 1) ls (vi (L : Int) :: st) MC MM) : GL L xs pc ls (vr 0 :: st) MC MM :=
  fun p l e s m below meth c b D kd X adC adM H locs als kc ks hkc hks hC hM hDC hDM hdis hS hL => va_slen X.1 X.2.1 X.2.2.2.2.2.2.2.2.2.1 X.2.2.2.2.2.2.2.2.2.2 (fun h => absurd (X.2.2.2.2.2.2.2.2.2.2) (Nat.not_lt.mpr h)) hS hd (by
    have := kk p l e s m below meth c b D kd X adC adM H locs als kc ks hkc hks hC hM hDC hDM hdis hS hL
    rwa [List.map_cons, show cv (ad3 b adC adM) (vi (L : Int)) = Value.int (Int32.ofNat L) by show Value.int (Int32.ofInt (L : Int)) = _; rw [Int32.ofInt_eq_ofNat]] at this)
theorem h_sld {z : Int} (k : Nat) (hLL : L ≤ 4608) (hd : decode code pc = .ok (.iaload, 1)) (hz : z = k) (hk : k < L) (kk : GL L xs (pc + 1) ls (vi (xs k).toInt :: st) MC MM) : GL L xs pc ls (vi z :: vr 0 :: st) MC MM :=
  fun p l e s m below meth c b D kd X adC adM H locs als kc ks hkc hks hC hM hDC hDM hdis hS hL => by
    subst hz
    obtain ⟨i1, i2⟩ := oi_in (z := (k : Int)) (n := L) (by omega) (by omega) (by omega)
    refine va_sld X.1 X.2.1 X.2.2.2.2.2.2.2.2.2.1 X.2.2.2.2.2.2.2.2.2.2 (fun h => absurd (X.2.2.2.2.2.2.2.2.2.2) (Nat.not_lt.mpr h)) hS i1 hd ?_
    have := kk p l e s m below meth c b D kd X adC adM H locs als kc ks hkc hks hC hM hDC hDM hdis hS hL
    rw [i2]
    rwa [List.map_cons, show cv (ad3 b adC adM) (vi (xs k).toInt) = Value.int (xs k) by show Value.int (Int32.ofInt (xs k).toInt) = _; rw [Int32.ofInt_toInt]] at this
theorem h_ret (hd : decode code pc = .ok (.ireturn, 1)) : GL L xs pc ls [vi 1] MC MM :=
  fun p l e s m below meth c b D kd X adC adM H locs als kc ks hkc hks hC hM hDC hDM hdis hS hL => va_forget hS.2.2 (W.widen hkc hks (lw_ret X.1 X.2.1 X.2.2.2.1 X.2.2.2.2.1 hd))
theorem x32 (x : Int32) : -2147483648 ≤ x.toInt ∧ x.toInt < 2147483648 := ⟨Int32.le_toInt x, Int32.toInt_lt x⟩
def isN (v : AV) : Bool := match v with
  | .inr (.inr _) => false
  | _ => true
theorem cv_n {ad ad' : Nat → Nat} {As : List AV} (h : As.all isN = true) : As.map (cv ad) = As.map (cv ad') :=
  List.map_congr_left (fun v hv => by
    have := List.all_eq_true.mp h v hv
    rcases v with z | x | q
    · rfl
    · rfl
    · cases this)
theorem wl_kept {D : va_G} {ad1 ad2 : Nat → Nat} {kd : Nat → ClassId} {wd1 wd2 : List Sh} {M : Mem} {H H1 : Heap} (hP : va_P D vwCl (wl ad2 kd M 0 wd2) H) (hdis : ∀ i j, i < wd1.length → j < wd2.length → ad1 i ≠ ad2 j) (hk : ∀ q : Nat, q < H.size → ¬ AA ad1 wd1 q → H1[q]? = H[q]?) : va_P D vwCl (wl ad2 kd M 0 wd2) H1 := by
  refine hP.kept (fun k q hq => hk q.1 ((hP k q hq).lt) ?_)
  rintro ⟨i, hi, e⟩
  rw [wl_get] at hq
  cases hw : wd2[k]? with
  | none => rw [hw] at hq; cases hq
  | some sh =>
    rw [hw] at hq
    cases hq
    have hj := (List.getElem?_eq_some_iff.mp hw).1
    exact hdis i k hi hj (by simpa using e)
theorem frs_S {ad : Nat → Nat} {kd : Nat → ClassId} {wd : List Sh} {M : Mem} {s : State} (hD : va_D (frs s) (wl ad kd M 0 wd)) : ∀ q, AA ad wd q → s.heap.size ≤ q := by
  rintro q ⟨i, hi, rfl⟩
  obtain ⟨sh, hsh⟩ : ∃ sh, wd[i]? = some sh := ⟨wd[i], List.getElem?_eq_getElem hi⟩
  exact hD.2 i _ (wl_at hsh)
theorem h_callC {idx n d : Nat} {y : MD} {As : List AV} {P : Option AV → Mem → Prop} {fds : List (Option Nat)} {ci : Nat} (hd : decode code pc = .ok (.invokevirtual idx, 3)) (hs : VOK R_law idx y n) (hw : WP wdC d y (vr 0 :: As) MC P) (hst : st = As.reverse ++ vr 1 :: rest) (hn : As.length = n) (hAs : As.all isN = true) (hp : wdC[0]? = some (.inr (ci, fds))) (hc : (vwCl[ci]?).map (fun r => r.1) = some y.1.cls) (hdd : d ≤ 100) (hrest : (rest.map catv).sum ≤ 8) (kk : ∀ v M', P v M' → ∃ z, v = some (vi z) ∧ GL L xs (pc + 3) ls (vi z :: rest) M' MM) : GL L xs pc ls st MC MM := by
  intro p l e s m below meth c b D kd X adC adM H locs als kc ks hkc hks hC hM hDC hDM hdis hS hL
  obtain ⟨hlink, hinst, hsel, hini, hcode, hml, hpln, hm1, hm2, hpar⟩ := hs
  have hlen : ∀ sig, parseMethodDescriptor y.1.desc = some sig → n = sig.parameters.length := fun sig h => by
    rw [h] at hpar; exact (Option.some.inj hpar).symm
  have hgood : ∀ w ∈ goodTbl, w.before #[Value.ref b] s = true := X.2.2.2.2.2.2.1
  have hK := X.2.2.2.2.2.2.2.2.1
  have hfix : CallFix p m c code 4 s #[Value.ref b] goodTbl R_law := ⟨X.1, X.2.1, X.2.2.1, X.2.2.2.2.2.1, hgood⟩
  have eA : As.map (cv (ad3 b adC adM)) = As.map (cv adC) := cv_n hAs
  have hstk : (F0 m pc als (st.map (cv (ad3 b adC adM)))).stack = (As.map (cv adC)).reverse ++ .ref (adC 0) :: rest.map (cv (ad3 b adC adM)) := by
    show st.map (cv (ad3 b adC adM)) = _
    rw [hst, List.map_append, List.map_reverse, eA]
    rfl
  obtain ⟨r, hr1, hr2⟩ := Option.map_eq_some_iff.mp hc
  have hrecv := va_recv hK hC hr1 (wl_at hp : (wl adC kd MC 0 wdC)[0]? = some (adC 0, .inr (ci, fv adC (MC.1 0) 0 fds)))
  rw [hr2] at hrecv
  have hpre : PreV s H y.1.cls (adC 0) (pcOf D adC kd wdC (vr 0 :: As) MC) (As.map (cv adC)) := ⟨pc_blind, hrecv, fun U hU hW => ⟨rfl, by rw [hU]; exact hC, va_K.moved hW.alike hK, fun w hw => nest_warm hw hW (X.2.2.2.2.2.2.2.1 w hw), hDC.weaken (fun _ _ _ _ => trivial)⟩⟩
  have hloc : 8 + (y.2.2.1 + 11) + (rmL d).locals ≤ room_1.locals := by show 8 + (y.2.2.1 + 11) + 64 * d ≤ 84000; omega
  have hfr : (rmL d).frames + 1 ≤ room_1.frames := by show d + 1 ≤ 2048; omega
  have hroom : 2 * (F0 m pc als (st.map (cv (ad3 b adC adM)))).monitorRoom + ((rest.map (cv (ad3 b adC adM))).map fun v => v.category).sum ≤ 8 := lv_room (by rw [cat_sum]; exact hrest)
  have hpay : ∀ w ∈ wsOf y, ∀ (a' : Array Value) (U : State), s.WarmedH U.vm → w.before a' U = true :=
    pay_in (big := goodTbl) hgood (fun w hw => by
      rcases List.mem_cons.mp hw with rfl | hw
      · exact ⟨hcode, good_of hcode⟩
      · exact ⟨hw, good_of hw⟩)
  have hrun : va_Run p l e room_1 s m #[Value.ref b] below meth c H locs kc ks 0 0 (F0 m pc als (st.map (cv (ad3 b adC adM)))) (rest.map (cv (ad3 b adC adM))) (qcOf D adC kd wdC P (Value.ref (adC 0) :: As.map (cv adC)).toArray) (AA adC wdC) := by
    rcases hlink with hl | ⟨host, hl⟩
    · exact va_runV hfix (hw l D adC kd) ⟨⟨rfl, rfl, hfr, hloc, hpay, List.mem_cons_self, hgood _ hcode, hgood _ hini, ⟨hm1, hm2⟩, hlen, hgood _ hl⟩, hgood _ hinst, hgood _ hsel⟩ hpre rfl (by rw [List.length_map]; exact hn) hL.1 hstk hroom hd ⟨hkc, hks⟩
    · exact va_runVN hfix (hw l D adC kd) ⟨⟨⟨rfl, rfl, hfr, hloc, hpay, List.mem_cons_self⟩, hgood _ hcode, hgood _ hini, ⟨hm1, hm2⟩, hlen, va_Nw.use rfl (X.2.2.2.2.2.2.2.1 _ hl)⟩, hgood _ hinst, hgood _ hsel⟩ hpre rfl (by rw [List.length_map]; exact hn) hL.1 hstk hroom hd ⟨hkc, hks⟩
  intro T hT XT
  obtain ⟨v, st₀, t, T', LL, h0, X', hLL, e1, e2, ⟨w, M', hpp, hv, hb, hz, hk⟩, stp⟩ := hrun T hT XT
  have hv : v = w.map (cv adC) := by injection hv
  obtain ⟨z, rfl, hkz⟩ := kk w M' hpp
  subst hv
  rw [h0] at hz hk
  have hAf := frs_S hDC
  have hkk : ∀ q : Nat, q < H.size → ¬ AA adC wdC q → T'.heap[q]? = H[q]? := fun q h1 h2 => by rw [e1]; exact hk q h1 h2
  have k2 := hkz p l e s m below meth c b D kd X adC adM T'.heap (locs ++ LL) als kc ks hkc hks (by rw [e1]; exact hb) (wl_kept hM hdis hkk) (wl_D hDC _) hDM hdis ⟨Nat.le_trans hS.1 (by rw [e1]; exact hz), fun q h1 h2 => by rw [hkk q (Nat.lt_of_lt_of_le h1 hS.1) (fun h => h2 (hAf q h))]; exact hS.2.1 q h1 h2, fun q hq => by
      rcases List.mem_append.mp hq with h | h
      · exact hS.2.2 q h
      · exact hAf _ (hLL q h)⟩ hL
  obtain ⟨t2, a1, b1⟩ := k2 T' rfl X'
  exact ⟨t2, stp t2 a1, b1⟩
theorem h_callM {idx n d : Nat} {y : MD} {As : List AV} {P : Option AV → Mem → Prop} {fds : List (Option Nat)} {ci : Nat} (hd : decode code pc = .ok (.invokevirtual idx, 3)) (hs : VOK R_law idx y n) (hw : WP wdM d y (vr 0 :: As) MM P) (hst : st = As.reverse ++ vr 2 :: rest) (hn : As.length = n) (hAs : As.all isN = true) (hp : wdM[0]? = some (.inr (ci, fds))) (hc : (vwCl[ci]?).map (fun r => r.1) = some y.1.cls) (hdd : d ≤ 100) (hrest : (rest.map catv).sum ≤ 8) (kk : ∀ v M', P v M' → ∃ z, v = some (vi z) ∧ GL L xs (pc + 3) ls (vi z :: rest) MC M') : GL L xs pc ls st MC MM := by
  intro p l e s m below meth c b D kd X adC adM H locs als kc ks hkc hks hC hM hDC hDM hdis hS hL
  obtain ⟨hlink, hinst, hsel, hini, hcode, hml, hpln, hm1, hm2, hpar⟩ := hs
  have hlen : ∀ sig, parseMethodDescriptor y.1.desc = some sig → n = sig.parameters.length := fun sig h => by
    rw [h] at hpar; exact (Option.some.inj hpar).symm
  have hgood : ∀ w ∈ goodTbl, w.before #[Value.ref b] s = true := X.2.2.2.2.2.2.1
  have hK := X.2.2.2.2.2.2.2.2.1
  have hfix : CallFix p m c code 4 s #[Value.ref b] goodTbl R_law := ⟨X.1, X.2.1, X.2.2.1, X.2.2.2.2.2.1, hgood⟩
  have eA : As.map (cv (ad3 b adC adM)) = As.map (cv adM) := cv_n hAs
  have hstk : (F0 m pc als (st.map (cv (ad3 b adC adM)))).stack = (As.map (cv adM)).reverse ++ .ref (adM 0) :: rest.map (cv (ad3 b adC adM)) := by
    show st.map (cv (ad3 b adC adM)) = _
    rw [hst, List.map_append, List.map_reverse, eA]
    rfl
  obtain ⟨r, hr1, hr2⟩ := Option.map_eq_some_iff.mp hc
  have hrecv := va_recv hK hM hr1 (wl_at hp : (wl adM kd MM 0 wdM)[0]? = some (adM 0, .inr (ci, fv adM (MM.1 0) 0 fds)))
  rw [hr2] at hrecv
  have hpre : PreV s H y.1.cls (adM 0) (pcOf D adM kd wdM (vr 0 :: As) MM) (As.map (cv adM)) := ⟨pc_blind, hrecv, fun U hU hW => ⟨rfl, by rw [hU]; exact hM, va_K.moved hW.alike hK, fun w hw => nest_warm hw hW (X.2.2.2.2.2.2.2.1 w hw), hDM.weaken (fun _ _ _ _ => trivial)⟩⟩
  have hloc : 8 + (y.2.2.1 + 11) + (rmL d).locals ≤ room_1.locals := by show 8 + (y.2.2.1 + 11) + 64 * d ≤ 84000; omega
  have hfr : (rmL d).frames + 1 ≤ room_1.frames := by show d + 1 ≤ 2048; omega
  have hroom : 2 * (F0 m pc als (st.map (cv (ad3 b adC adM)))).monitorRoom + ((rest.map (cv (ad3 b adC adM))).map fun v => v.category).sum ≤ 8 := lv_room (by rw [cat_sum]; exact hrest)
  have hpay : ∀ w ∈ wsOf y, ∀ (a' : Array Value) (U : State), s.WarmedH U.vm → w.before a' U = true :=
    pay_in (big := goodTbl) hgood (fun w hw => by
      rcases List.mem_cons.mp hw with rfl | hw
      · exact ⟨hcode, good_of hcode⟩
      · exact ⟨hw, good_of hw⟩)
  have hrun : va_Run p l e room_1 s m #[Value.ref b] below meth c H locs kc ks 0 0 (F0 m pc als (st.map (cv (ad3 b adC adM)))) (rest.map (cv (ad3 b adC adM))) (qcOf D adM kd wdM P (Value.ref (adM 0) :: As.map (cv adM)).toArray) (AA adM wdM) := by
    rcases hlink with hl | ⟨host, hl⟩
    · exact va_runV hfix (hw l D adM kd) ⟨⟨rfl, rfl, hfr, hloc, hpay, List.mem_cons_self, hgood _ hcode, hgood _ hini, ⟨hm1, hm2⟩, hlen, hgood _ hl⟩, hgood _ hinst, hgood _ hsel⟩ hpre rfl (by rw [List.length_map]; exact hn) hL.1 hstk hroom hd ⟨hkc, hks⟩
    · exact va_runVN hfix (hw l D adM kd) ⟨⟨⟨rfl, rfl, hfr, hloc, hpay, List.mem_cons_self⟩, hgood _ hcode, hgood _ hini, ⟨hm1, hm2⟩, hlen, va_Nw.use rfl (X.2.2.2.2.2.2.2.1 _ hl)⟩, hgood _ hinst, hgood _ hsel⟩ hpre rfl (by rw [List.length_map]; exact hn) hL.1 hstk hroom hd ⟨hkc, hks⟩
  intro T hT XT
  obtain ⟨v, st₀, t, T', LL, h0, X', hLL, e1, e2, ⟨w, M', hpp, hv, hb, hz, hk⟩, stp⟩ := hrun T hT XT
  have hv : v = w.map (cv adM) := by injection hv
  obtain ⟨z, rfl, hkz⟩ := kk w M' hpp
  subst hv
  rw [h0] at hz hk
  have hAf := frs_S hDM
  have hkk : ∀ q : Nat, q < H.size → ¬ AA adM wdM q → T'.heap[q]? = H[q]? := fun q h1 h2 => by rw [e1]; exact hk q h1 h2
  have k2 := hkz p l e s m below meth c b D kd X adC adM T'.heap (locs ++ LL) als kc ks hkc hks (wl_kept hC (fun i j hi hj z => hdis j i hj hi z.symm) hkk) (by rw [e1]; exact hb) hDC (wl_D hDM _) hdis ⟨Nat.le_trans hS.1 (by rw [e1]; exact hz), fun q h1 h2 => by rw [hkk q (Nat.lt_of_lt_of_le h1 hS.1) (fun h => h2 (hAf q h))]; exact hS.2.1 q h1 h2, fun q hq => by
      rcases List.mem_append.mp hq with h | h
      · exact hS.2.2 q h
      · exact hAf _ (hLL q h)⟩ hL
  obtain ⟨t2, a1, b1⟩ := k2 T' rfl X'
  exact ⟨t2, stp t2 a1, b1⟩
end ROWSL
