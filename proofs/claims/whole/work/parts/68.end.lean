/-! MODULE 64: the law from its start; the claim. -/
theorem start_call {p : Program} {l : Launch} {e : Env} {s : State} {m : MethodId} {below : List Frame} {meth : Method} {c : Code} {b : Nat} {D : va_G} {kd : Nat → ClassId} {Q : State → Prop} (hx : p.tables.exec = Jvm.exec) (hb : c.code = code) (hml : c.maxLocals = 4) (hown : s.vm.findClass R_law = some m.cls) (hgood : ∀ w ∈ goodTbl, w.before #[Value.ref b] s = true) (hnest : ∀ w ∈ nestW, va_Nw w s) (hK : va_K D vwCl (tysOf kd) s)
    {y : MD} {idx pc d mc ms kc ks q : Nat} {sh : Sh} {wd' : List Sh} {M' : Mem} {H : Heap} {locs : List Loc} {als : Array Slot} {lv : List (Nat × Value)} {A : Nat → Prop} (hs : IOK R_law idx y 0) (hw : WN [sh] Mz [vr 0] wd' M' d mc ms y) (hd : decode code pc = .ok (.invokespecial idx, 3)) (hdd : d ≤ 100) (hcc : kc + mc ≤ 600000) (hss : ks + ms ≤ 7302250) (hl : lv_has als 4 lv) (hP : va_P D vwCl (wlN (fun _ => q) kd Mz 0 [sh]) H) (hD : va_D A (wlN (fun _ => q) kd Mz 0 [sh])) (hA : ∀ a, H.size ≤ a → A a) (hAf : ∀ a, A a → s.heap.size ≤ a) (hS : va_S (frs s) s.heap H locs)
    (kk : ∀ (ad : Nat → Nat) (H1 : Heap) (locs1 : List Loc), ad 0 = q → va_P D vwCl (wlN ad kd M' 0 wd') H1 → va_D A (wlN ad kd M' 0 wd') → H.size ≤ H1.size → (∀ a : Nat, a < H.size → ¬ A a → H1[a]? = H[a]?) → va_S (frs s) s.heap H1 locs1 → W p l e room_1 s m #[Value.ref b] below meth c H1 locs1 (kc + mc) (ks + ms) Q (F0 m (pc + 3) als [.ref q])) :
    W p l e room_1 s m #[Value.ref b] below meth c H locs kc ks Q (F0 m pc als [.ref q, .ref q]) := by
  obtain ⟨hlink, hinst, hini, hcode, hml2, ⟨hm1, hm2, hpar⟩, hnm, hret⟩ := hs
  have hlen : ∀ sig, parseMethodDescriptor y.1.desc = some sig → 0 = sig.parameters.length := fun sig h => by
    rw [h] at hpar; exact (Option.some.inj hpar).symm
  have hfix : CallFix p m c code 4 s #[Value.ref b] goodTbl R_law := ⟨hx, hb, hml, hown, hgood⟩
  have hpre : PreS s H (pcN D (fun _ => q) kd [sh] [vr 0] Mz A) (.ref q :: []) := ⟨pcN_blind, fun U hU hW => ⟨rfl, by rw [hU]; exact hP, va_K.moved hW.alike hK, fun w hw => nest_warm hw hW (hnest w hw), hD, fun a ha => hA a (by rw [hU] at ha; exact ha)⟩⟩
  have hloc : 8 + (y.2.2.1 + 11) + (rmN d mc ms).locals ≤ room_1.locals := by show 8 + (y.2.2.1 + 11) + 64 * d ≤ 84000; omega
  have hfr : (rmN d mc ms).frames + 1 ≤ room_1.frames := by show d + 1 ≤ 2048; omega
  have hpay : ∀ w ∈ wsOf y, ∀ (a' : Array Value) (U : State), s.WarmedH U.vm → w.before a' U = true :=
    pay_in (big := goodTbl) hgood (fun w hw => by
      rcases List.mem_cons.mp hw with rfl | hw
      · exact ⟨hcode, good_of hcode⟩
      · exact ⟨hw, good_of hw⟩)
  have hrun : va_Run p l e room_1 s m #[Value.ref b] below meth c H locs kc ks mc ms (F0 m pc als [.ref q, .ref q]) [.ref q] (qcN D (fun _ => q) kd 1 wd' M' A (Value.ref q :: []).toArray) A := by
    obtain ⟨y1, y2, y3, y4⟩ := y
    obtain rfl : y4 = none := hret
    rcases hlink with hl2 | ⟨host, hl2⟩
    · exact va_runI (As := []) (rest := [.ref q]) hfix (hw l D (fun _ => q) kd A) ⟨⟨rfl, rfl, hfr, hloc, hpay, List.mem_cons_self, hgood _ hcode, hgood _ hini, ⟨hm1, hm2⟩, hlen, hgood _ hl2⟩, hnm, hgood _ hinst⟩ hpre rfl rfl hl.1 rfl (lv_room (by show 1 + 0 ≤ 8; decide)) hd ⟨hcc, hss⟩
    · exact va_runIN (As := []) (rest := [.ref q]) hfix (hw l D (fun _ => q) kd A) ⟨⟨⟨rfl, rfl, hfr, hloc, hpay, List.mem_cons_self⟩, hgood _ hcode, hgood _ hini, ⟨hm1, hm2⟩, hlen, va_Nw.use rfl (hnest _ hl2)⟩, hnm, hgood _ hinst⟩ hpre rfl rfl hl.1 rfl (lv_room (by show 1 + 0 ≤ 8; decide)) hd ⟨hcc, hss⟩
  intro T hT XT
  obtain ⟨v, st₀, t, T', LL, h0, X', hLL, e1, e2, ⟨hv, ⟨ad', had', hb2, hbD⟩, hz, hk⟩, stp⟩ := hrun T hT XT
  have hv : v = none := by injection hv
  subst hv
  rw [h0] at hz hk
  have hkk : ∀ a : Nat, a < H.size → ¬ A a → T'.heap[a]? = H[a]? := fun a h1 h2 => by rw [e1]; exact hk a h1 h2
  have k2 := kk ad' T'.heap (locs ++ LL) (had' 0 (by decide)) (by rw [e1]; exact hb2) hbD (by rw [e1]; exact hz) hkk ⟨Nat.le_trans hS.1 (by rw [e1]; exact hz), fun a h1 h2 => by rw [hkk a (Nat.lt_of_lt_of_le h1 hS.1) (fun h => h2 (hAf a h))]; exact hS.2.1 a h1 h2, fun x hx2 => by
      rcases List.mem_append.mp hx2 with h | h
      · exact hS.2.2 x h
      · exact hAf _ (hLL x h)⟩
  obtain ⟨t2, a1, b1⟩ := k2 T' rfl X'
  exact ⟨t2, stp t2 a1, b1⟩
theorem whole_start {p : Program} {e : Env} {s : State} {m : MethodId} {below : List Frame} {meth : Method} {c : Code} (l : Launch) (hflags : l.flags = flags0) {b L : Nat} {xs : Nat → Int32} (hL : L ≤ 4608) (C0 : lw_At p s m meth c b L xs) : W p l e room_1 s m #[Value.ref b] below meth c s.heap [] 0 0 (lw_Z below #[Value.ref b] s) (entryFrame m ([Value.ref b] : List Value).toArray 4) := by
  obtain ⟨hx, hb, hr, hml, hown, hts, hX, hbl, hlk, hgv⟩ := C0
  have hgood : ∀ w ∈ goodTbl, w.before #[Value.ref b] s = true := fun w hw => hts w (List.mem_filter.mp hw).1
  have hnest : ∀ w ∈ nestW, va_Nw w s := fun w hw => va_Nw.of (nest_on hw) (hts w (List.mem_filter.mp hw).1)
  obtain ⟨D, kd, hK⟩ := mkK hgood
  have hl := lv_entry ([Value.ref b]) (n := 4) (Nat.le_of_ble_eq_true rfl)
  rw [lg_entry_eq]
  generalize (lg_sl ([Value.ref b]) ++ List.replicate (4 - (lg_sl ([Value.ref b])).length) Slot.unset).toArray = als at hl ⊢
  have hl : lv_has als 4 [(0, .ref b)] := hl
  have hfr : ∀ a, s.heap.size ≤ a → frs s a := fun _ h => h
  -- the class's object
  refine va_new (ws := []) (cells := 0) (slots := 0) (ci := 8) (fs := fvN (fun _ => 0) (fun _ => 0) 0 [some 1000, some 1000, some 1000, some 1000, some 1000, some 1000, some 1000, none]) (C := RX9) (T := TX9) (N := 8) hx hb hgood (clsOK 8 RX9 TX9 8 rfl).1 tyX9 tyX9_ok hown (hgood _ clL_7) (hgood _ inX9) (hgood _ iiX9) hK (fun k q h => by simp at h) ⟨fun i j p q h => by simp at h, fun k q h => by simp at h⟩ va_S.rf hfr rfl (fsX9 _) (by show 0 + 1 ≤ 600000; decide) (by show 0 + 8 ≤ 7302250; decide) dL_law_0 (fun q H hP hD hS => ?_)
  refine lv_dup hx hb dL_law_3 rfl ?_
  refine start_call (kc := 0 + 1) (ks := 0 + 8) (sh := .inr (8, [some 1000, some 1000, some 1000, some 1000, some 1000, some 1000, some 1000, none])) (A := frs s) hx hb hml hown hgood hnest hK liL_9 n_class dL_law_4 (by decide) (by decide) (by decide) hl hP hD (fun a h => Nat.le_trans hS.1 h) (fun _ h => h) hS (fun adC H1 locs h0 hP1 hD1 hz hk hS1 => ?_)
  rw [wlN_wl adC kd MC0 wdC 0 rfl] at hP1 hD1
  subst h0
  refine lv_astore_n (lv' := [(1, .ref (adC 0)), (0, .ref b)]) hx hb dL_law_7 rfl hl (by decide) rfl (fun als hl => ?_)
  -- the reference's object
  refine va_new (ws := wl adC kd MC0 0 wdC) (ci := 9) (fs := fvN (fun _ => 0) (fun _ => 0) 0 [some 1000, some 1000, some 1000, some 1000, some 1000, some 1000, some 1000, some 1000, some 1000, some 1000, some 1000, some 1000, none, none, none, none, none, none, none, none, none, none, some 1000, some 1000, some 1000, some 1000, some 1000, some 1000, none, none, none, none, none, none, none, some 1000, some 1000, none, none, none, some 1000, some 1000]) (C := RX10) (T := TX10) (N := 42) hx hb hgood (clsOK 9 RX10 TX10 42 rfl).1 tyX10 tyX10_ok hown (hgood _ clL_10) (hgood _ inX10) (hgood _ iiX10) hK hP1 hD1 hS1 hfr rfl (fsX10 _) (by show _ ≤ 600000; decide) (by show _ ≤ 7302250; decide) dL_law_8 (fun q H2 hP2 hD2 hS2 => ?_)
  refine lv_dup hx hb dL_law_11 rfl ?_
  have hlenC : (wl adC kd MC0 0 wdC).length = 71 := rfl
  have hq : (wl adC kd MC0 0 wdC ++ [(q, Sum.inr (9, fvN (fun _ => 0) (fun _ => 0) 0 [some 1000, some 1000, some 1000, some 1000, some 1000, some 1000, some 1000, some 1000, some 1000, some 1000, some 1000, some 1000, none, none, none, none, none, none, none, none, none, none, some 1000, some 1000, some 1000, some 1000, some 1000, some 1000, none, none, none, none, none, none, none, some 1000, some 1000, none, none, none, some 1000, some 1000]))])[71]? = some (q, Sum.inr (9, fvN (fun _ => 0) (fun _ => 0) 0 [some 1000, some 1000, some 1000, some 1000, some 1000, some 1000, some 1000, some 1000, some 1000, some 1000, some 1000, some 1000, none, none, none, none, none, none, none, none, none, none, some 1000, some 1000, some 1000, some 1000, some 1000, some 1000, none, none, none, none, none, none, none, some 1000, some 1000, none, none, none, some 1000, some 1000])) := by
    rw [List.getElem?_append_right (by rw [hlenC]; decide), hlenC]
    rfl
  have hCat : ∀ i, i < 71 → ∃ x, (wl adC kd MC0 0 wdC)[i]? = some (adC i, x) := fun i hi => by
    obtain ⟨sh, hsh⟩ : ∃ sh, wdC[i]? = some sh := ⟨wdC[i]'hi, List.getElem?_eq_getElem hi⟩
    exact ⟨_, wl_at hsh⟩
  have hne : ∀ i, i < 71 → adC i ≠ q ∧ adC i < H2.size ∧ s.heap.size ≤ adC i := fun i hi => by
    obtain ⟨x, hx2⟩ := hCat i hi
    have hx3 : (wl adC kd MC0 0 wdC ++ [(q, Sum.inr (9, fvN (fun _ => 0) (fun _ => 0) 0 [some 1000, some 1000, some 1000, some 1000, some 1000, some 1000, some 1000, some 1000, some 1000, some 1000, some 1000, some 1000, none, none, none, none, none, none, none, none, none, none, some 1000, some 1000, some 1000, some 1000, some 1000, some 1000, none, none, none, none, none, none, none, some 1000, some 1000, none, none, none, some 1000, some 1000]))])[i]? = some (adC i, x) := by
      rw [List.getElem?_append_left (by rw [hlenC]; exact hi)]; exact hx2
    refine ⟨fun z => ?_, (hP2 i _ hx3).lt, hD2.2 i _ hx3⟩
    have := hD2.1 i 71 _ _ hx3 hq z
    omega
  have hPq : va_P D vwCl (wlN (fun _ => q) kd Mz 0 [.inr (9, [some 1000, some 1000, some 1000, some 1000, some 1000, some 1000, some 1000, some 1000, some 1000, some 1000, some 1000, some 1000, none, none, none, none, none, none, none, none, none, none, some 1000, some 1000, some 1000, some 1000, some 1000, some 1000, none, none, none, none, none, none, none, some 1000, some 1000, none, none, none, some 1000, some 1000])]) H2 := fun k x h => by
    cases k with
    | zero => cases h; exact hP2 71 _ hq
    | succ k => simp [wlN] at h
  have hPC : va_P D vwCl (wl adC kd MC0 0 wdC) H2 := fun k x h => hP2 k x (by rw [List.getElem?_append_left (List.getElem?_eq_some_iff.mp h).1]; exact h)
  have hfq : s.heap.size ≤ q := hD2.2 71 _ hq
  refine start_call (sh := .inr (9, [some 1000, some 1000, some 1000, some 1000, some 1000, some 1000, some 1000, some 1000, some 1000, some 1000, some 1000, some 1000, none, none, none, none, none, none, none, none, none, none, some 1000, some 1000, some 1000, some 1000, some 1000, some 1000, none, none, none, none, none, none, none, some 1000, some 1000, none, none, none, some 1000, some 1000])) (A := fun a => a = q ∨ H2.size ≤ a) hx hb hml hown hgood hnest hK liL_12 n_model dL_law_12 (by decide) (by decide) (by decide) hl hPq ⟨fun i j x y h1 h2 _ => by
      cases i with
      | zero => cases j with
        | zero => rfl
        | succ j => simp [wlN] at h2
      | succ i => simp [wlN] at h1, fun k x h => by
      cases k with
      | zero => cases h; exact Or.inl rfl
      | succ k => simp [wlN] at h⟩ (fun a h => Or.inr h) (fun a h => by
      rcases h with rfl | h
      · exact hfq
      · exact Nat.le_trans hS2.1 h) hS2 (fun adM H3 locs3 h0 hP3 hD3 hz3 hk3 hS3 => ?_)
  rw [wlN_wl adM kd (alI 26) wdM 0 rfl] at hP3 hD3
  subst h0
  refine lv_astore_n (lv' := [(2, .ref (adM 0)), (1, .ref (adC 0)), (0, .ref b)]) hx hb dL_law_15 rfl hl (by decide) rfl (fun als hl => ?_)
  refine lv_iconst (v := 0) hx hb dL_law_16 rfl ?_
  refine lv_istore_n (lv' := [(3, .int 0), (2, .ref (adM 0)), (1, .ref (adC 0)), (0, .ref b)]) hx hb dL_law_17 rfl hl (by decide) rfl (fun als hl => ?_)
  have hdisM : ∀ i j, i < wdC.length → j < wdM.length → adC i ≠ adM j := fun i j hi hj z => by
    obtain ⟨sh, hsh⟩ : ∃ sh, wdM[j]? = some sh := ⟨wdM[j], List.getElem?_eq_getElem hj⟩
    have h2 := hD3.2 j _ (wl_at (ad := adM) (kd := kd) (M := alI 26) hsh)
    obtain ⟨n1, n2, n3⟩ := hne i hi
    rcases h2 with h2 | h2
    · exact n1 (z.trans h2)
    · have h2 : H2.size ≤ adM j := h2
      omega
  have hPC3 : va_P D vwCl (wl adC kd MC0 0 wdC) H3 := hPC.kept (fun k x h => by
    have hk71 : k < 71 := (List.getElem?_eq_some_iff.mp h).1
    obtain ⟨y, hy⟩ := hCat k hk71
    rw [h] at hy
    have e : x.1 = adC k := by cases hy; rfl
    obtain ⟨n1, n2, n3⟩ := hne k hk71
    rw [e]
    exact hk3 _ n2 (fun z => z.elim n1 (fun z => absurd z (by omega))))
  refine law_loop hL 512 0 MC0 (alI 26) (by omega) (by omega) inv0 p l e s m below meth c b D kd ⟨hx, hb, hml, hr, hlk, hown, hgood, hnest, hK, hX, hbl⟩ adC adM H3 locs3 als _ _ (by decide) (by decide) hPC3 hP3 hD1 (hD3.weaken (fun k x _ h => ?_)) hdisM hS3 ⟨hl.1, hl.2.1, fun i v hv => ?_⟩
  · rcases h with h | h
    · rw [h]; exact hfq
    · exact Nat.le_trans hS2.1 h
  · match i, hv with
    | 0, hv => cases hv; exact lv_at hl 3 rfl
    | 1, hv => cases hv; exact lv_at hl 2 rfl
    | 2, hv => cases hv; exact lv_at hl 1 rfl
    | 3, hv => cases hv; exact lv_at hl 0 rfl
    | n + 4, hv => simp at hv
set_option maxHeartbeats 4000000 in
theorem lw_walk (l : Launch) (hflags : l.flags = flags0) (b : Addr) (xs : List Int32) : MetFree l x (headSpec (Jvm.Cond.code x code maxLocals ret :: tables_1) room_1) (lw_P b xs) (fun _ _ _ _ _ => True) lw_Q := by
  refine MetFree.of_bodyS (code := code) (maxLocals := maxLocals) (ret := ret) (by decide) ?_ ?_
  · intro args s m h hn
    obtain ⟨meth, c, h1, h2, h3, h4, h5, h6, -, -⟩ := Cond.code_spec hn (atoms_spec (ws := Jvm.Cond.code x code maxLocals ret :: tables_1) h _ List.mem_cons_self)
    exact ⟨meth, c, h1, h2, h3, h4, h5, h6⟩
  · intro p e s m args below meth c s₁ B hml0 hP _
    obtain ⟨rfl, hx, hbd, hgv⟩ := hP
    obtain ⟨scr, harrAt, hlist, hof, hsmall⟩ := hx
    obtain ⟨hcb, hkn, -, -⟩ := State.arrayAt?_spec harrAt
    have hown : s.vm.findClass R_law = some m.cls := findClass_of_methodNamed B.named
    have hts0 : ∀ c ∈ (Jvm.Cond.code x code maxLocals ret :: tables_1), c.before #[Value.ref b] s = true := atoms_spec (ws := Jvm.Cond.code x code maxLocals ret :: tables_1) B.pre
    have hts : ∀ w ∈ lw_tbl, w.before #[Value.ref b] s = true := k2_hts_sels lw_privs (fun w hw => hts0 w (List.mem_cons_of_mem _ hw)) lw_privs_ok
    have hml : c.maxLocals = 4 := B.maxLocals_eq (hts0 _ List.mem_cons_self)
    have X₀ : Stand p l e room_1 s m #[Value.ref b] below meth c s₁ [] 0 0 := Stand.of_body B
    have hh0 : s₁.heap = s.heap := by rw [B.state]; rfl
    have hsz : scr.slots.size = xs.length := by rw [← Array.length_toList, hlist, List.length_map]
    have hval : ∀ j : Nat, j < xs.length → scr.slots[j]? = some (.int (xs.getD j 0)) := fun j hj => by
      rw [← Array.getElem?_toList, hlist]
      simp [hj]
    have hbl : b < s.heap.size := (Array.getElem?_eq_some_iff.mp hcb).1
    have hX : va_X b xs.length (fun j => xs.getD j 0) s s.heap := ⟨scr, hcb, hof, hkn, hsz, hval⟩
    have K : W p l e room_1 s m #[Value.ref b] below meth c s₁.heap [] 0 0 (lw_Z below #[Value.ref b] s) (entryFrame m ([Value.ref b] : List Value).toArray 4) := by
      rw [hh0]
      exact whole_start l hflags hbd ⟨B.exec, B.bytes, B.returns, hml, hown, hts, hX, hbl, B.notSynchronized, hgv⟩
    obtain ⟨t, a1, o, b1, b2, b3⟩ := K s₁ rfl X₀
    exact ⟨t, o, a1, b1, b2, b3⟩
theorem lw_pre_spec {args : Array Value} {s : State} (h : (Jvm.Cond.and given_1 narrow_1).before args s = true) (hr : rest_1_c.before args s = true) : ∃ (b : Addr) (xs : List Int32), lw_P b xs args s := by
  have hs := flat_of_before _ h
  have hq := flat_of_before _ hr
  have hc : (Cond.count 1).before args s = true := hs _ (by decide +kernel)
  have harr : (Cond.arrayOf (.arg 0) .int).before args s = true := hs _ (by decide +kernel)
  have hle : (Cond.le (.length (.arg 0)) (.int 4608)).before args s = true := hs _ (by decide +kernel)
  have hlen : (Cond.isInt (.length (.arg 0))).before args s = true := hq _ (by decide +kernel)
  have hall : (Cond.all (.arg 0) (.isInt (.elem (.arg 0) (.index 0)))).before args s = true := hq _ (by decide +kernel)
  obtain ⟨b, xs, hb, hx⟩ := State.ints_of_pre rfl harr hlen hall
  have hsm : xs.length < 2 ^ 31 := hx.choose_spec.2.2.2
  have hev : (Term.length (.arg 0)).eval args s none [] s = some (.int xs.length.toInt32) := hx.length_eval hb
  have hv := Cond.le_ints hev (show (Term.int 4608).eval args s none [] s = some (.int 4608) from rfl)
  have hd : xs.length.toInt32 ≤ 4608 := by
    simpa [Cond.before, Cond.holds, hv] using hle
  have hN : xs.length ≤ 4608 := (Int32.ofNat_le_ofNat hsm (by decide)).mp (show Int32.ofNat xs.length ≤ Int32.ofNat 4608 from hd)
  exact ⟨b, xs, Cond.one_arg hc (show args[0]? = some (.ref b) from hb), hx, hN, h⟩
theorem lw_comes (l : Launch) (hflags : l.flags = flags0) : Comes l x (Jvm.Cond.code x code maxLocals ret :: tables_1) room_1 (fun tb e args s => Calls_1 tb e args s ∧ rest_1 tb e args s ∧ Pre_1 tb e args s)
    (fun _ _ args s o t => lw_Q args s o t) := by
  intro p e ha hc hk s m args below hf hfit hheap happ hpre
  obtain ⟨b, xs, hP⟩ := lw_pre_spec hpre.2.2 hpre.2.1
  obtain ⟨k, o, h1, h2, h3, hQ⟩ := lw_walk l hflags b xs p e ha hc hk s m args below hf ((Spec.applies_iff_loose hf).mp happ).1 hP trivial
  exact ⟨k, o, h1, h2, h3, hQ⟩
theorem lw_frame {s t : State} {o : Outcome} {args : Array Value} (h : Framed s o t [] 600000 7302250) :
    Framed s o t (fieldLocs frame_1_writes args s ++ arrayLocs frame_1_arrays args s ++ staticLocs frame_1_statics s) 600000 7302250 := h
theorem lw_limb (L : Cond) (hL : ∀ (args : Array Value) (s t : State), L.after args s (.returned (some (.int 1))) t = true) :
    ArmFor flags0 classFile x code maxLocals ret World_1 tables_1 room_1 Calls_1 rest_1 Pre_1
      (fun tb e a s o t => postC L tb e a s o t ∧ Framed s o t (fieldLocs frame_1_writes a s ++ arrayLocs frame_1_arrays a s ++ staticLocs frame_1_statics s) 600000 7302250) := by
  intro l hflags _ _ p e ha hc hk s m args below hf hfit hheap happ hpre
  obtain ⟨k, o, h1, h2, h3, rfl, hF⟩ := lw_comes l hflags p e ha hc hk s m args below hf hfit hheap happ hpre
  exact ⟨k, _, h1, h2, h3, hL args s _, lw_frame hF⟩
theorem i_vc : Claimed_1_1 ∧ Claimed_1_2 := ⟨lw_limb limb_1_1 (fun args s t => by simp [limb_1_1, Cond.after, Cond.holds, Cond.value]), lw_limb limb_1_2 (fun args s t => Cond.after_iff.mpr (by
  first | (rw [show limb_1_2 = Cond.eq .result (.int 1) from rfl, Cond.eq_ints (x := 1) (y := 1) rfl rfl]; simp; done) | (simp [limb_1_2, Cond.value, Term.eval]; done)))⟩
