/-! MODULE 4: fields, arrays, switches, returns, calls. -/
theorem nest_on {w : Cond} (hw : w ∈ nestW) : w.onTables = true := by
  have h := (List.mem_filter.mp hw).2
  cases w <;> first | rfl | (simp [isNest] at h)
theorem nest_warm {w : Cond} (hw : w ∈ nestW) {s U : State} (hW : s.WarmedH U.vm) (h : va_Nw w s) : va_Nw w U := by
  have h1 := (List.mem_filter.mp hw).2
  cases w <;> first | exact va_Nw.warmF hW h | exact va_Nw.warmM hW h | (simp [isNest] at h1)
theorem good_of {w : Cond} (hw : w ∈ goodTbl) : (w.onTables && w.keeps) = true ∨ ∃ ty, w = .arrayClass ty := good_of_word (List.mem_filter.mp hw).2
section ROWS2
variable {wd : List Sh} {q : MD} {d : Nat} {Post Post' : Option AV → Mem → Prop} {pc : Nat} {ls ls' : List (Option AV)} {st rest : List AV} {M : Mem}
theorem si_self {M : Mem} {p k : Nat} {z : Int} {fds : List (Option Nat)} {ad : Nat → Nat} (hk : fds[k]? = some none) : (fv ad (M.1 p) 0 fds).set k (.int (Int32.ofInt z)) = fv ad ((si M p k z).1 p) 0 fds := by
  rw [fv_set ad (M.1 p) z fds 0 k hk]
  exact fv_ext ad _ _ fds 0 (fun i _ => by simp [si])
theorem g_get {idx ci k N p : Nat} {C : String} {T : u_T} {fds : List (Option Nat)} (hd : decode q.2.1 pc = .ok (.getfield idx, 3)) (hf : FOK q.1.cls idx ci k C T N) (hp : wd[p]? = some (.inr (ci, fds))) (hk : fds[k]? = some none) (kk : G wd q d Post (pc + 3) ls (vi (M.1 p k) :: st) M) : G wd q d Post pc ls (vr p :: st) M := by
  intro p0 l e s m args below meth c D ad kd X H locs als hP hS hL
  obtain ⟨hc, hT, hN, hlink⟩ := hf
  have he : (wl ad kd M 0 wd)[p]? = some (ad p, .inr (ci, fv ad (M.1 p) 0 fds)) := wl_at hp
  have hv : (fv ad (M.1 p) 0 fds)[k]? = some (.int (Int32.ofInt (M.1 p k))) := by have := fv_int ad (M.1 p) fds 0 k hk; simpa using this
  have hin := (clsOK ci C T N hc).1
  have kw := kk p0 l e s m args below meth c D ad kd X H locs als hP hS hL
  rcases hlink with hl | ⟨host, hl⟩
  · exact va_get X.1 X.2.1 X.good hin X.2.2.2.2.2.1 X.2.2.2.2.2.2.2.2.1 hP p he hc k hN (X.good _ hl) (fun x h => by rwa [hT] at h) hv hd kw
  · exact va_getN X.1 X.2.1 X.good hin X.2.2.2.2.2.1 X.2.2.2.2.2.2.2.2.1 hP p he hc k hN (va_Nw.use rfl (X.2.2.2.2.2.2.2.1 _ hl)) (fun x h => by rwa [hT] at h) hv hd kw
theorem g_getr {idx ci k N p p' : Nat} {C : String} {T : u_T} {fds : List (Option Nat)} (hd : decode q.2.1 pc = .ok (.getfield idx, 3)) (hf : FOK q.1.cls idx ci k C T N) (hp : wd[p]? = some (.inr (ci, fds))) (hk : fds[k]? = some (some p')) (kk : G wd q d Post (pc + 3) ls (vr p' :: st) M) : G wd q d Post pc ls (vr p :: st) M := by
  intro p0 l e s m args below meth c D ad kd X H locs als hP hS hL
  obtain ⟨hc, hT, hN, hlink⟩ := hf
  have he : (wl ad kd M 0 wd)[p]? = some (ad p, .inr (ci, fv ad (M.1 p) 0 fds)) := wl_at hp
  have hv : (fv ad (M.1 p) 0 fds)[k]? = some (.ref (ad p')) := fv_ref ad (M.1 p) fds 0 k p' hk
  have hin := (clsOK ci C T N hc).1
  have kw := kk p0 l e s m args below meth c D ad kd X H locs als hP hS hL
  rcases hlink with hl | ⟨host, hl⟩
  · exact va_get X.1 X.2.1 X.good hin X.2.2.2.2.2.1 X.2.2.2.2.2.2.2.2.1 hP p he hc k hN (X.good _ hl) (fun x h => by rwa [hT] at h) hv hd kw
  · exact va_getN X.1 X.2.1 X.good hin X.2.2.2.2.2.1 X.2.2.2.2.2.2.2.2.1 hP p he hc k hN (va_Nw.use rfl (X.2.2.2.2.2.2.2.1 _ hl)) (fun x h => by rwa [hT] at h) hv hd kw
theorem g_putg {idx ci k N p : Nat} {C : String} {T : u_T} {fds : List (Option Nat)} {z : Int} {ty : FieldType} (hty : parseFieldDescriptor (T k).2.2.1 = some ty) (hn : narrow ty (.int (Int32.ofInt z)) = .int (Int32.ofInt z)) (hfit : fits ty (.int (Int32.ofInt z)) = true) (hd : decode q.2.1 pc = .ok (.putfield idx, 3)) (hf : FOK q.1.cls idx ci k C T N) (hp : wd[p]? = some (.inr (ci, fds))) (hk : fds[k]? = some none) (hfin : (T k).2.2.2 = false) (kk : G wd q d Post (pc + 3) ls st (si M p k z)) : G wd q d Post pc ls (vi z :: vr p :: st) M := by
  intro p0 l e s m args below meth c D ad kd X H locs als hP hS hL
  obtain ⟨hc, hT, hN, hlink⟩ := hf
  have he : (wl ad kd M 0 wd)[p]? = some (ad p, .inr (ci, fv ad (M.1 p) 0 fds)) := wl_at hp
  obtain ⟨hin, ⟨ty0, hty0⟩, hnm⟩ := clsOK ci C T N hc
  have hlen : k < (fv ad (M.1 p) 0 fds).length := by rw [fv_len]; exact (List.getElem?_eq_some_iff.mp hk).1
  have hset : (wl ad kd M 0 wd).set p (ad p, .inr (ci, (fv ad (M.1 p) 0 fds).set k (.int (Int32.ofInt z)))) = wl ad kd (si M p k z) 0 wd := by
    rw [si_self hk]
    exact wl_set (M' := si M p k z) hp (fun p' h => si_1 M p k z p' h) (fun _ _ => rfl)
  have kw : ∀ (H1 : Heap) (locs1 : List Loc), va_P D vwCl ((wl ad kd M 0 wd).set p (ad p, .inr (ci, (fv ad (M.1 p) 0 fds).set k (.int (Int32.ofInt z))))) H1 → va_D (AA ad wd) ((wl ad kd M 0 wd).set p (ad p, .inr (ci, (fv ad (M.1 p) 0 fds).set k (.int (Int32.ofInt z))))) → va_S (AA ad wd) s.heap H1 locs1 → W p0 l e (rmL d) s m args below meth c H1 locs1 0 0 (MQ below (qcOf D ad kd wd Post) args s 0 0 (AA ad wd)) (F0 m (pc + 3) als (st.map (cv ad))) := by
    intro H1 locs1 hP1 _ hS1
    rw [hset] at hP1
    exact kk p0 l e s m args below meth c D ad kd X H1 locs1 als hP1 hS1 hL
  rcases hlink with hl | ⟨host, hl⟩
  · exact va_put X.1 X.2.1 X.good hin ty0 hty0 hnm X.2.2.2.2.2.1 X.2.2.2.2.2.2.2.2.1 hP (X.2.2.2.2.2.2.2.2.2 M) hS p he hc k hN (X.good _ hl) (fun x h => by rwa [hT] at h) hfin hty hn hfit hlen hd kw
  · exact va_putN X.1 X.2.1 X.good hin ty0 hty0 hnm X.2.2.2.2.2.1 X.2.2.2.2.2.2.2.2.1 hP (X.2.2.2.2.2.2.2.2.2 M) hS p he hc k hN (va_Nw.use rfl (X.2.2.2.2.2.2.2.1 _ hl)) (fun x h => by rwa [hT] at h) hfin hty hn hfit hlen hd kw
theorem g_puti {idx ci k N p : Nat} {C : String} {T : u_T} {fds : List (Option Nat)} {z : Int} (hd : decode q.2.1 pc = .ok (.putfield idx, 3)) (hf : FOK q.1.cls idx ci k C T N) (hp : wd[p]? = some (.inr (ci, fds))) (hk : fds[k]? = some none) (hfin : (T k).2.2.2 = false) (hty : parseFieldDescriptor (T k).2.2.1 = some .int) (kk : G wd q d Post (pc + 3) ls st (si M p k z)) : G wd q d Post pc ls (vi z :: vr p :: st) M :=
  g_putg hty rfl rfl hd hf hp hk hfin kk
theorem g_putz {idx ci k N p : Nat} {C : String} {T : u_T} {fds : List (Option Nat)} {z : Int} (hd : decode q.2.1 pc = .ok (.putfield idx, 3)) (hf : FOK q.1.cls idx ci k C T N) (hp : wd[p]? = some (.inr (ci, fds))) (hk : fds[k]? = some none) (hfin : (T k).2.2.2 = false) (hty : parseFieldDescriptor (T k).2.2.1 = some .boolean) (kk : G wd q d Post (pc + 3) ls st (si M p k z)) (hz : z = 0 ∨ z = 1 := by omega) : G wd q d Post pc ls (vi z :: vr p :: st) M :=
  g_putg hty (by rcases hz with rfl | rfl <;> decide) (by rcases hz with rfl | rfl <;> decide) hd hf hp hk hfin kk
theorem g_iald {p n : Nat} {z : Int} (hd : decode q.2.1 pc = .ok (.iaload, 1)) (hp : wd[p]? = some (.inl (0, n))) (hn : n < 2147483648) (kk : G wd q d Post (pc + 1) ls (vi (M.1 p z.toNat) :: st) M) (h1 : 0 ≤ z := by omega) (h2 : z < n := by omega) : G wd q d Post pc ls (vi z :: vr p :: st) M := by
  intro p0 l e s m args below meth c D ad kd X H locs als hP hS hL
  have he : (wl ad kd M 0 wd)[p]? = some (ad p, .inl (kd 0, n, .inl (fun j => Int32.ofInt (M.1 p j)))) := wl_at hp
  obtain ⟨hi, hi2⟩ := oi_in h1 h2 (by omega)
  refine va_iald X.1 X.2.1 X.2.2.2.2.2.2.2.2.1 hP p 0 he rfl hi hd ?_
  rw [hi2]
  exact kk p0 l e s m args below meth c D ad kd X H locs als hP hS hL
theorem g_bald {p n t : Nat} {z : Int} (hd : decode q.2.1 pc = .ok (.baload, 1)) (hp : wd[p]? = some (.inl (t, n))) (ht : t = 2 ∨ t = 3) (hn : n < 2147483648) (kk : G wd q d Post (pc + 1) ls (vi (M.1 p z.toNat) :: st) M) (h1 : 0 ≤ z := by omega) (h2 : z < n := by omega) : G wd q d Post pc ls (vi z :: vr p :: st) M := by
  intro p0 l e s m args below meth c D ad kd X H locs als hP hS hL
  obtain ⟨hi, hi2⟩ := oi_in h1 h2 (by omega)
  rcases ht with rfl | rfl
  · have he : (wl ad kd M 0 wd)[p]? = some (ad p, .inl (kd 2, n, .inl (fun j => Int32.ofInt (M.1 p j)))) := wl_at hp
    refine va_zald X.1 X.2.1 X.2.2.2.2.2.2.2.2.1 hP p 2 he rfl hi hd ?_
    rw [hi2]
    exact kk p0 l e s m args below meth c D ad kd X H locs als hP hS hL
  · have he : (wl ad kd M 0 wd)[p]? = some (ad p, .inl (kd 3, n, .inl (fun j => Int32.ofInt (M.1 p j)))) := wl_at hp
    refine va_bald X.1 X.2.1 X.2.2.2.2.2.2.2.2.1 hP p 3 he rfl hi hd ?_
    rw [hi2]
    exact kk p0 l e s m args below meth c D ad kd X H locs als hP hS hL
theorem g_lald {p n : Nat} {z : Int} (hd : decode q.2.1 pc = .ok (.laload, 1)) (hp : wd[p]? = some (.inl (1, n))) (hn : n < 2147483648) (kk : G wd q d Post (pc + 1) ls (vl (M.2 p z.toNat) :: st) M) (h1 : 0 ≤ z := by omega) (h2 : z < n := by omega) : G wd q d Post pc ls (vi z :: vr p :: st) M := by
  intro p0 l e s m args below meth c D ad kd X H locs als hP hS hL
  have he : (wl ad kd M 0 wd)[p]? = some (ad p, .inl (kd 1, n, .inr (.inl (M.2 p)))) := wl_at hp
  obtain ⟨hi, hi2⟩ := oi_in h1 h2 (by omega)
  refine va_lald X.1 X.2.1 X.2.2.2.2.2.2.2.2.1 hP p 1 he rfl hi hd ?_
  rw [hi2]
  exact kk p0 l e s m args below meth c D ad kd X H locs als hP hS hL
theorem upd_si {M : Mem} {p k : Nat} {z : Int} : upd (fun j => Int32.ofInt (M.1 p j)) k (Int32.ofInt z) = fun j => Int32.ofInt ((si M p k z).1 p j) := by
  funext j
  by_cases h : j = k <;> simp [upd, si, h]
theorem g_iast {p n : Nat} {z v : Int} (hd : decode q.2.1 pc = .ok (.iastore, 1)) (hp : wd[p]? = some (.inl (0, n))) (hn : n < 2147483648) (kk : G wd q d Post (pc + 1) ls st (si M p z.toNat v)) (h1 : 0 ≤ z := by omega) (h2 : z < n := by omega) : G wd q d Post pc ls (vi v :: vi z :: vr p :: st) M := by
  intro p0 l e s m args below meth c D ad kd X H locs als hP hS hL
  have he : (wl ad kd M 0 wd)[p]? = some (ad p, .inl (kd 0, n, .inl (fun j => Int32.ofInt (M.1 p j)))) := wl_at hp
  obtain ⟨hi, hi2⟩ := oi_in h1 h2 (by omega)
  refine va_iast X.1 X.2.1 X.2.2.2.2.2.2.2.2.1 hP (X.2.2.2.2.2.2.2.2.2 M) hS p 0 he rfl hi hd fun H1 locs1 hP1 _ hS1 => ?_
  rw [hi2, upd_si] at hP1
  exact kk p0 l e s m args below meth c D ad kd X H1 locs1 als ((wl_set (M' := si M p z.toNat v) hp (fun p' h => si_1 M p _ v p' h) (fun _ _ => rfl)) ▸ hP1) hS1 hL
theorem g_bast {p n t : Nat} {z v : Int} (hd : decode q.2.1 pc = .ok (.bastore, 1)) (hp : wd[p]? = some (.inl (t, n))) (hn : n < 2147483648) (kk : G wd q d Post (pc + 1) ls st (si M p z.toNat v)) (ht : (t = 2 ∧ (v = 0 ∨ v = 1)) ∨ (t = 3 ∧ -128 ≤ v ∧ v < 128) := by omega) (h1 : 0 ≤ z := by omega) (h2 : z < n := by omega) : G wd q d Post pc ls (vi v :: vi z :: vr p :: st) M := by
  intro p0 l e s m args below meth c D ad kd X H locs als hP hS hL
  obtain ⟨hi, hi2⟩ := oi_in h1 h2 (by omega)
  rcases ht with ⟨rfl, hv⟩ | ⟨rfl, hv1, hv2⟩
  · have he : (wl ad kd M 0 wd)[p]? = some (ad p, .inl (kd 2, n, .inl (fun j => Int32.ofInt (M.1 p j)))) := wl_at hp
    refine va_zast X.1 X.2.1 X.2.2.2.2.2.2.2.2.1 hP (X.2.2.2.2.2.2.2.2.2 M) hS p 2 he rfl hi hd fun H1 locs1 hP1 _ hS1 => ?_
    have hnar : vp_nar .boolean (Int32.ofInt v) = Int32.ofInt v := by rcases hv with rfl | rfl <;> decide
    rw [hi2, hnar, upd_si] at hP1
    exact kk p0 l e s m args below meth c D ad kd X H1 locs1 als ((wl_set (M' := si M p z.toNat v) hp (fun p' h => si_1 M p _ v p' h) (fun _ _ => rfl)) ▸ hP1) hS1 hL
  · have he : (wl ad kd M 0 wd)[p]? = some (ad p, .inl (kd 3, n, .inl (fun j => Int32.ofInt (M.1 p j)))) := wl_at hp
    refine va_bast X.1 X.2.1 X.2.2.2.2.2.2.2.2.1 hP (X.2.2.2.2.2.2.2.2.2 M) hS p 3 he rfl hi hd fun H1 locs1 hP1 _ hS1 => ?_
    have hnar : vp_nar .byte (Int32.ofInt v) = Int32.ofInt v := by
      show (Int32.ofInt v).toInt8.toInt32 = Int32.ofInt v
      rw [← Int32.toInt_inj, Int8.toInt_toInt32, Int32.toInt8_ofInt, oi (by omega) (by omega), Int8.toInt_ofInt_of_le (by omega) (by omega)]
    rw [hi2, hnar, upd_si] at hP1
    exact kk p0 l e s m args below meth c D ad kd X H1 locs1 als ((wl_set (M' := si M p z.toNat v) hp (fun p' h => si_1 M p _ v p' h) (fun _ _ => rfl)) ▸ hP1) hS1 hL
theorem g_last {p n : Nat} {z : Int} {x : Int64} (hd : decode q.2.1 pc = .ok (.lastore, 1)) (hp : wd[p]? = some (.inl (1, n))) (hn : n < 2147483648) (kk : G wd q d Post (pc + 1) ls st (sj M p z.toNat x)) (h1 : 0 ≤ z := by omega) (h2 : z < n := by omega) : G wd q d Post pc ls (vl x :: vi z :: vr p :: st) M := by
  intro p0 l e s m args below meth c D ad kd X H locs als hP hS hL
  have he : (wl ad kd M 0 wd)[p]? = some (ad p, .inl (kd 1, n, .inr (.inl (M.2 p)))) := wl_at hp
  obtain ⟨hi, hi2⟩ := oi_in h1 h2 (by omega)
  refine va_last X.1 X.2.1 X.2.2.2.2.2.2.2.2.1 hP (X.2.2.2.2.2.2.2.2.2 M) hS p 1 he rfl hi hd fun H1 locs1 hP1 _ hS1 => ?_
  have e2 : vp_updL (M.2 p) z.toNat x = (sj M p z.toNat x).2 p := by
    funext j
    by_cases h : j = z.toNat <;> simp [vp_updL, sj, h]
  rw [hi2, e2] at hP1
  rw [show (Sum.inl (kd 1, n, Sum.inr (Sum.inl ((sj M p z.toNat x).2 p))) : va_E) = ac ad kd (sj M p z.toNat x) p (.inl (1, n)) from rfl, wl_set (M := M) (M' := sj M p z.toNat x) hp (fun _ _ => rfl) (fun p' h => sj_2 M p z.toNat x p' h)] at hP1
  exact kk p0 l e s m args below meth c D ad kd X H1 locs1 als hP1 hS1 hL
theorem g_alen {p n t : Nat} (hd : decode q.2.1 pc = .ok (.arraylength, 1)) (hp : wd[p]? = some (.inl (t, n))) (ht : t = 0 ∨ t = 1) (kk : G wd q d Post (pc + 1) ls (vi n :: st) M) : G wd q d Post pc ls (vr p :: st) M := by
  intro p0 l e s m args below meth c D ad kd X H locs als hP hS hL
  rcases ht with rfl | rfl
  · exact va_alen (ty := .int) X.1 X.2.1 X.2.2.2.2.2.2.2.2.1 hP p 0 (wl_at hp) rfl (v := Int32.ofInt n) (by rw [Int32.ofInt_eq_ofNat]; rfl) hd (kk p0 l e s m args below meth c D ad kd X H locs als hP hS hL)
  · exact va_alen (ty := .long) X.1 X.2.1 X.2.2.2.2.2.2.2.2.1 hP p 1 (wl_at hp) rfl (v := Int32.ofInt n) (by rw [Int32.ofInt_eq_ofNat]; rfl) hd (kk p0 l e s m args below meth c D ad kd X H locs als hP hS hL)
theorem g_tsw {a dflt lo hi : Int} {offs : Array Int} {len : Nat} {off : Int} {tgt : Nat} (hd : decode q.2.1 pc = .ok (.tableswitch dflt lo hi offs, len)) (ho : offs[(a - lo).toNat]? = some off) (ht : (pc : Int) + off = (tgt : Int)) (kk : G wd q d Post tgt ls st M) (h1 : lo ≤ a := by omega) (h2 : a ≤ hi := by omega) (h3 : -2147483648 ≤ a := by omega) (h4 : a < 2147483648 := by omega) : G wd q d Post pc ls (vi a :: st) M :=
  fun p l e s m args below meth c D ad kd X H locs als hP hS hL => lv_tableIn X.1 X.2.1 hd (by rw [oi h3 h4]; omega) (by rw [oi h3 h4]; omega) (by rw [oi h3 h4]; exact ho) ht (kk p l e s m args below meth c D ad kd X H locs als hP hS hL)
theorem g_tswO {a dflt lo hi : Int} {offs : Array Int} {len : Nat} {tgt : Nat} (hd : decode q.2.1 pc = .ok (.tableswitch dflt lo hi offs, len)) (ht : (pc : Int) + dflt = (tgt : Int)) (kk : G wd q d Post tgt ls st M) (h1 : a < lo ∨ hi < a := by omega) (h3 : -2147483648 ≤ a := by omega) (h4 : a < 2147483648 := by omega) : G wd q d Post pc ls (vi a :: st) M :=
  fun p l e s m args below meth c D ad kd X H locs als hP hS hL => lv_tableOut X.1 X.2.1 hd (by rw [oi h3 h4]; exact h1) ht (kk p l e s m args below meth c D ad kd X H locs als hP hS hL)
theorem g_lsw {a dflt : Int} {ps : Array (Int × Int)} {len : Nat} {off : Int} {tgt : Nat} (hd : decode q.2.1 pc = .ok (.lookupswitch dflt ps, len)) (hp : (ps.toList.zip (ps.toList.drop 1)).all (fun (a, next) => a.1 < next.1) = true) (ho : Op.lookupswitch.offset ps.toList dflt a = off) (ht : (pc : Int) + off = (tgt : Int)) (kk : G wd q d Post tgt ls st M) (h3 : -2147483648 ≤ a := by omega) (h4 : a < 2147483648 := by omega) : G wd q d Post pc ls (vi a :: st) M :=
  fun p l e s m args below meth c D ad kd X H locs als hP hS hL => lv_lookup X.1 X.2.1 hd hp (by rw [oi h3 h4]; exact ho) ht (kk p l e s m args below meth c D ad kd X H locs als hP hS hL)
theorem g_iret {z : Int} (hd : decode q.2.1 pc = .ok (.ireturn, 1)) (hr : q.2.2.2 = some .int) (hp : Post (some (vi z)) M) : G wd q d Post pc ls [vi z] M :=
  fun p l e s m args below meth c D ad kd X H locs als hP hS hL => W.iret X.1 X.2.1 (X.2.2.2.1.trans hr) (fun t ht _ => ⟨some (vi z), M, hp, rfl, by rw [ht]; exact hP, hS.F ht⟩) hS.2.2 hd X.2.2.2.2.1
theorem g_zret {z : Int} (hd : decode q.2.1 pc = .ok (.ireturn, 1)) (hr : q.2.2.2 = some .boolean) (hp : Post (some (vi z)) M) (hz : z = 0 ∨ z = 1 := by omega) : G wd q d Post pc ls [vi z] M :=
  fun p l e s m args below meth c D ad kd X H locs als hP hS hL => W.zret X.1 X.2.1 (X.2.2.2.1.trans hr) (by rcases hz with rfl | rfl <;> decide) (fun t ht _ => ⟨some (vi z), M, hp, rfl, by rw [ht]; exact hP, hS.F ht⟩) hS.2.2 hd X.2.2.2.2.1
theorem g_lret {x : Int64} (hd : decode q.2.1 pc = .ok (.lreturn, 1)) (hr : q.2.2.2 = some .long) (hp : Post (some (vl x)) M) : G wd q d Post pc ls [vl x] M :=
  fun p l e s m args below meth c D ad kd X H locs als hP hS hL => W.lret X.1 X.2.1 (X.2.2.2.1.trans hr) (fun t ht _ => ⟨some (vl x), M, hp, rfl, by rw [ht]; exact hP, hS.F ht⟩) hS.2.2 hd X.2.2.2.2.1
theorem g_vret (hd : decode q.2.1 pc = .ok (.return_, 1)) (hr : q.2.2.2 = none) (hp : Post none M) : G wd q d Post pc ls [] M :=
  fun p l e s m args below meth c D ad kd X H locs als hP hS hL => W.vret X.1 X.2.1 (X.2.2.2.1.trans hr) (fun t ht _ => ⟨none, M, hp, rfl, by rw [ht]; exact hP, hS.F ht⟩) hS.2.2 hd X.2.2.2.2.1
theorem pc_blind {D : va_G} {ad : Nat → Nat} {kd : Nat → ClassId} {As : List AV} : FrameBlind (pcOf D ad kd wd As M) := fun a U g mk ⟨h1, hP, hK, hN, hD⟩ =>
  ⟨h1, hP, va_K.moved (u := U) (U := U.calling g mk a) (Vm.Alike.refl U.vm) hK, fun w hw => va_Nw.same (u := U) (U := U.calling g mk a) (nest_on hw) rfl (hN w hw), hD⟩
theorem cat_sum {ad : Nat → Nat} : ∀ (st : List AV), ((st.map (cv ad)).map fun v => v.category).sum = (st.map catv).sum
  | [] => rfl
  | v :: r => by simp only [List.map_cons, List.sum_cons, cv_cat]; rw [cat_sum r]
section CALLS
variable {p : Program} {l : Launch} {e : Env} {s : State} {m : MethodId} {args : Array Value} {below : List Frame} {meth : Method} {c : Code} {D : va_G} {ad : Nat → Nat} {kd : Nat → ClassId}
theorem pay_wsG (X : Cx p s m args meth c D ad kd wd q) {y : MD} (hc : Cond.code y.1 y.2.1 y.2.2.1 y.2.2.2 ∈ goodTbl) : ∀ w ∈ wsOf y, ∀ (a' : Array Value) (U : State), s.WarmedH U.vm → w.before a' U = true :=
  pay_in (big := goodTbl) X.good (fun w hw => by
    rcases List.mem_cons.mp hw with rfl | hw
    · exact ⟨hc, good_of hc⟩
    · exact ⟨hw, good_of hw⟩)
theorem pc_at {As : List AV} {H : Heap} (X : Cx p s m args meth c D ad kd wd q) (hP : va_P D vwCl (wl ad kd M 0 wd) H) : ∀ U : State, U.heap = H → s.WarmedH U.vm → pcOf D ad kd wd As M (As.map (cv ad)).toArray U :=
  fun U hU hW => ⟨rfl, by rw [hU]; exact hP, va_K.moved hW.alike X.2.2.2.2.2.2.2.2.1, fun w hw => nest_warm hw hW (X.2.2.2.2.2.2.2.1 w hw), (X.2.2.2.2.2.2.2.2.2 M).weaken (fun _ _ _ _ => trivial)⟩
theorem callg {R : Room} {Q : State → Prop} {H : Heap} {locs : List Loc} {als : Array Slot} {st0 rst : List Value} {a : Array Value} {H0 : Heap} {mm : MethodId} (hr : va_Run p l e R s m args below meth c H locs 0 0 0 0 (F0 mm pc als st0) rst (qcOf D ad kd wd Post' a) (AA ad wd)) (hS : va_S (AA ad wd) H0 H locs)
    (kk : ∀ (v : Option AV) (M' : Mem) (H1 : Heap) (locs1 : List Loc), Post' v M' → va_P D vwCl (wl ad kd M' 0 wd) H1 → va_S (AA ad wd) H0 H1 locs1 → W p l e R s m args below meth c H1 locs1 0 0 Q (F0 mm (pc + 3) als ((v.map (cv ad)).toList ++ rst))) : W p l e R s m args below meth c H locs 0 0 Q (F0 mm pc als st0) := by
  intro T hT X
  obtain ⟨v, st₀, t, T', L, h0, X', hL, e1, e2, ⟨w, M', hp, hv, hb, hz, hk⟩, stp⟩ := hr T hT X
  have hv : v = w.map (cv ad) := by injection hv
  subst hv
  rw [h0] at hz hk
  obtain ⟨t2, a1, b1⟩ := kk w M' T'.heap (locs ++ L) hp (by rw [e1]; exact hb)
    ⟨Nat.le_trans hS.1 (by rw [e1]; exact hz), fun q h1 h2 => by rw [e1, hk q (Nat.lt_of_lt_of_le h1 hS.1) h2]; exact hS.2.1 q h1 h2, fun q hq => by
      rcases List.mem_append.mp hq with h | h
      · exact hS.2.2 q h
      · exact hL q h⟩ T' rfl X'
  exact ⟨t2, stp t2 a1, b1⟩
end CALLS
theorem g_callS {idx n : Nat} {y : MD} {As : List AV} (hd : decode q.2.1 pc = .ok (.invokestatic idx, 3)) (hs : SOK q.1.cls idx y n) (hw : WP wd d y As M Post') (hst : st = As.reverse ++ rest) (hn : As.length = n) (hrest : (rest.map catv).sum ≤ 8) (kk : ∀ v M', Post' v M' → G wd q (d + 1) Post (pc + 3) ls (v.toList ++ rest) M') : G wd q (d + 1) Post pc ls st M := by
  intro p l e s m args below meth c D ad kd X H locs als hP hS hL
  obtain ⟨hlink, hstat, hini, hcode, hml, hpl, hm1, hm2, hpar⟩ := hs
  have hlen : ∀ sig, parseMethodDescriptor y.1.desc = some sig → n = sig.parameters.length := fun sig h => by
    rw [h] at hpar; exact (Option.some.inj hpar).symm
  have hfix : CallFix p m c q.2.1 q.2.2.1 s args goodTbl q.1.cls := ⟨X.1, X.2.1, X.2.2.1, X.2.2.2.2.2.1, X.good⟩
  have hstk : (F0 m pc als (st.map (cv ad))).stack = (As.map (cv ad)).reverse ++ rest.map (cv ad) := by
    show st.map (cv ad) = _
    rw [hst, List.map_append, List.map_reverse]
  have hpre : PreS s H (pcOf D ad kd wd As M) (As.map (cv ad)) := ⟨pc_blind, pc_at X hP⟩
  have hloc : 8 + (y.2.2.1 + 11) + (rmL d).locals ≤ (rmL (d + 1)).locals := by show 8 + (y.2.2.1 + 11) + 64 * d ≤ 64 * (d + 1); omega
  have hroom : 2 * (F0 m pc als (st.map (cv ad))).monitorRoom + ((rest.map (cv ad)).map fun v => v.category).sum ≤ 8 := lv_room (by rw [cat_sum]; exact hrest)
  refine callg (D := D) (kd := kd) (Post' := Post') (rst := rest.map (cv ad)) (a := (As.map (cv ad)).toArray) ?_ hS (fun v M' H1 locs1 hp hP1 hS1 => ?_)
  · rcases hlink with hl | ⟨host, hl⟩
    · exact va_runS hfix (hw l D ad kd) ⟨⟨rfl, rfl, Nat.le_refl _, hloc, pay_wsG X hcode, List.mem_cons_self, X.good _ hcode, X.good _ hini, ⟨hm1, hm2⟩, hlen, X.good _ hl⟩, X.good _ hstat⟩ hpre rfl (by rw [List.length_map]; exact hn) hL.1 hstk hroom hd ⟨Nat.le_refl _, Nat.le_refl _⟩
    · exact va_runSN hfix (hw l D ad kd) ⟨⟨⟨rfl, rfl, Nat.le_refl _, hloc, pay_wsG X hcode, List.mem_cons_self⟩, X.good _ hcode, X.good _ hini, ⟨hm1, hm2⟩, hlen, va_Nw.use rfl (X.2.2.2.2.2.2.2.1 _ hl)⟩, X.good _ hstat, trivial⟩ hpre rfl (by rw [List.length_map]; exact hn) hL.1 hstk hroom hd ⟨Nat.le_refl _, Nat.le_refl _⟩
  · have k2 := kk v M' hp p l e s m args below meth c D ad kd X H1 locs1 als hP1 hS1 hL
    have e2 : (v.toList ++ rest).map (cv ad) = (v.map (cv ad)).toList ++ rest.map (cv ad) := by cases v <;> simp
    rw [e2] at k2
    exact k2
theorem g_callV {idx n pl ci : Nat} {y : MD} {As : List AV} {fds : List (Option Nat)} (hd : decode q.2.1 pc = .ok (.invokevirtual idx, 3)) (hs : VOK q.1.cls idx y n) (hw : WP wd d y (vr pl :: As) M Post') (hst : st = As.reverse ++ vr pl :: rest) (hn : As.length = n) (hp : wd[pl]? = some (.inr (ci, fds))) (hc : (vwCl[ci]?).map (fun r => r.1) = some y.1.cls) (hrest : (rest.map catv).sum ≤ 8) (kk : ∀ v M', Post' v M' → G wd q (d + 1) Post (pc + 3) ls (v.toList ++ rest) M') : G wd q (d + 1) Post pc ls st M := by
  intro p l e s m args below meth c D ad kd X H locs als hP hS hL
  obtain ⟨hlink, hinst, hsel, hini, hcode, hml, hpln, hm1, hm2, hpar⟩ := hs
  have hlen : ∀ sig, parseMethodDescriptor y.1.desc = some sig → n = sig.parameters.length := fun sig h => by
    rw [h] at hpar; exact (Option.some.inj hpar).symm
  have hfix : CallFix p m c q.2.1 q.2.2.1 s args goodTbl q.1.cls := ⟨X.1, X.2.1, X.2.2.1, X.2.2.2.2.2.1, X.good⟩
  have hstk : (F0 m pc als (st.map (cv ad))).stack = (As.map (cv ad)).reverse ++ .ref (ad pl) :: rest.map (cv ad) := by
    show st.map (cv ad) = _
    rw [hst, List.map_append, List.map_reverse]
    rfl
  obtain ⟨r, hr1, hr2⟩ := Option.map_eq_some_iff.mp hc
  have hrecv := va_recv X.2.2.2.2.2.2.2.2.1 hP hr1 (wl_at hp : (wl ad kd M 0 wd)[pl]? = some (ad pl, .inr (ci, fv ad (M.1 pl) 0 fds)))
  rw [hr2] at hrecv
  have hpre : PreV s H y.1.cls (ad pl) (pcOf D ad kd wd (vr pl :: As) M) (As.map (cv ad)) := ⟨pc_blind, hrecv, pc_at (As := vr pl :: As) X hP⟩
  have hloc : 8 + (y.2.2.1 + 11) + (rmL d).locals ≤ (rmL (d + 1)).locals := by show 8 + (y.2.2.1 + 11) + 64 * d ≤ 64 * (d + 1); omega
  have hroom : 2 * (F0 m pc als (st.map (cv ad))).monitorRoom + ((rest.map (cv ad)).map fun v => v.category).sum ≤ 8 := lv_room (by rw [cat_sum]; exact hrest)
  refine callg (D := D) (kd := kd) (Post' := Post') (rst := rest.map (cv ad)) (a := (Value.ref (ad pl) :: As.map (cv ad)).toArray) ?_ hS (fun v M' H1 locs1 hp1 hP1 hS1 => ?_)
  · rcases hlink with hl | ⟨host, hl⟩
    · exact va_runV hfix (hw l D ad kd) ⟨⟨rfl, rfl, Nat.le_refl _, hloc, pay_wsG X hcode, List.mem_cons_self, X.good _ hcode, X.good _ hini, ⟨hm1, hm2⟩, hlen, X.good _ hl⟩, X.good _ hinst, X.good _ hsel⟩ hpre rfl (by rw [List.length_map]; exact hn) hL.1 hstk hroom hd ⟨Nat.le_refl _, Nat.le_refl _⟩
    · exact va_runVN hfix (hw l D ad kd) ⟨⟨⟨rfl, rfl, Nat.le_refl _, hloc, pay_wsG X hcode, List.mem_cons_self⟩, X.good _ hcode, X.good _ hini, ⟨hm1, hm2⟩, hlen, va_Nw.use rfl (X.2.2.2.2.2.2.2.1 _ hl)⟩, X.good _ hinst, X.good _ hsel⟩ hpre rfl (by rw [List.length_map]; exact hn) hL.1 hstk hroom hd ⟨Nat.le_refl _, Nat.le_refl _⟩
  · have k2 := kk v M' hp1 p l e s m args below meth c D ad kd X H1 locs1 als hP1 hS1 hL
    have e2 : (v.toList ++ rest).map (cv ad) = (v.map (cv ad)).toList ++ rest.map (cv ad) := by cases v <;> simp
    rw [e2] at k2
    exact k2
theorem g_max {idx : Nat} {a b : Int} (hd : decode q.2.1 pc = .ok (.invokestatic idx, 3)) (hl : Cond.methodLink q.1.cls idx Lib.Math.max.name ∈ goodTbl) (hrest : (st.map catv).sum ≤ 8) (kk : G wd q (d + 1) Post (pc + 3) ls (vi (max a b) :: st) M) (h1 : -2147483648 ≤ a := by omega) (h2 : a < 2147483648 := by omega) (h3 : -2147483648 ≤ b := by omega) (h4 : b < 2147483648 := by omega) : G wd q (d + 1) Post pc ls (vi b :: vi a :: st) M := by
  intro p l e s m args below meth c D ad kd X H locs als hP hS hL
  refine va_mmax X.1 X.2.1 (X.2.2.1.trans hL.1.symm) X.2.2.2.2.2.1 (X.good _ hl) (X.good _ kS_max) (X.good _ kI_math) (X.good _ kC_max) (by show 1 ≤ d + 1; omega) (by rw [cat_sum]; show _ ≤ 64 * (d + 1); omega) (Nat.le_refl _) (Nat.le_refl _) hd ?_
  have e1 : (if Int32.ofInt a < Int32.ofInt b then Int32.ofInt b else Int32.ofInt a) = Int32.ofInt (max a b) := by
    by_cases hab : a < b
    · rw [if_pos ((o_lt h1 h2 h3 h4).mpr hab), show max a b = b by omega]
    · rw [if_neg (fun z => hab ((o_lt h1 h2 h3 h4).mp z)), show max a b = a by omega]
  rw [e1]
  exact kk p l e s m args below meth c D ad kd X H locs als hP hS hL
theorem g_min {idx : Nat} {a b : Int} (hd : decode q.2.1 pc = .ok (.invokestatic idx, 3)) (hl : Cond.methodLink q.1.cls idx Lib.Math.min.name ∈ goodTbl) (hrest : (st.map catv).sum ≤ 8) (kk : G wd q (d + 1) Post (pc + 3) ls (vi (min a b) :: st) M) (h1 : -2147483648 ≤ a := by omega) (h2 : a < 2147483648 := by omega) (h3 : -2147483648 ≤ b := by omega) (h4 : b < 2147483648 := by omega) : G wd q (d + 1) Post pc ls (vi b :: vi a :: st) M := by
  intro p l e s m args below meth c D ad kd X H locs als hP hS hL
  refine va_mmin X.1 X.2.1 (X.2.2.1.trans hL.1.symm) X.2.2.2.2.2.1 (X.good _ hl) (X.good _ kS_min) (X.good _ kI_math) (X.good _ kC_min) (by show 1 ≤ d + 1; omega) (by rw [cat_sum]; show _ ≤ 64 * (d + 1); omega) (Nat.le_refl _) (Nat.le_refl _) hd ?_
  have e1 : (if Int32.ofInt b < Int32.ofInt a then Int32.ofInt b else Int32.ofInt a) = Int32.ofInt (min a b) := by
    by_cases hab : b < a
    · rw [if_pos ((o_lt h3 h4 h1 h2).mpr hab), show min a b = b by omega]
    · rw [if_neg (fun z => hab ((o_lt h3 h4 h1 h2).mp z)), show min a b = a by omega]
  rw [e1]
  exact kk p l e s m args below meth c D ad kd X H locs als hP hS hL
/-- n elements of place p0, from sp on, come into place p1, from dp on -/
def cpM (M : Mem) (p0 sp p1 dp n : Nat) : Mem := (fun p' k' => if p' = p1 ∧ dp ≤ k' ∧ k' < dp + n then M.1 p0 (sp + (k' - dp)) else M.1 p' k', M.2)
theorem g_acopy {idx p0 p1 n0 n1 : Nat} {sp dp n : Int} (hd : decode q.2.1 pc = .ok (.invokestatic idx, 3)) (hl : Cond.methodLink q.1.cls idx arraycopyName ∈ goodTbl) (hp0 : wd[p0]? = some (.inl (0, n0))) (hp1 : wd[p1]? = some (.inl (0, n1))) (hn0 : n0 < 2147483648) (hn1 : n1 < 2147483648) (kk : G wd q (d + 1) Post (pc + 3) ls [] (cpM M p0 sp.toNat p1 dp.toNat n.toNat)) (h1 : 0 ≤ sp := by omega) (h2 : 0 ≤ dp := by omega) (h3 : 0 ≤ n := by omega) (h4 : sp + n ≤ n0 := by omega) (h5 : dp + n ≤ n1 := by omega) : G wd q (d + 1) Post pc ls [vi n, vi dp, vr p1, vi sp, vr p0] M := by
  intro p l e s m args below meth c D ad kd X H locs als hP hS hL
  have he0 : (wl ad kd M 0 wd)[p0]? = some (ad p0, .inl (kd 0, n0, .inl (fun j => Int32.ofInt (M.1 p0 j)))) := wl_at hp0
  have he1 : (wl ad kd M 0 wd)[p1]? = some (ad p1, .inl (kd 0, n1, .inl (fun j => Int32.ofInt (M.1 p1 j)))) := wl_at hp1
  have e0 : ∀ z : Int, 0 ≤ z → z < 2147483648 → ¬ Int32.ofInt z < 0 ∧ (Int32.ofInt z).toNatClampNeg = z.toNat := fun z hz hz2 => by
    refine ⟨fun h => ?_, Int32.toNatClampNeg_ofInt_of_le (by omega) (by simpa using hz2)⟩
    rw [← o_0, o_lt (by omega) hz2 (by omega) (by omega)] at h
    omega
  obtain ⟨a1, b1⟩ := e0 sp h1 (by omega)
  obtain ⟨a2, b2⟩ := e0 dp h2 (by omega)
  obtain ⟨a3, b3⟩ := e0 n h3 (by omega)
  have hfr : 1 ≤ (rmL (d + 1)).frames := by show 1 ≤ d + 1; omega
  have hlo : (([] : List Value).map fun v => v.category).sum + (nativeFrameWords "java/lang/System" "arraycopy" 5 + 11) ≤ (rmL (d + 1)).locals := by
    have h6 : (([] : List Value).map fun v => v.category).sum + (nativeFrameWords "java/lang/System" "arraycopy" 5 + 11) ≤ 64 := by decide +kernel
    show _ ≤ 64 * (d + 1)
    omega
  refine va_copyi X.1 X.2.1 (X.2.2.1.trans hL.1.symm) X.2.2.2.2.2.1 (X.good _ hl) (X.good _ kN_acp) (X.good _ kS_acp) (X.good _ kI_sys) X.2.2.2.2.2.2.2.2.1 hP (X.2.2.2.2.2.2.2.2.2 M) hS p0 p1 0 0 he0 he1 rfl rfl rfl a1 a2 a3 (by rw [b1, b3]; omega) (by rw [b2, b3]; omega) (fun _ _ => rfl) hfr hlo hd fun H1 locs1 hP1 _ hS1 => ?_
  rw [b1, b2, b3] at hP1
  have e1 : va_cpy (fun j => Int32.ofInt (M.1 p0 j)) (fun j => Int32.ofInt (M.1 p1 j)) sp.toNat dp.toNat n.toNat = fun j => Int32.ofInt ((cpM M p0 sp.toNat p1 dp.toNat n.toNat).1 p1 j) := by
    funext j
    show va_cpy _ _ _ _ _ j = Int32.ofInt (if p1 = p1 ∧ dp.toNat ≤ j ∧ j < dp.toNat + n.toNat then M.1 p0 (sp.toNat + (j - dp.toNat)) else M.1 p1 j)
    by_cases h : dp.toNat ≤ j ∧ j < dp.toNat + n.toNat
    · rw [if_pos ⟨rfl, h⟩]; unfold va_cpy; rw [if_pos h]
    · rw [if_neg (fun z => h z.2)]; unfold va_cpy; rw [if_neg h]
  rw [e1] at hP1
  have e9 : (wl ad kd M 0 wd).set p1 (ad p1, .inl (kd 0, n1, .inl fun j => Int32.ofInt ((cpM M p0 sp.toNat p1 dp.toNat n.toNat).1 p1 j))) = wl ad kd (cpM M p0 sp.toNat p1 dp.toNat n.toNat) 0 wd :=
    wl_set (M := M) (M' := cpM M p0 sp.toNat p1 dp.toNat n.toNat) hp1 (fun p' h => by funext k'; simp [cpM, h]) (fun _ _ => rfl)
  rw [e9] at hP1
  exact kk p l e s m args below meth c D ad kd X H1 locs1 als hP1 hS1 hL
end ROWS2
