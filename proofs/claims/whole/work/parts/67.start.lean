/-! MODULE 63: the law from its start. -/
theorem clL_7 : Cond.classLink R_law 7 RX9 ∈ goodTbl := gmem 63 (by decide +kernel)
theorem clL_10 : Cond.classLink R_law 10 RX10 ∈ goodTbl := gmem 810 (by decide +kernel)
theorem liL_9 : IOK R_law 9 mX9_init 0 := ⟨Or.inl (gmem 65 (by decide +kernel)), gmem 66 (by decide +kernel), gmem 48 (by decide +kernel), kcX9_init, by decide, by decide +kernel, rfl, rfl⟩
theorem liL_12 : IOK R_law 12 mX10_init 0 := ⟨Or.inl (gmem 812 (by decide +kernel)), gmem 813 (by decide +kernel), gmem 58 (by decide +kernel), kcX10_init, by decide, by decide +kernel, rfl, rfl⟩
theorem alI_p (n p : Nat) (h : p ≠ 12) : (alI n).1 p = (alI 0).1 p := by
  induction n with
  | zero => rfl
  | succ n ih => show (si (alI n) 12 (27 * n) 1).1 p = _; rw [si_1 _ _ _ _ _ h]; exact ih
theorem alI_v : ∀ (n j : Nat), (alI n).1 12 j = if ∃ i, i < n ∧ j = 27 * i then 1 else 0
  | 0, j => by rw [if_neg (fun ⟨i, h, _⟩ => absurd h (by omega))]; rfl
  | n + 1, j => by
    show (si (alI n) 12 (27 * n) 1).1 12 j = _
    rw [sil, alI_v n j]
    by_cases h : j = 27 * n
    · rw [if_pos ⟨rfl, h⟩, if_pos ⟨n, by omega, h⟩]
    · rw [if_neg (fun z => h z.2)]
      by_cases h2 : ∃ i, i < n ∧ j = 27 * i
      · rw [if_pos h2]
        obtain ⟨i, h3, h4⟩ := h2
        rw [if_pos ⟨i, by omega, h4⟩]
      · rw [if_neg h2, if_neg]
        rintro ⟨i, h3, h4⟩
        by_cases e : i = n
        · subst e; exact h h4
        · exact h2 ⟨i, by omega, h4⟩
theorem inv0 : Inv MC0 (alI 26) := by
  have eR : MC0.1 1 10 = 0 := rfl
  have eN : MC0.1 1 11 = 0 := rfl
  have e0 : (alI 26).1 0 = (alI 0).1 0 := alI_p 26 0 (by decide)
  refine ⟨⟨⟨⟨by rw [eR]; decide, by rw [eR]; decide, by rw [eN]; decide, by rw [eN]; decide⟩, ⟨fun r h => by rw [eR] at h; omega, fun r h => by rw [eR] at h; omega, fun h => by rw [eR] at h; omega, fun _ => eN, fun r h => by rw [eR] at h; omega⟩, fun o h => by rw [eN] at h; omega, fun r h => by rw [eR] at h; omega, fun o h => by rw [eN] at h; omega, fun o h => by rw [eN] at h; omega, ⟨?_, ?_, fun j => Or.inl rfl⟩⟩, ⟨⟨?_, ?_, fun r h => by rw [eR] at h; omega, ?_⟩, fun o h => by rw [eN] at h; omega, ?_⟩, fun r h => by rw [eR] at h; omega, fun r h => by rw [eR] at h; omega⟩, Or.inl ⟨rfl, by rw [e0]; rfl⟩, by rw [e0]; rfl⟩
  · show lawsOK 14 50 70 100 2; decide
  · show budgetOK 0 0; decide
  · rw [e0]; rfl
  · rw [e0]; rfl
  · rw [alI_p 26 2 (by decide)]; rfl
  · refine ⟨by rw [e0]; rfl, by rw [e0]; rfl, by rw [e0]; rfl, by rw [e0]; rfl, by rw [e0]; rfl, by rw [e0]; rfl, by rw [e0]; rfl, fun c e hc he => ?_⟩
    rw [alI_v]
    have hB : MC0.1 14 (32 * c + e) = 0 := rfl
    rw [hB]
    by_cases h : c = e
    · rw [if_pos ⟨c, by omega, by omega⟩]
      exact ⟨Or.inr rfl, fun _ => Or.inl h, fun _ => rfl⟩
    · rw [if_neg (fun ⟨i, h1, h2⟩ => h (by omega))]
      refine ⟨Or.inl rfl, fun z => absurd z (by decide), ?_⟩
      rintro (z | z)
      · exact absurd z h
      · exact absurd z (by decide)
theorem band31 (x : Int32) : 0 ≤ band x.toInt 31 ∧ band x.toInt 31 ≤ 31 := by
  have e : band x.toInt 31 = (x &&& 31).toInt := by
    unfold band
    rw [Int32.ofInt_toInt]
    rfl
  have h : (x &&& 31).toBitVec.toNat ≤ 31 := by
    rw [Int32.toBitVec_and, BitVec.toNat_and]
    exact Nat.and_le_right
  have h2 : (x &&& 31).toInt = ((x &&& 31).toBitVec.toNat : Int) := by
    show (x &&& 31).toBitVec.toInt = _
    rw [BitVec.toInt_eq_toNat_of_lt (by omega)]
  rw [e, h2]
  omega
theorem law_loop {L : Nat} {xs : Nat → Int32} (hLL : L ≤ 4608) : ∀ (n i : Nat) (MC MM : Mem), L ≤ i + 9 * n → i ≤ 4608 → Inv MC MM → GL L xs 18 [some (vr 0), some (vr 1), some (vr 2), some (vi (i : Int))] [] MC MM := by
  intro n
  induction n with
  | zero =>
    intro i MC MM h hi hI
    refine h_iload_n dL_law_18 rfl rfl ?_
    refine h_aload_n dL_law_19 rfl rfl ?_
    refine h_slen hLL dL_law_20 ?_
    refine h_bipush dL_law_21 rfl ?_
    refine h_isub dL_law_23 ?_
    refine h_icmp_gt (tgt := 1521) dL_law_24 rfl (fun _ => ?_) (fun z => by exfalso; omega)
    refine h_iconst dL_law_1521 ?_
    exact h_ret dL_law_1522
  | succ n ih =>
    intro i MC MM h hi hI
    refine h_iload_n dL_law_18 rfl rfl ?_
    refine h_aload_n dL_law_19 rfl rfl ?_
    refine h_slen hLL dL_law_20 ?_
    refine h_bipush dL_law_21 rfl ?_
    refine h_isub dL_law_23 ?_
    refine h_icmp_gt (tgt := 1521) dL_law_24 rfl (fun _ => ?_) (fun z => ?_)
    · refine h_iconst dL_law_1521 ?_
      exact h_ret dL_law_1522
    · have hi9 : i + 9 ≤ L := by omega
      have next : ∀ MC MM, Inv MC MM → GL L xs 1515 [some (vr 0), some (vr 1), some (vr 2), some (vi (i : Int))] [] MC MM := by
        intro MC MM hI
        refine h_iinc (ls' := [some _, some _, some _, some _]) dL_law_1515 rfl rfl ?_
        refine h_goto (tgt := 18) dL_law_1518 rfl ?_
        have := ih (i + 9) MC MM (by omega) (by omega) hI
        rw [show ((i + 9 : Nat) : Int) = (i : Int) + 9 by omega] at this
        exact this
      refine h_aload_n dL_law_27 rfl rfl ?_
      refine h_iload_n dL_law_28 rfl rfl ?_
      refine h_sld i hLL dL_law_29 rfl (by omega) ?_
      refine h_bipush dL_law_30 rfl ?_
      refine h_iand dL_law_32 ?_
      obtain ⟨v1, v2⟩ := band31 (xs i)
      generalize band (xs i).toInt 31 = v at v1 v2 ⊢
      rcases (show v = 0 ∨ v = 1 ∨ v = 2 ∨ v = 3 ∨ v = 4 ∨ v = 5 ∨ v = 6 ∨ v = 7 ∨ v = 8 ∨ v = 9 ∨ v = 10 ∨ v = 11 ∨ v = 12 ∨ v = 13 ∨ v = 14 ∨ v = 15 ∨ v = 16 ∨ v = 17 ∨ v = 18 ∨ v = 19 ∨ v = 20 ∨ v = 21 ∨ v = 22 ∨ 23 ≤ v by omega) with rfl | rfl | rfl | rfl | rfl | rfl | rfl | rfl | rfl | rfl | rfl | rfl | rfl | rfl | rfl | rfl | rfl | rfl | rfl | rfl | rfl | rfl | rfl | hv
      · exact h_tsw (off := 107) (tgt := 140) dL_law_33 rfl rfl (cs_0 hLL hi9 next hI)
      · exact h_tsw (off := 266) (tgt := 299) dL_law_33 rfl rfl (cs_1 hLL hi9 next hI)
      · exact h_tsw (off := 339) (tgt := 372) dL_law_33 rfl rfl (cs_2 hLL hi9 next hI)
      · exact h_tsw (off := 442) (tgt := 475) dL_law_33 rfl rfl (cs_3 hLL hi9 next hI)
      · exact h_tsw (off := 525) (tgt := 558) dL_law_33 rfl rfl (cs_4 hLL hi9 next hI)
      · exact h_tsw (off := 608) (tgt := 641) dL_law_33 rfl rfl (cs_5 hLL hi9 next hI)
      · exact h_tsw (off := 735) (tgt := 768) dL_law_33 rfl rfl (cs_6 hLL hi9 next hI)
      · exact h_tsw (off := 882) (tgt := 915) dL_law_33 rfl rfl (cs_7 hLL hi9 next hI)
      · exact h_tsw (off := 895) (tgt := 928) dL_law_33 rfl rfl (cs_8 hLL hi9 next hI)
      · exact h_tsw (off := 958) (tgt := 991) dL_law_33 rfl rfl (cs_9 hLL hi9 next hI)
      · exact h_tsw (off := 1017) (tgt := 1050) dL_law_33 rfl rfl (cs_10 hLL hi9 next hI)
      · exact h_tsw (off := 1050) (tgt := 1083) dL_law_33 rfl rfl (cs_11 hLL hi9 next hI)
      · exact h_tsw (off := 1143) (tgt := 1176) dL_law_33 rfl rfl (cs_12 hLL hi9 next hI)
      · exact h_tsw (off := 1176) (tgt := 1209) dL_law_33 rfl rfl (cs_13 hLL hi9 next hI)
      · exact h_tsw (off := 1189) (tgt := 1222) dL_law_33 rfl rfl (cs_14 hLL hi9 next hI)
      · exact h_tsw (off := 1222) (tgt := 1255) dL_law_33 rfl rfl (cs_15 hLL hi9 next hI)
      · exact h_tsw (off := 1245) (tgt := 1278) dL_law_33 rfl rfl (cs_16 hLL hi9 next hI)
      · exact h_tsw (off := 1278) (tgt := 1311) dL_law_33 rfl rfl (cs_17 hLL hi9 next hI)
      · exact h_tsw (off := 1337) (tgt := 1370) dL_law_33 rfl rfl (cs_18 hLL hi9 next hI)
      · exact h_tsw (off := 1370) (tgt := 1403) dL_law_33 rfl rfl (cs_19 hLL hi9 next hI)
      · exact h_tsw (off := 1383) (tgt := 1416) dL_law_33 rfl rfl (cs_20 hLL hi9 next hI)
      · exact h_tsw (off := 1426) (tgt := 1459) dL_law_33 rfl rfl (cs_21 hLL hi9 next hI)
      · exact h_tsw (off := 1459) (tgt := 1492) dL_law_33 rfl rfl (cs_22 hLL hi9 next hI)
      · exact h_tswO (tgt := 1515) dL_law_33 rfl (next MC MM hI)
def nnS (sh : Sh) : Bool := match sh with
  | .inl _ => true
  | .inr (_, L) => L.all (fun o => match o with | none => true | some p => !(Nat.beq p 1000))
theorem fvN_fv (ad : Nat → Nat) (g : Nat → Int) : ∀ (L : List (Option Nat)) (k : Nat), L.all (fun o => match o with | none => true | some p => !(Nat.beq p 1000)) = true → fvN ad g k L = fv ad g k L
  | [], _, _ => rfl
  | none :: r, k, h => by
    rw [List.all_cons, Bool.and_eq_true] at h
    show slN ad g k none :: fvN ad g (k + 1) r = _ :: fv ad g (k + 1) r
    rw [fvN_fv ad g r (k + 1) h.2]
    rfl
  | some p :: r, k, h => by
    rw [List.all_cons, Bool.and_eq_true] at h
    show slN ad g k (some p) :: fvN ad g (k + 1) r = _ :: fv ad g (k + 1) r
    rw [fvN_fv ad g r (k + 1) h.2]
    have hp : ¬ p = 1000 := fun z => by
      have := h.1
      rw [z] at this
      exact absurd this (by decide)
    show (if p = 1000 then _ else _) :: _ = _
    rw [if_neg hp]
theorem wlN_wl (ad : Nat → Nat) (kd : Nat → ClassId) (M : Mem) : ∀ (L : List Sh) (k : Nat), L.all nnS = true → wlN ad kd M k L = wl ad kd M k L
  | [], _, _ => rfl
  | sh :: r, k, h => by
    rw [List.all_cons, Bool.and_eq_true] at h
    show (ad k, acN ad kd M k sh) :: wlN ad kd M (k + 1) r = (ad k, ac ad kd M k sh) :: wl ad kd M (k + 1) r
    rw [wlN_wl ad kd M r (k + 1) h.2]
    rcases sh with ⟨t, n⟩ | ⟨ci, L⟩
    · rfl
    · show (ad k, Sum.inr (ci, fvN ad (M.1 k) 0 L)) :: _ = _
      rw [fvN_fv ad (M.1 k) L 0 h.1]
      rfl
theorem insAll : ∀ (c : Nat) (q : vw_C), vwCl[c]? = some q → ∃ n, Cond.instantiable q.1 n ∈ goodTbl
  | 0, _, h => by cases h; exact ⟨_, inX0⟩
  | 1, _, h => by cases h; exact ⟨_, inX1⟩
  | 2, _, h => by cases h; exact ⟨_, inX2⟩
  | 3, _, h => by cases h; exact ⟨_, inX4⟩
  | 4, _, h => by cases h; exact ⟨_, inX5⟩
  | 5, _, h => by cases h; exact ⟨_, inX6⟩
  | 6, _, h => by cases h; exact ⟨_, inX7⟩
  | 7, _, h => by cases h; exact ⟨_, inX8⟩
  | 8, _, h => by cases h; exact ⟨_, inX9⟩
  | 9, _, h => by cases h; exact ⟨_, inX10⟩
  | n + 10, _, h => by simp [vwCl] at h
theorem mkK {s : State} {args : Array Value} (hg : ∀ w ∈ goodTbl, w.before args s = true) : ∃ (D : va_G) (kd : Nat → ClassId), va_K D vwCl (tysOf kd) s := by
  have hc : ∀ c : Nat, ∃ x : ClassId × (Nat → Nat), ∀ q : vw_C, vwCl[c]? = some q → u_Kn s q.1 q.2.1 q.2.2 x.1 x.2 := fun c => by
    cases h : vwCl[c]? with
    | none => exact ⟨(default, fun _ => 0), fun q z => by cases z⟩
    | some q =>
      obtain ⟨n, hn⟩ := insAll c q h
      obtain ⟨C, T, N⟩ := q
      obtain ⟨cC, iS, hk⟩ := u_known (n := n) hg (clsOK c C T N h).1 (hg _ hn)
      exact ⟨(cC, iS), fun q z => by cases z; exact hk⟩
  obtain ⟨a1, k1, p1, i1, i2, i3⟩ := Cond.arrayClass_spec (hg _ ar_int)
  obtain ⟨a2, k2, p2, l1, l2, l3⟩ := Cond.arrayClass_spec (hg _ ar_long)
  obtain ⟨a3, k3, p3, z1, z2, z3⟩ := Cond.arrayClass_spec (hg _ ar_boolean)
  obtain ⟨a4, k4, p4, b1, b2, b3⟩ := Cond.arrayClass_spec (hg _ ar_byte)
  refine ⟨(fun c => (Classical.choose (hc c)).1, fun c => (Classical.choose (hc c)).2), fun t => if t = 0 then a1 else if t = 1 then a2 else if t = 2 then a3 else a4, fun c q h => Classical.choose_spec (hc c) q h, fun k q h => ?_⟩
  match k, h with
  | 0, h => cases h; exact ⟨fun n z => ⟨fun k h => (by cases h), k1, i2, p1, i3⟩, i1⟩
  | 1, h => cases h; exact ⟨fun n z => ⟨fun k h => (by cases h), k2, l2, p2, l3⟩, l1⟩
  | 2, h => cases h; exact ⟨fun n z => ⟨fun k h => (by cases h), k3, z2, p3, z3⟩, z1⟩
  | 3, h => cases h; exact ⟨fun n z => ⟨fun k h => (by cases h), k4, b2, p4, b3⟩, b1⟩
  | n + 4, h => simp [tysOf] at h
