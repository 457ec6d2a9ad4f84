/-! MODULE 52: kin, always, why, quarrel (reference). -/
theorem way_mem {D : Mem} {k : Nat} (hk : k < (RR D).2.1.length) : ∃ c, (wy D k, c) ∈ (RR D).2.1 := by
  unfold wy
  rw [List.getD_eq_getElem?_getD, List.getElem?_eq_getElem hk]
  exact ⟨((RR D).2.1[k]).2, List.getElem_mem hk⟩
theorem way_14 {D : Mem} (hw : Wf D) {k : Nat} (hk : k < (RR D).2.1.length) {r : Nat} (hr : (r : Int) < D.1 1 11) : per (wy D k) r < 14 ∧ (r, per (wy D k) r) ∈ wy D k := by
  obtain ⟨c, hm⟩ := way_mem hk
  obtain ⟨h1, ppl, hg, h2⟩ := seekP_ways hw (ordOK_of hw (closed_all hw)) _ hm
  have h1 : (wy D k).map (fun x => x.1) = ordOf D (allS D) := h1
  have hr2 := ordAll hw hr
  rw [← h1] at hr2
  obtain ⟨x, hx, rfl⟩ := List.mem_map.mp hr2
  have hp : per (wy D k) x.1 = x.2 := per_in (q := x.2) hx hg.g2
  have hl : (wy D k).length = nN D := by
    have := congrArg List.length h1
    rw [ordAll_eq hw] at this
    simpa using this
  have h3 := (hg.g1 x hx).2
  have h4 := hw.1.2.2.2
  have h5 : ppl ≤ (wy D k).length := h2
  rw [hp]
  refine ⟨?_, hx⟩
  unfold nN at hl
  omega
theorem way_kid {D : Mem} (hw : Wf D) {k : Nat} (hk : k < (RR D).2.1.length) : Kid1 D (per (wy D k)) := by
  intro r s hr hs br bs he
  obtain ⟨c, hm⟩ := way_mem hk
  obtain ⟨h1, ppl, hg, h2⟩ := seekP_ways hw (ordOK_of hw (closed_all hw)) _ hm
  have hrl : (r : Int) < D.1 1 10 := by unfold nR at hr; omega
  have hsl : (s : Int) < D.1 1 10 := by unfold nR at hs; omega
  have r1 := hw.2.1.1 r hrl
  have s1 := hw.2.1.1 s hsl
  have b1 := br.2.1
  have b2 := bs.2.1
  have fr : (((D.1 2 r).toNat : Nat) : Int) < D.1 1 11 := by omega
  have fs : (((D.1 2 s).toNat : Nat) : Int) < D.1 1 11 := by omega
  have er := rec_uniq hw hrl (c := (D.1 2 r).toNat) (by omega) (by omega) fr
  have es := rec_uniq hw hsl (c := (D.1 2 s).toNat) (by omega) (by omega) fs
  refine Classical.byContradiction (fun hne => ?_)
  have hff : (D.1 2 r).toNat ≠ (D.1 2 s).toNat := fun z => by
    rw [z] at er
    rw [er] at es
    omega
  have m1 := (way_14 hw hk fr).2
  have m2 := (way_14 hw hk fs).2
  have n1 : nC D (D.1 2 r).toNat := (nC_rec hw fr).mpr (by rw [er]; exact br.1)
  have n2 : nC D (D.1 2 s).toNat := (nC_rec hw fs).mpr (by rw [es]; exact bs.1)
  have ho : oneF D (D.1 2 r).toNat (D.1 2 s).toNat := hg.g4 _ m1 _ m2 he hff n1 n2
  have n1 : D.1 10 (D.1 2 r).toNat = -1 := n1
  have n2 : D.1 10 (D.1 2 s).toNat = -1 := n2
  exact ho.2.2.1 ⟨br.2.2, bs.2.2, by omega, by omega⟩

theorem AskM.fr3 {D M M2 M3 : Mem} (hA : AskM D M M2) (hF3 : ∀ p, p ≠ 21 → p ≠ 22 → M3.1 p = M2.1 p ∧ M3.2 p = M2.2 p) : AskM D M M3 := by
  obtain ⟨h1, h2, h3, h4, h5, h6⟩ := hA
  refine ⟨h1.tr ⟨fun k _ _ => by rw [(hF3 0 (by decide) (by decide)).1], fun p _ _ _ => hF3 p (by omega) (by omega)⟩, by rw [(hF3 0 (by decide) (by decide)).1]; exact h2, ?_, ?_, h5, fun i hi => ?_⟩
  · rw [(hF3 0 (by decide) (by decide)).1]; exact h3
  · rw [(hF3 0 (by decide) (by decide)).1]; exact h4
  · rw [(hF3 19 (by decide) (by decide)).1, (hF3 20 (by decide) (by decide)).1]; exact h6 i hi

theorem w_X10_kin {d : Nat} {D M : Mem} (hkd : DRk D M) {a c : Nat} (ha : (a : Int) < D.1 1 11) (hc : (c : Int) < D.1 1 11) {k : Int} (k1 : -2147483648 ≤ k) (k2 : k < 2147483648) (hr : ReadyM D M) : WP wdM (d + 6) mX10_kin [vr 0, vi k, vi a, vi c] M (fun v M' => v = some (vi (kinS' D k a c)) ∧ AskM D M M') := by
  refine wp_of (by decide +kernel) (Nat.le_of_ble_eq_true rfl) ?_
  obtain ⟨hw, hD, hs⟩ := id hr
  obtain ⟨hR0, hR8, hN0, hN14⟩ := id (hD.bd hw)
  have hRo : M.1 0 13 = D.1 1 11 := hD.1.2.1
  have hDN := hw.1.2.2.2
  refine g_aload_n dX10_kin_0 rfl rfl ?_
  refine g_iload_n dX10_kin_1 rfl rfl ?_
  refine g_callVr dX10_kin_2 lX10_153 (w_X10_isRole (by omega) (by omega) hR0 hR8 hN0 hN14) rfl rfl rfl rfl (Nat.le_of_ble_eq_true rfl) ?_
  refine g_if_eqB (tgt := 24) dX10_kin_5 rfl (fun h5 => ?_) (fun h5 => ?_)
  · exfalso; omega
  · refine g_aload_n dX10_kin_8 rfl rfl ?_
    refine g_iload_n dX10_kin_9 rfl rfl ?_
    refine g_callVr dX10_kin_10 lX10_153 (w_X10_isRole (by omega) (by omega) hR0 hR8 hN0 hN14) rfl rfl rfl rfl (Nat.le_of_ble_eq_true rfl) ?_
    refine g_if_eqB (tgt := 24) dX10_kin_13 rfl (fun h13 => ?_) (fun h13 => ?_)
    · exfalso; omega
    · refine g_aload_n dX10_kin_16 rfl rfl ?_
      refine g_iload_n dX10_kin_17 rfl rfl ?_
      refine g_callV dX10_kin_18 lX10_223 (w_X10_isWay (d := d) k1 k2 hr) rfl rfl rfl rfl (Nat.le_of_ble_eq_true rfl) ?_
      rintro v M2 ⟨rfl, hA⟩
      show G _ _ _ _ _ _ [_] M2
      obtain ⟨q1, q2, q3, q4⟩ := id hA.2.2
      refine g_if_neB (tgt := 28) dX10_kin_21 rfl (fun h21 => ?_) (fun h21 => ?_)
      · obtain ⟨kn, rfl⟩ : ∃ n : Nat, k = (n : Int) := ⟨k.toNat, by have := h21.2.1; omega⟩
        have hkn : kn < (RR D).2.1.length := by have := h21.2.2; omega
        have hko := w_X10_kinOf (d := d + 3) (D := D) (M := M2) (k := kn) (w := per (wy D kn)) (a := a) (b := c) (by omega) hw (hD.dat hA.1) (hkd.dat hA.1) (q4 kn hkn).1 (fun r hr => (way_14 hw hkn hr).1) (way_kid hw hkn) (way_14 hw hkn ha).1 (way_14 hw hkn hc).1
        refine g_aload_n dX10_kin_28 rfl rfl ?_
        refine g_iload_n dX10_kin_29 rfl rfl ?_
        refine g_aload_n dX10_kin_30 rfl rfl ?_
        refine g_iload_n dX10_kin_31 rfl rfl ?_
        refine g_iload_n dX10_kin_32 rfl rfl ?_
        refine g_callVr dX10_kin_33 lX10_226 (w_X10_at (M := M2) (w := kn) (r := a) (by omega) (by omega)) rfl rfl rfl rfl (Nat.le_of_ble_eq_true rfl) ?_
        rw [(q4 kn hkn).1 a ha]
        refine g_aload_n dX10_kin_36 rfl rfl ?_
        refine g_iload_n dX10_kin_37 rfl rfl ?_
        refine g_iload_n dX10_kin_38 rfl rfl ?_
        refine g_callVr dX10_kin_39 lX10_226 (w_X10_at (M := M2) (w := kn) (r := c) (by omega) (by omega)) rfl rfl rfl rfl (Nat.le_of_ble_eq_true rfl) ?_
        rw [(q4 kn hkn).1 c hc]
        refine g_callV dX10_kin_42 lX10_257 (hko) rfl rfl rfl rfl (Nat.le_of_ble_eq_true rfl) ?_
        rintro v M3 ⟨rfl, hF3⟩
        show G _ _ _ _ _ _ [vi (kinW D kn a c)] M3
        refine g_iret dX10_kin_45 rfl ?_
        first
        | (have h21 : isWayP D kn := h21
           exact ⟨by unfold kinS'; rw [if_pos h21]; rfl, hA.fr3 hF3⟩)
        | exact ⟨by unfold kinS'; rw [if_neg h21], hA⟩
      · refine g_iconst dX10_kin_24 ?_
        refine g_goto (tgt := 45) dX10_kin_25 rfl ?_
        refine g_iret dX10_kin_45 rfl ?_
        first
        | (have h21 : isWayP D kn := h21
           exact ⟨by unfold kinS'; rw [if_pos h21]; rfl, hA.fr3 hF3⟩)
        | exact ⟨by unfold kinS'; rw [if_neg h21], hA⟩

theorem w_X10_always {d : Nat} {D M : Mem} (hkd : DRk D M) {a c : Nat} (ha : (a : Int) < D.1 1 11) (hc : (c : Int) < D.1 1 11) (hr : ReadyM D M) : WP wdM (d + 6) mX10_always [vr 0, vi a, vi c] M (fun v M' => v = some (vi (alwaysS D a c)) ∧ AskM D M M') := by
  refine wp_of (by decide +kernel) (Nat.le_of_ble_eq_true rfl) ?_
  obtain ⟨hw, hD, hs⟩ := id hr
  obtain ⟨hR0, hR8, hN0, hN14⟩ := id (hD.bd hw)
  have hRo : M.1 0 13 = D.1 1 11 := hD.1.2.1
  have hDN := hw.1.2.2.2
  refine g_aload_n dX10_always_0 rfl rfl ?_
  refine g_iload_n dX10_always_1 rfl rfl ?_
  refine g_callVr dX10_always_2 lX10_153 (w_X10_isRole (by omega) (by omega) hR0 hR8 hN0 hN14) rfl rfl rfl rfl (Nat.le_of_ble_eq_true rfl) ?_
  refine g_if_eqB (tgt := 24) dX10_always_5 rfl (fun h5 => ?_) (fun h5 => ?_)
  · exfalso; omega
  · refine g_aload_n dX10_always_8 rfl rfl ?_
    refine g_iload_n dX10_always_9 rfl rfl ?_
    refine g_callVr dX10_always_10 lX10_153 (w_X10_isRole (by omega) (by omega) hR0 hR8 hN0 hN14) rfl rfl rfl rfl (Nat.le_of_ble_eq_true rfl) ?_
    refine g_if_eqB (tgt := 24) dX10_always_13 rfl (fun h13 => ?_) (fun h13 => ?_)
    · exfalso; omega
    · refine g_aload_n dX10_always_16 rfl rfl ?_
      refine g_iconst dX10_always_17 ?_
      refine g_callV dX10_always_18 lX10_223 (w_X10_isWay (d := d) (k := 0) (by decide) (by decide) hr) rfl rfl rfl rfl (Nat.le_of_ble_eq_true rfl) ?_
      rintro v M2 ⟨rfl, hA⟩
      show G _ _ _ _ _ _ [_] M2
      obtain ⟨q1, q2, q3, q4⟩ := id hA.2.2
      refine g_if_neB (tgt := 27) dX10_always_21 rfl (fun h21 => ?_) (fun h21 => ?_)
      · have hp : haveP D := ⟨h21.1, by have := h21.2.2; omega⟩
        have hk0 : 0 < (RR D).2.1.length := hp.2
        have hko := w_X10_kinOf (d := d + 3) (D := D) (M := M2) (k := 0) (w := per (wy D 0)) (a := a) (b := c) (by omega) hw (hD.dat hA.1) (hkd.dat hA.1) (q4 0 hk0).1 (fun r hr => (way_14 hw hk0 hr).1) (way_kid hw hk0) (way_14 hw hk0 ha).1 (way_14 hw hk0 hc).1
        refine g_aload_n dX10_always_27 rfl rfl ?_
        refine g_iconst dX10_always_28 ?_
        refine g_aload_n dX10_always_29 rfl rfl ?_
        refine g_iconst dX10_always_30 ?_
        refine g_iload_n dX10_always_31 rfl rfl ?_
        refine g_callVr dX10_always_32 lX10_226 (w_X10_at (M := M2) (w := 0) (r := a) (by omega) (by omega)) rfl rfl rfl rfl (Nat.le_of_ble_eq_true rfl) ?_
        rw [(q4 0 hk0).1 a ha]
        refine g_aload_n dX10_always_35 rfl rfl ?_
        refine g_iconst dX10_always_36 ?_
        refine g_iload_n dX10_always_37 rfl rfl ?_
        refine g_callVr dX10_always_38 lX10_226 (w_X10_at (M := M2) (w := 0) (r := c) (by omega) (by omega)) rfl rfl rfl rfl (Nat.le_of_ble_eq_true rfl) ?_
        rw [(q4 0 hk0).1 c hc]
        refine g_callV dX10_always_41 lX10_257 (hko) rfl rfl rfl rfl (Nat.le_of_ble_eq_true rfl) ?_
        rintro v M3 ⟨rfl, hF3⟩
        show G _ _ _ _ _ _ [vi (kinW D 0 a c)] M3
        refine g_istore_n (ls' := [some _, some _, some _, some _, _]) dX10_always_44 rfl (by decide) rfl ?_
        refine g_iconst dX10_always_45 ?_
        refine g_istore (ls' := [some _, some _, some _, some _, some _]) dX10_always_46 (by decide) rfl ?_
        have loop : ∀ n k : Nat, k + n = (RR D).2.1.length → ∀ M2 : Mem, AskM D M M2 → alw (fun k => kinW D k a c) (kinW D 0 a c) n k = alwaysS D a c → G wdM mX10_always (d + 6) (fun v M' => v = some (vi (alwaysS D a c)) ∧ AskM D M M') 48 [some (vr 0), some (vi a), some (vi c), some (vi (kinW D 0 a c)), some (vi k)] [] M2 := by
          intro n
          induction n with
          | zero =>
            intro k hk M2 hA hfin
            obtain ⟨q1, q2, q3, q4⟩ := id hA.2.2
            have hwm : M2.1 0 37 = (RR D).2.1.length := by
              rcases q1 with ⟨e1, e2, e3⟩ | ⟨e1, e2, e3⟩
              · rw [hp.1] at e1; cases e1
              · exact e2
            refine g_iload dX10_always_48 rfl ?_
            refine g_aload_n dX10_always_50 rfl rfl ?_
            refine g_get dX10_always_51 fX10_211 rfl rfl ?_
            rw [hwm]
            refine g_icmp_ge (tgt := 90) dX10_always_54 rfl (fun h54 => ?_) (fun h54 => ?_)
            · refine g_iload_n dX10_always_90 rfl rfl ?_
              refine g_iret dX10_always_91 rfl ?_
              refine ⟨?_, hA⟩
              rw [← hfin]
              rfl
            · exfalso; omega
          | succ n ih =>
            intro k hkn M2 hA hfin
            have hk : k < (RR D).2.1.length := by omega
            obtain ⟨q1, q2, q3, q4⟩ := id hA.2.2
            have hwm : M2.1 0 37 = (RR D).2.1.length := by
              rcases q1 with ⟨e1, e2, e3⟩ | ⟨e1, e2, e3⟩
              · rw [hp.1] at e1; cases e1
              · exact e2
            refine g_iload dX10_always_48 rfl ?_
            refine g_aload_n dX10_always_50 rfl rfl ?_
            refine g_get dX10_always_51 fX10_211 rfl rfl ?_
            rw [hwm]
            refine g_icmp_ge (tgt := 90) dX10_always_54 rfl (fun h54 => ?_) (fun h54 => ?_)
            · exfalso; omega
            · have hk0 : k < (RR D).2.1.length := hk
              have z1 : -2147483648 ≤ kinW D k a c ∧ kinW D k a c < 2147483648 := kinC_r _ _ _ _
              have z2 : -2147483648 ≤ kinW D 0 a c ∧ kinW D 0 a c < 2147483648 := kinC_r _ _ _ _
              have hko := w_X10_kinOf (d := d + 3) (D := D) (M := M2) (k := k) (w := per (wy D k)) (a := a) (b := c) (by omega) hw (hD.dat hA.1) (hkd.dat hA.1) (q4 k hk).1 (fun r hr => (way_14 hw hk hr).1) (way_kid hw hk) (way_14 hw hk ha).1 (way_14 hw hk hc).1
              refine g_aload_n dX10_always_57 rfl rfl ?_
              refine g_iload dX10_always_58 rfl ?_
              refine g_aload_n dX10_always_60 rfl rfl ?_
              refine g_iload dX10_always_61 rfl ?_
              refine g_iload_n dX10_always_63 rfl rfl ?_
              refine g_callVr dX10_always_64 lX10_226 (w_X10_at (M := M2) (w := k) (r := a) (by omega) (by omega)) rfl rfl rfl rfl (Nat.le_of_ble_eq_true rfl) ?_
              rw [(q4 k hk).1 a ha]
              refine g_aload_n dX10_always_67 rfl rfl ?_
              refine g_iload dX10_always_68 rfl ?_
              refine g_iload_n dX10_always_70 rfl rfl ?_
              refine g_callVr dX10_always_71 lX10_226 (w_X10_at (M := M2) (w := k) (r := c) (by omega) (by omega)) rfl rfl rfl rfl (Nat.le_of_ble_eq_true rfl) ?_
              rw [(q4 k hk).1 c hc]
              refine g_callV dX10_always_74 lX10_257 (hko) rfl rfl rfl rfl (Nat.le_of_ble_eq_true rfl) ?_
              rintro v M3 ⟨rfl, hF3⟩
              show G _ _ _ _ _ _ [vi (kinW D k a c)] M3
              refine g_iload_n dX10_always_77 rfl rfl ?_
              refine g_icmp_eq (tgt := 84) dX10_always_78 rfl (fun h78 => ?_) (fun h78 => ?_)
              · refine g_iinc (ls' := [some _, some _, some _, some _, some _]) dX10_always_84 rfl rfl ?_
                refine g_goto (tgt := 48) dX10_always_87 rfl ?_
                refine ih (k + 1) (by omega) M3 (hA.fr3 hF3) ?_
                rw [← hfin]
                show _ = alw _ _ (n + 1) k
                rw [alw, if_pos (show kinW D k a c = kinW D 0 a c from h78)]
              · refine g_bipush dX10_always_81 rfl ?_
                refine g_iret dX10_always_83 rfl ?_
                refine ⟨?_, hA.fr3 hF3⟩
                rw [← hfin]
                show some (vi (-2)) = some (vi (alw _ _ (n + 1) k))
                rw [alw, if_neg (show ¬ kinW D k a c = kinW D 0 a c from h78)]
        refine loop ((RR D).2.1.length - 1) 1 (by omega) M3 (hA.fr3 hF3) ?_
        unfold alwaysS
        rw [if_pos hp]
      · refine g_bipush dX10_always_24 rfl ?_
        refine g_iret dX10_always_26 rfl ?_
        exact ⟨by unfold alwaysS; rw [if_neg (fun z => h21 ⟨z.1, by omega, by have := z.2; omega⟩)], hA⟩

theorem AskM.kp {D M M2 M3 : Mem} (hA : AskM D M M2) (hK : Kp M2 M3) : AskM D M M3 := by
  obtain ⟨h1, h2, h3, h4, h5, h6⟩ := hA
  obtain ⟨k1, k2, k3, k4⟩ := hK
  refine ⟨h1.tr k1, by rw [k2 21 (by decide) (by decide) (by decide) (by decide) (by decide)]; exact h2, ?_, ?_, h5, fun i hi => ?_⟩
  · rw [k2 37 (by decide) (by decide) (by decide) (by decide) (by decide), k2 38 (by decide) (by decide) (by decide) (by decide) (by decide)]; exact h3
  · rw [k2 39 (by decide) (by decide) (by decide) (by decide) (by decide)]; exact h4
  · rw [k3, k4]; exact h6 i hi
theorem AskM.ask {D M M2 : Mem} {x y : Int} (hA : AskM D M M2) : AskM D M (si (si M2 0 32 x) 0 33 y) := by
  obtain ⟨h1, h2, h3, h4, h5, h6⟩ := hA
  refine ⟨(h1.si _ _ _).si _ _ _, by rw [sil, if_neg (by omega), sil, if_neg (by omega)]; exact h2, ?_, ?_, h5, fun i hi => ?_⟩
  · rw [sil, if_neg (by omega), sil, if_neg (by omega), sil, if_neg (by omega), sil, if_neg (by omega)]; exact h3
  · rw [sil, if_neg (by omega), sil, if_neg (by omega)]; exact h4
  · rw [si_1 _ _ _ _ _ (by decide), si_1 _ _ _ _ _ (by decide)]; exact h6 i hi
theorem linkS_1 {D : Mem} {a c : Nat} : linkS D a c = 1 ↔ haveP D ∧ allJ D a c := by
  unfold linkS
  by_cases h : haveP D
  · rw [if_pos h]
    by_cases h2 : allJ D a c
    · rw [if_pos h2]; exact ⟨fun _ => ⟨h, h2⟩, fun _ => rfl⟩
    · rw [if_neg h2]
      refine ⟨fun z => ?_, fun z => absurd z.2 h2⟩
      split at z <;> exact absurd z (by decide)
  · rw [if_neg h]; exact ⟨fun z => absurd z (by decide), fun z => absurd z.1 h⟩
theorem linkS_r (D : Mem) (a c : Nat) : -2147483648 ≤ linkS D a c ∧ linkS D a c < 2147483648 := by
  unfold linkS
  split
  · split
    · decide
    · split <;> decide
  · decide

theorem w_X10_why {d : Nat} {D M : Mem} {a c : Nat} (ha : (a : Int) < D.1 1 11) (hc : (c : Int) < D.1 1 11) (hr : ReadyM D M) : WP wdM (d + 7) mX10_why [vr 0, vi a, vi c] M (fun v M' => v = some (vi (whyS D a c)) ∧ AskM D M M') := by
  refine wp_of (by decide +kernel) (Nat.le_of_ble_eq_true rfl) ?_
  obtain ⟨hw, hD, hs⟩ := id hr
  obtain ⟨hR0, hR8, hN0, hN14⟩ := id (hD.bd hw)
  have hRo : M.1 0 13 = D.1 1 11 := hD.1.2.1
  have hDN := hw.1.2.2.2
  refine g_aload_n dX10_why_0 rfl rfl ?_
  refine g_iload_n dX10_why_1 rfl rfl ?_
  refine g_iload_n dX10_why_2 rfl rfl ?_
  refine g_callV dX10_why_3 lX10_238 (w_X10_link (d := d) ha hc hr) rfl rfl rfl rfl (Nat.le_of_ble_eq_true rfl) ?_
  rintro v M2 ⟨rfl, hA⟩
  show G _ _ _ _ _ _ [_] M2
  have hl := linkS_r D a c
  refine g_iconst dX10_why_6 ?_
  refine g_icmp_eq (tgt := 12) dX10_why_7 rfl (fun h7 => ?_) (fun h7 => ?_)
  · refine g_aload_n dX10_why_12 rfl rfl ?_
    refine g_iload_n dX10_why_13 rfl rfl ?_
    refine g_puti dX10_why_14 fX10_176 rfl rfl rfl (tyX10_ok 32 (by decide)) ?_
    refine g_aload_n dX10_why_17 rfl rfl ?_
    refine g_iload_n dX10_why_18 rfl rfl ?_
    refine g_puti dX10_why_19 fX10_179 rfl rfl rfl (tyX10_ok 33 (by decide)) ?_
    refine g_aload_n dX10_why_22 rfl rfl ?_
    obtain ⟨M3, hM3⟩ : ∃ M3, M3 = si (si M2 0 32 (a : Int)) 0 33 (c : Int) := ⟨_, rfl⟩
    rw [← hM3]
    have hA3 : AskM D M M3 := by rw [hM3]; exact hA.ask
    have hle := w_X10_least_p (d := d + 2) (M := M3) ha hc hw (hD.dat hA3.1) (by rw [hM3, sil, if_neg (by omega), sil, if_pos ⟨rfl, rfl⟩]) (by rw [hM3, sil, if_pos ⟨rfl, rfl⟩])
    have h1 := linkS_1.mp (show linkS D a c = 1 by omega)
    rw [leastR_p hw ha hc h1.1 h1.2] at hle
    refine g_iconst dX10_why_23 ?_
    refine g_callV dX10_why_24 lX10_241 (hle) rfl rfl rfl rfl (Nat.le_of_ble_eq_true rfl) ?_
    rintro v M4 ⟨rfl, hK⟩
    show G _ _ _ _ _ _ [vi (proofC D a c)] M4
    refine g_iret dX10_why_27 rfl ?_
    first
    | exact ⟨by unfold whyS; rw [if_neg (fun z => by have := linkS_1.mpr z; omega)], hA⟩
    | exact ⟨by unfold whyS; rw [if_pos h1], hA3.kp hK⟩
  · refine g_iconst dX10_why_10 ?_
    refine g_iret dX10_why_11 rfl ?_
    first
    | exact ⟨by unfold whyS; rw [if_neg (fun z => by have := linkS_1.mpr z; omega)], hA⟩
    | exact ⟨by unfold whyS; rw [if_pos h1], hA3.kp hK⟩

theorem w_X10_quarrel {d : Nat} {D M : Mem}  (hr : ReadyM D M) : WP wdM (d + 6) mX10_quarrel [vr 0] M (fun v M' => v = some (vi (quarrelS D)) ∧ AskM D M M') := by
  refine wp_of (by decide +kernel) (Nat.le_of_ble_eq_true rfl) ?_
  obtain ⟨hw, hD, hs⟩ := id hr
  obtain ⟨hR0, hR8, hN0, hN14⟩ := id (hD.bd hw)
  have hRo : M.1 0 13 = D.1 1 11 := hD.1.2.1
  have hDN := hw.1.2.2.2
  refine g_aload_n dX10_quarrel_0 rfl rfl ?_
  refine g_callV dX10_quarrel_1 lX10_245 (w_X10_ways (d := d) hr) rfl rfl rfl rfl (Nat.le_of_ble_eq_true rfl) ?_
  rintro v M2 ⟨rfl, hA⟩
  show G _ _ _ _ _ _ [_] M2
  obtain ⟨q1, q2, q3, q4⟩ := id hA.2.2
  refine g_if_eq (tgt := 9) dX10_quarrel_4 rfl (fun h4 => ?_) (fun h4 => ?_)
  · refine g_aload_n dX10_quarrel_9 rfl rfl ?_
    refine g_iconst dX10_quarrel_10 ?_
    refine g_puti dX10_quarrel_11 fX10_176 rfl rfl rfl (tyX10_ok 32 (by decide)) ?_
    refine g_aload_n dX10_quarrel_14 rfl rfl ?_
    refine g_iconst dX10_quarrel_15 ?_
    refine g_puti dX10_quarrel_16 fX10_179 rfl rfl rfl (tyX10_ok 33 (by decide)) ?_
    refine g_aload_n dX10_quarrel_19 rfl rfl ?_
    have h1 : (RR D).2.2 = false ∧ (RR D).2.1.length = 0 := by
      by_cases hz : (RR D).2.2 = true
      · rw [if_pos hz] at h4; exact absurd h4 (by decide)
      · rw [if_neg hz] at h4
        exact ⟨Bool.eq_false_iff.mpr hz, by omega⟩
    obtain ⟨M3, hM3⟩ : ∃ M3, M3 = si (si M2 0 32 (-1)) 0 33 (-1) := ⟨_, rfl⟩
    rw [← hM3]
    have hA3 : AskM D M M3 := by rw [hM3]; exact hA.ask
    have hle := w_X10_least_q (d := d + 1) (M := M3) hw (hD.dat hA3.1) (by rw [hM3, sil, if_neg (by omega), sil, if_pos ⟨rfl, rfl⟩]) (by rw [hM3, sil, if_pos ⟨rfl, rfl⟩])
    rw [leastR_q hw h1.1 h1.2] at hle
    refine g_iconst dX10_quarrel_20 ?_
    refine g_callV dX10_quarrel_21 lX10_241 (hle) rfl rfl rfl rfl (Nat.le_of_ble_eq_true rfl) ?_
    rintro v M4 ⟨rfl, hK⟩
    show G _ _ _ _ _ _ [vi (quarrelC D)] M4
    refine g_iret dX10_quarrel_24 rfl ?_
    first
    | exact ⟨by unfold quarrelS; rw [if_neg (fun z => by rw [if_neg (by rw [z.1]; decide), z.2] at h4; exact absurd rfl h4)], hA⟩
    | exact ⟨by unfold quarrelS; rw [if_pos h1], hA3.kp hK⟩
  · refine g_iconst dX10_quarrel_7 ?_
    refine g_iret dX10_quarrel_8 rfl ?_
    first
    | exact ⟨by unfold quarrelS; rw [if_neg (fun z => by rw [if_neg (by rw [z.1]; decide), z.2] at h4; exact absurd rfl h4)], hA⟩
    | exact ⟨by unfold quarrelS; rw [if_pos h1], hA3.kp hK⟩

theorem v_X10_why {d : Nat} {D M : Mem} {a c : Int} (a1 : -2147483648 ≤ a) (a2 : a < 2147483648) (c1 : -2147483648 ≤ c) (c2 : c < 2147483648) (hr : ReadyM D M) (hn : ¬ ((0 ≤ a ∧ a < M.1 0 13) ∧ (0 ≤ c ∧ c < M.1 0 13))) : WP wdM (d + 7) mX10_why [vr 0, vi a, vi c] M (Ret (some (vi (-1))) M) := by
  refine wp_of (by decide +kernel) (Nat.le_of_ble_eq_true rfl) ?_
  obtain ⟨hw, hD, hs⟩ := id hr
  obtain ⟨hR0, hR8, hN0, hN14⟩ := id (hD.bd hw)
  have hRo : M.1 0 13 = D.1 1 11 := hD.1.2.1
  have hDN := hw.1.2.2.2
  refine g_aload_n dX10_why_0 rfl rfl ?_
  refine g_iload_n dX10_why_1 rfl rfl ?_
  refine g_iload_n dX10_why_2 rfl rfl ?_
  refine g_callVr dX10_why_3 lX10_238 (v_X10_link (d := d) (by omega) (by omega) (by omega) (by omega) hr hn) rfl rfl rfl rfl (Nat.le_of_ble_eq_true rfl) ?_
  refine g_iconst dX10_why_6 ?_
  refine g_icmp_eq (tgt := 12) dX10_why_7 rfl (fun h7 => ?_) (fun h7 => ?_)
  · exfalso; omega
  · refine g_iconst dX10_why_10 ?_
    refine g_iret dX10_why_11 rfl ?_
    exact ⟨rfl, rfl⟩

theorem v_X10_kin {d : Nat} {D M : Mem} {k a c : Int} (k1 : -2147483648 ≤ k) (k2 : k < 2147483648) (a1 : -2147483648 ≤ a) (a2 : a < 2147483648) (c1 : -2147483648 ≤ c) (c2 : c < 2147483648) (hr : ReadyM D M) (hn : ¬ ((0 ≤ a ∧ a < M.1 0 13) ∧ (0 ≤ c ∧ c < M.1 0 13))) : WP wdM (d + 6) mX10_kin [vr 0, vi k, vi a, vi c] M (Ret (some (vi (-1))) M) := by
  refine wp_of (by decide +kernel) (Nat.le_of_ble_eq_true rfl) ?_
  obtain ⟨hw, hD, hs⟩ := id hr
  obtain ⟨hR0, hR8, hN0, hN14⟩ := id (hD.bd hw)
  have hRo : M.1 0 13 = D.1 1 11 := hD.1.2.1
  have hDN := hw.1.2.2.2
  refine g_aload_n dX10_kin_0 rfl rfl ?_
  refine g_iload_n dX10_kin_1 rfl rfl ?_
  refine g_callVr dX10_kin_2 lX10_153 (w_X10_isRole (by omega) (by omega) hR0 hR8 hN0 hN14) rfl rfl rfl rfl (Nat.le_of_ble_eq_true rfl) ?_
  refine g_if_eqB (tgt := 24) dX10_kin_5 rfl (fun h5 => ?_) (fun h5 => ?_)
  · refine g_iconst dX10_kin_24 ?_
    refine g_goto (tgt := 45) dX10_kin_25 rfl ?_
    refine g_iret dX10_kin_45 rfl ?_
    exact ⟨rfl, rfl⟩
  · refine g_aload_n dX10_kin_8 rfl rfl ?_
    refine g_iload_n dX10_kin_9 rfl rfl ?_
    refine g_callVr dX10_kin_10 lX10_153 (w_X10_isRole (by omega) (by omega) hR0 hR8 hN0 hN14) rfl rfl rfl rfl (Nat.le_of_ble_eq_true rfl) ?_
    refine g_if_eqB (tgt := 24) dX10_kin_13 rfl (fun h13 => ?_) (fun h13 => ?_)
    · refine g_iconst dX10_kin_24 ?_
      refine g_goto (tgt := 45) dX10_kin_25 rfl ?_
      refine g_iret dX10_kin_45 rfl ?_
      exact ⟨rfl, rfl⟩
    · exfalso; exact hn ⟨h5, h13⟩

theorem v_X10_always {d : Nat} {D M : Mem} {a c : Int} (a1 : -2147483648 ≤ a) (a2 : a < 2147483648) (c1 : -2147483648 ≤ c) (c2 : c < 2147483648) (hr : ReadyM D M) (hn : ¬ ((0 ≤ a ∧ a < M.1 0 13) ∧ (0 ≤ c ∧ c < M.1 0 13))) : WP wdM (d + 6) mX10_always [vr 0, vi a, vi c] M (Ret (some (vi (-3))) M) := by
  refine wp_of (by decide +kernel) (Nat.le_of_ble_eq_true rfl) ?_
  obtain ⟨hw, hD, hs⟩ := id hr
  obtain ⟨hR0, hR8, hN0, hN14⟩ := id (hD.bd hw)
  have hRo : M.1 0 13 = D.1 1 11 := hD.1.2.1
  have hDN := hw.1.2.2.2
  refine g_aload_n dX10_always_0 rfl rfl ?_
  refine g_iload_n dX10_always_1 rfl rfl ?_
  refine g_callVr dX10_always_2 lX10_153 (w_X10_isRole (by omega) (by omega) hR0 hR8 hN0 hN14) rfl rfl rfl rfl (Nat.le_of_ble_eq_true rfl) ?_
  refine g_if_eqB (tgt := 24) dX10_always_5 rfl (fun h5 => ?_) (fun h5 => ?_)
  · refine g_bipush dX10_always_24 rfl ?_
    refine g_iret dX10_always_26 rfl ?_
    exact ⟨rfl, rfl⟩
  · refine g_aload_n dX10_always_8 rfl rfl ?_
    refine g_iload_n dX10_always_9 rfl rfl ?_
    refine g_callVr dX10_always_10 lX10_153 (w_X10_isRole (by omega) (by omega) hR0 hR8 hN0 hN14) rfl rfl rfl rfl (Nat.le_of_ble_eq_true rfl) ?_
    refine g_if_eqB (tgt := 24) dX10_always_13 rfl (fun h13 => ?_) (fun h13 => ?_)
    · refine g_bipush dX10_always_24 rfl ?_
      refine g_iret dX10_always_26 rfl ?_
      exact ⟨rfl, rfl⟩
    · exfalso; exact hn ⟨h5, h13⟩

