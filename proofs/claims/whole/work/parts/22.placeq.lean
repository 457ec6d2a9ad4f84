/-! MODULE 18: place, of both seekers. -/
def LeaveP (b : Nat) (D M M' : Mem) (a : Asg) (ppl : Nat) : Prop :=
  (∀ p, ¬ (b + 5 ≤ p ∧ p ≤ b + 11) → M'.1 p = M.1 p ∧ M'.2 p = M.2 p) ∧ M'.1 (b + 5) 13 = ppl ∧ ∀ q', q' < ppl → Per b D M' q' (mems D a q')
theorem LeaveP_old {b : Nat} {D M : Mem} {a : Asg} {ppl q o : Nat} (hn : D.1 10 o = -1) (hq : q < ppl) (hc : M.1 (b + 5) 13 = ppl) (hne : mems D a q ≠ []) (hP : ∀ q', q' < ppl → Per b D M q' (mems D (a ++ [(o, q)]) q')) (o1 : M.1 (b + 13) o = fold1 max ((mems D a q).map (eF D))) (o2 : M.1 (b + 14) o = fold1 min ((mems D a q).map (lF D))) (o3 : M.1 (b + 15) o = fold1 bor ((mems D a q).map (mF D))) (o4 : M.1 (b + 16) o = fold1 max ((mems D a q).map (alF D))) (o5 : M.1 (b + 17) o = fold1 min ((mems D a q).map (deF D))) : LeaveP b D M (leaveM b M q o) a ppl := by
  refine ⟨fun p hp => ⟨?_, rfl⟩, ?_, fun q' hq' => ?_⟩
  · unfold leaveM
    rw [si_1 _ _ _ _ _ (by omega), si_1 _ _ _ _ _ (by omega), si_1 _ _ _ _ _ (by omega), si_1 _ _ _ _ _ (by omega), si_1 _ _ _ _ _ (by omega), si_1 _ _ _ _ _ (by omega)]
  · rw [← hc]; simp [leaveM, sil]
  · have h1 := hP q' hq'
    rw [mems_snoc hn] at h1
    by_cases h : q' = q
    · subst h
      rw [if_pos rfl] at h1
      exact Per_leave hne h1 o1 o2 o3 o4 o5
    · rw [if_neg h] at h1
      exact Per_other_leave h h1
theorem LeaveP_new {b : Nat} {D M : Mem} {a : Asg} {ppl o : Nat} (hn : D.1 10 o = -1) (hP : ∀ q', q' < ppl + 1 → Per b D M q' (mems D (a ++ [(o, ppl)]) q')) : LeaveP b D M (si M (b + 5) 13 ppl) a ppl := by
  refine ⟨fun p hp => ⟨si_1 _ _ _ _ _ (by omega), rfl⟩, by simp [sil], fun q' hq' => ?_⟩
  have h1 := hP q' (by omega)
  rw [mems_snoc hn, if_neg (by omega)] at h1
  exact Per_eq (fun p h1 h2 => si_1 _ _ _ _ _ (by omega)) h1
theorem feC_nil {D : Mem} {o : Nat} : feC D o [] = decide (eF D o ≤ lF D o) := rfl
theorem loopP_s (f : Nat → Res → Res) (n k : Nat) (R : Res) : loopP f (n + 1) k R = loopP f n (k + 1) (f k R) := rfl
/-- one person tried for a role -/
def stepP (D : Mem) (rem : List Nat) (o : Nat) (a : Asg) (ppl : Nat) (c : Int) (q : Nat) (R : Res) : Res := if (mayT R).1 = true then (if feC D o (mems D a q) = true ∧ c + addC D o (mems D a q) ≤ D.1 12 5 then placeP D rem (a ++ [(o, q)]) (if q < ppl then ppl else ppl + 1) (c + addC D o (mems D a q)) (mayT R).2 else (mayT R).2) else (mayT R).2
theorem placeP_o {D : Mem} {rem : List Nat} {o : Nat} {a : Asg} {ppl : Nat} {c : Int} {R : Res} (h : D.1 10 o = -1) : placeP D (o :: rem) a ppl c R = loopP (stepP D rem o a ppl c) (ppl + 1) 0 R := by
  show (if D.1 10 o = -1 then _ else _) = _
  rw [if_pos h]
  rfl
theorem placeP_c {D : Mem} {rem : List Nat} {o : Nat} {a : Asg} {ppl : Nat} {c : Int} {R : Res} (h : D.1 10 o ≠ -1) : placeP D (o :: rem) a ppl c R = if (mayT R).1 = true then placeP D rem (a ++ [(o, per a (D.1 10 o).toNat)]) ppl c (mayT R).2 else (mayT R).2 := by
  show (if D.1 10 o = -1 then _ else _) = _
  rw [if_neg h]
theorem stepP_spent {D : Mem} {rem : List Nat} {o : Nat} {a : Asg} {ppl : Nat} {c : Int} {q : Nat} {R : Res} (h : R.2.2 = true) : stepP D rem o a ppl c q R = R := by
  unfold stepP
  rw [mayT_spent h]
  rfl

theorem w_joinC_W {d : Nat} {D M : Mem} {a : Asg} {ppl q o : Nat} (hw : Wf D) (hT : TabD D M) (hn : D.1 10 o = -1) (ho : (o : Int) < D.1 1 11) (hq : q ≤ ppl) (hp : ppl ≤ 13) (hc : M.1 29 13 = ppl) (hP : ∀ q', q' < ppl → Per 24 D M q' (mems D a q')) (hl : a.length ≤ 13) (ha : ∀ x ∈ a, x.2 < ppl) (hm : ∀ x ∈ a, (x.1 : Int) < D.1 1 11) : WP wdC (d + 1) mX4_join [vr 29, vi q, vi o] M (fun v M' => v = none ∧ JoinP 24 D M M' a ppl q o) := by
  have hB := hw.1
  unfold WfB at hB
  by_cases hlt : q < ppl
  · obtain ⟨hne, p1, p2, p3, p4, p5, p6, p7⟩ := hP q hlt
    obtain ⟨t1, t2, t3, t4, t5, t6, -⟩ := hT.1 o ho
    have hms : ∀ p ∈ mems D a q, (p : Int) < D.1 1 11 := fun p hp1 => by
      obtain ⟨x, h1, h2, -, -⟩ := mems_in D q a p hp1
      rw [← h2]; exact hm x h1
    have hml := mems_len D q a
    obtain ⟨g1, g2, g3, g4⟩ := F_rg hw ho
    refine wp_mono (fun v M' h => ?_) (w_X4_join_old_W (M := M) (q := q) (o := o) (n := (mems D a q).length) (c := ppl) (by omega) (by omega) hc (by omega) hlt (by omega) p6 ?_ ?_ ?_ ?_ ?_ ?_ ?_ ?_)
    · obtain ⟨hv, hM⟩ := h
      rw [hM]
      exact ⟨hv, JoinP_old hn (hT.1 o ho) hlt hc hP hl⟩
    · rw [show M.1 30 q = _ from p1]; exact fold1_rg max_rg (map_rg eF (fun p hp => (F_rg hw (hms p hp)).1))
    · rw [show M.1 31 q = _ from p2]; exact fold1_rg min_rg (map_rg lF (fun p hp => (F_rg hw (hms p hp)).2.1))
    · rw [show M.1 33 q = _ from p4]; exact fold1_rg max_rg (map_rg alF (fun p hp => (F_rg hw (hms p hp)).2.2.1))
    · rw [show M.1 34 q = _ from p5]; exact fold1_rg min_rg (map_rg deF (fun p hp => (F_rg hw (hms p hp)).2.2.2))
    · rw [t1]; exact g1
    · rw [t2]; exact g2
    · rw [t5]; exact g3
    · rw [t6]; exact g4
  · have : q = ppl := by omega
    subst this
    refine wp_mono (fun v M' h => ?_) (w_X4_join_new_W (M := M) (q := q) (o := o) (by omega) (by omega) hc)
    obtain ⟨hv, hM⟩ := h
    rw [hM]
    exact ⟨hv, JoinP_new hn (hT.1 o ho) hP hl ha⟩
theorem w_leaveC_W {d : Nat} {D M : Mem} {a : Asg} {ppl q o : Nat} (hw : Wf D) (hn : D.1 10 o = -1) (ho : (o : Int) < D.1 1 11) (hq : q ≤ ppl) (hp : ppl ≤ 13) (hc : M.1 29 13 = ((if q < ppl then ppl else ppl + 1 : Nat) : Int)) (hP : ∀ q', q' < (if q < ppl then ppl else ppl + 1) → Per 24 D M q' (mems D (a ++ [(o, q)]) q')) (hl : a.length ≤ 13) (ha : ∀ x ∈ a, x.2 < ppl) (hne : q < ppl → mems D a q ≠ [])
  (o1 : q < ppl → M.1 (24 + 13) o = fold1 max ((mems D a q).map (eF D)) ∧ M.1 (24 + 14) o = fold1 min ((mems D a q).map (lF D)) ∧ M.1 (24 + 15) o = fold1 bor ((mems D a q).map (mF D)) ∧ M.1 (24 + 16) o = fold1 max ((mems D a q).map (alF D)) ∧ M.1 (24 + 17) o = fold1 min ((mems D a q).map (deF D))) : WP wdC (d + 1) mX4_leave [vr 29, vi q, vi o] M (fun v M' => v = none ∧ LeaveP 24 D M M' a ppl) := by
  have hB := hw.1
  unfold WfB at hB
  have hml := mems_len D q a
  by_cases hlt : q < ppl
  · rw [if_pos hlt] at hc hP
    obtain ⟨-, -, -, -, -, -, p6, -⟩ := hP q hlt
    rw [mems_snoc hn, if_pos rfl, List.length_append, List.length_singleton] at p6
    have hne := hne hlt
    have h1 : 1 ≤ (mems D a q).length := by
      cases hm : mems D a q with
      | nil => exact absurd hm hne
      | cons x r => simp
    obtain ⟨e1, e2, e3, e4, e5⟩ := o1 hlt
    refine wp_mono (fun v M' h => ?_) (w_X4_leave_old_W (M := M) (q := q) (o := o) (c := ppl) (n := (((mems D a q).length + 1 : Nat) : Int)) (by omega) (by omega) hc (by omega) hlt p6 (by omega) (by omega))
    obtain ⟨hv, hM⟩ := h
    rw [hM]
    exact ⟨hv, LeaveP_old hn hlt hc hne hP e1 e2 e3 e4 e5⟩
  · have : q = ppl := by omega
    subst this
    rw [if_neg hlt] at hc hP
    obtain ⟨-, -, -, -, -, -, p6, -⟩ := hP q (by omega)
    rw [mems_snoc hn, if_pos rfl, mems_none ha] at p6
    refine wp_mono (fun v M' h => ?_) (w_X4_leave_new_W (M := M) (q := q) (o := o) (c := q + 1) (by omega) (by omega) (by rw [hc]) (by omega) (by omega) p6)
    obtain ⟨hv, hM⟩ := h
    rw [hM]
    exact ⟨hv, LeaveP_new hn hP⟩

theorem w_place_W {D : Mem} {ord : List Nat} (hw : Wf D) (hO : OrdOK D ord) : ∀ (e : Nat) (rem : List Nat) (a : Asg) (ppl : Nat) (c : Int) (M : Mem) (R : Res), AInv D ord rem a ppl c → SInv 24 3000 D ord a ppl c M R → WP wdC (e + rem.length + 3) mX6_place [vr 24, vi a.length] M (fun v M' => v = none ∧ Fr 24 (24 + 20) M M' ∧ OldE 24 a M M' ∧ SInv 24 3000 D ord a ppl c M' (placeP D rem a ppl c R)) := by
  have hl14 := ord_len hw hO
  have hB := hw.1
  unfold WfB at hB
  have hbud := hw.2.2.2.2.2.2.2.1
  unfold budgetOK at hbud
  have hlt14 : ∀ o ∈ ord, o < 14 := fun o ho => by have := hO.1 o ho; omega
  intro e rem
  induction rem with
  | nil =>
    intro a ppl c M R hA hS
    obtain ⟨a1, a2, a3, a4, a5⟩ := hA
    rw [List.append_nil] at a1
    have hal : a.length = ord.length := by rw [← a1, List.length_map]
    obtain ⟨s1, s2, s3, s4, s5, s6, s7, s8⟩ := id hS
    have hO1 : M.1 24 9 = ord.length := s3.1
    have hnd : (a.map (fun x => x.1)).Nodup := by rw [a1]; exact hO.nd
    have hper : ∀ o ∈ ord, M.1 26 o = per a o ∧ per a o < 14 := fun o ho => by
      rw [← a1] at ho
      obtain ⟨x, hx, hxo⟩ := List.mem_map.mp ho
      have h1 : per a o = x.2 := per_in (by rw [← hxo]; exact hx) hnd
      have h2 := a2 x hx
      refine ⟨?_, by omega⟩
      rw [h1, ← hxo]; exact s7 x hx
    have hz : ∀ o, o ∉ ord → per a o = 0 := fun o ho => by
      have := per_app o a []
      rw [List.append_nil, a1, if_neg ho] at this
      exact this
    refine wp_of (by decide +kernel) (Nat.le_of_ble_eq_true rfl) ?_
    refine g_iload_n dX6_place_0 rfl rfl ?_
    refine g_aload_n dX6_place_1 rfl rfl ?_
    refine g_get dX6_place_2 fX6_24 rfl rfl ?_
    refine g_icmp_ge (tgt := 14) dX6_place_5 rfl (fun h5 => ?_) (fun h5 => ?_)
    · refine g_aload_n dX6_place_14 rfl rfl ?_
      refine g_callV dX6_place_15 lX6_94 (w_X6_keep_W s3 hlt14 hl14 hO.nd hper hz s8 s4) rfl rfl rfl rfl (Nat.le_of_ble_eq_true rfl) ?_
      rintro v M2 ⟨rfl, hK, hR2⟩
      show G _ _ _ _ _ _ [] M2
      refine g_vret dX6_place_18 rfl ?_
      obtain ⟨k1, k2, k3⟩ := hS.keep (by decide) hK hR2
      exact ⟨rfl, k2, k3, k1⟩
    · exfalso; omega
  | cons o rem ih =>
    intro a ppl c M R hA hS
    obtain ⟨a1, a2, a3, a4, a5⟩ := id hA
    have hal : a.length < ord.length := by rw [← a1, List.length_append, List.length_map]; simp
    have ho : o ∈ ord := by rw [← a1]; exact List.mem_append_right _ List.mem_cons_self
    have hoN := hO.1 o ho
    have ho14 := hlt14 o ho
    have hnd : (a.map (fun x => x.1)).Nodup := (List.nodup_append.mp (a1 ▸ hO.nd : (a.map (fun x => x.1) ++ o :: rem).Nodup)).1
    have hoa : o ∉ a.map (fun x => x.1) := fun h => (List.nodup_append.mp (a1 ▸ hO.nd : (a.map (fun x => x.1) ++ o :: rem).Nodup)).2.2 o h o List.mem_cons_self rfl
    have hain : ∀ x ∈ a, x.1 ∈ ord := fun x hx => by rw [← a1]; exact List.mem_append_left _ (List.mem_map.mpr ⟨x, hx, rfl⟩)
    have hao : ∀ x ∈ a, x.1 < o := fun x hx => by
      have h1 := hO.2.1
      rw [← a1, List.pairwise_append] at h1
      exact h1.2.2 x.1 (List.mem_map.mpr ⟨x, hx, rfl⟩) o List.mem_cons_self
    have hget : ord.getD a.length 0 = o := by
      rw [← a1, List.getD_eq_getElem?_getD, List.getElem?_append_right (by rw [List.length_map]; exact Nat.le_refl _), List.length_map, Nat.sub_self]; rfl
    have hA2 : ∀ (q ppl' : Nat) (c' : Int), q < ppl' → ppl ≤ ppl' → ppl' ≤ ppl + 1 → 0 ≤ c' → c' ≤ D.1 12 5 → AInv D ord rem (a ++ [(o, q)]) ppl' c' := fun q ppl' c' h1 h2 h2' h3 h4 => by
      refine ⟨by rw [List.map_append, List.append_assoc]; exact a1, fun x hx => ?_, by rw [List.length_append, List.length_singleton]; omega, h3, h4⟩
      rcases List.mem_append.mp hx with h | h
      · have := a2 x h; omega
      · rw [List.mem_singleton] at h; subst h; exact h1
    have hlen2 : ∀ q, ((a ++ [(o, q)] : Asg).length : Int) = (a.length : Int) + 1 := fun q => by rw [List.length_append, List.length_singleton]; omega
    by_cases hcp : D.1 10 o = -1
    · have loop : ∀ n k : Nat, k + n = ppl + 1 → ∀ (M1 : Mem) (R1 : Res) (x6 : Option AV), Fr 24 (24 + 20) M M1 → OldE 24 a M M1 → SInv 24 3000 D ord a ppl c M1 R1 → loopP (stepP D rem o a ppl c) n k R1 = placeP D (o :: rem) a ppl c R → G wdC mX6_place (e + rem.length + 4) (fun v M' => v = none ∧ Fr 24 (24 + 20) M M' ∧ OldE 24 a M M' ∧ SInv 24 3000 D ord a ppl c M' (placeP D (o :: rem) a ppl c R)) 95 [some (vr 24), some (vi a.length), some (vi o), some (vi (-1)), some (vi ppl), some (vi k), x6] [] M1 := by
        intro n
        induction n with
        | zero =>
          intro k hk M1 R1 x6 hF hOl hS1 hfin
          refine g_iload dX6_place_95 rfl ?_
          refine g_iload dX6_place_97 rfl ?_
          refine g_icmp_gt (tgt := 224) dX6_place_99 rfl (fun h99 => ?_) (fun h99 => ?_)
          · refine g_vret dX6_place_224 rfl ?_
            exact ⟨rfl, hF, hOl, hfin ▸ hS1⟩
          · exfalso; omega
        | succ n ihn =>
          intro k hk M1 R1 x6 hF hOl hS1 hfin
          obtain ⟨m1, m2, m3, m4⟩ := hS1.try (by decide)
          obtain ⟨-, -, -, -, -, -, -, ⟨y1, y2, y3, y4, y5, -⟩⟩ := id hS1
          have hs01 : M1.1 24 13 = 0 ∨ M1.1 24 13 = 1 := by rw [show M1.1 24 13 = _ from y3]; split <;> simp
          have ht0 : 0 ≤ M1.1 24 11 := by rw [show M1.1 24 11 = _ from y1]; omega
          have ht1 : M1.1 24 11 ≤ 300000 := by rw [show M1.1 24 11 = _ from y1]; omega
          rw [loopP_s] at hfin
          have hF2 := hF.tr m2
          have hOl2 := hOl.tr m3
          have hml := mems_len D k a
          have hadd := addC_rg hw (o := o) (ms := mems D a k) (by omega)
          have hms1 : ∀ p ∈ mems D a k, p < o := fun p hp1 => by
            obtain ⟨x, h1, h2, -, -⟩ := mems_in D k a p hp1
            rw [← h2]; exact hao x h1
          have hms2 : ∀ p ∈ mems D a k, (p : Int) < D.1 1 11 := fun p hp1 => by have := hms1 p hp1; omega
          refine g_iload dX6_place_95 rfl ?_
          refine g_iload dX6_place_97 rfl ?_
          refine g_icmp_gt (tgt := 224) dX6_place_99 rfl (fun h99 => ?_) (fun h99 => ?_)
          · exfalso; omega
          · refine g_aload_n dX6_place_102 rfl rfl ?_
            refine g_callVr dX6_place_103 lX6_104 (w_X6_mayTry_W (M := M1) hs01 ht0 ht1) rfl rfl rfl rfl (Nat.le_of_ble_eq_true rfl) ?_
            generalize tryM 24 M1 = M2 at *
            show G _ _ _ _ _ _ [_] M2
            obtain ⟨s1, s2, s3, s4, s5, s6, s7, s8⟩ := id m1
            refine g_if_eqB (tgt := 224) dX6_place_106 rfl (fun h106 => ?_) (fun h106 => ?_)
            · have hf : (mayT R1).1 = false := by
                cases hz : (mayT R1).1 with
                | false => rfl
                | true => exact absurd (m4.mpr hz) h106
              have hsp := mayT_false hf
              have e1 : stepP D rem o a ppl c k R1 = (mayT R1).2 := by unfold stepP; rw [if_neg (by rw [hf]; decide)]
              rw [e1, loopP_id (fun k R h => stepP_spent h) _ _ _ hsp] at hfin
              refine g_vret dX6_place_224 rfl ?_
              exact ⟨rfl, hF2, hOl2, hfin ▸ m1⟩
            · have ht : (mayT R1).1 = true := m4.mp h106
              refine g_aload_n dX6_place_109 rfl rfl ?_
              refine g_getr dX6_place_110 fX6_63 rfl rfl ?_
              refine g_iload dX6_place_113 rfl ?_
              refine g_iload_n dX6_place_115 rfl rfl ?_
              refine g_callVr dX6_place_116 lX6_108 (w_X4_admits_W (M := M2) (D := D) (ppl := ppl) (ms := mems D a k) hw s2 hoN s5 (by omega) (by rcases Nat.lt_or_ge k ppl with h | h; exact Or.inr ⟨h, s6 k h⟩; exact Or.inl ⟨by omega, by have : k = ppl := (by omega); rw [this]; exact mems_none a2⟩) hms2) rfl rfl rfl rfl (Nat.le_of_ble_eq_true rfl) ?_
              refine g_if_eqB (tgt := 135) dX6_place_119 rfl (fun h119 => ?_) (fun h119 => ?_)
              · have e1 : stepP D rem o a ppl c k R1 = (mayT R1).2 := by unfold stepP; rw [if_pos ht, if_neg (fun z => h119 z.1)]
                refine g_iconst dX6_place_135 ?_
                refine g_istore (ls' := [some _, some _, some _, some _, some _, some _, some _]) dX6_place_136 (by decide) rfl ?_
                refine g_iload dX6_place_138 rfl ?_
                refine g_iconst dX6_place_140 ?_
                refine g_icmp_eq (tgt := 218) dX6_place_141 rfl (fun _ => ?_) (fun h141 => absurd (by decide) h141)
                refine g_iinc (ls' := [some _, some _, some _, some _, some _, some _, some _]) dX6_place_218 rfl rfl ?_
                refine g_goto (tgt := 95) dX6_place_221 rfl ?_
                first
                  | exact ihn (k + 1) (by omega) M2 (mayT R1).2 _ hF2 hOl2 m1 (by rw [← hfin, e1])
                  | (refine ihn (k + 1) (by omega) M6 _ _ ?_ ?_ ?_ (by rw [← hfin, e1])
                     · refine hF2.tr (Fr.tr (Fr.si (Fr.si (fun p hp => j1 p (by omega)) _ _ _) _ _ _) (f1.tr ((Fr.si Fr.rf _ _ _).tr (fun p hp => l1 p (by omega)))))
                     · refine hOl2.tr (fun x hx p h1 h2 => ?_)
                       rw [(l1 p (by omega)).1, si_1 _ _ _ _ _ (by omega), f2 x (List.mem_append_left _ hx) p h1 h2, si_1 _ _ _ _ _ (by omega), si_1 _ _ _ _ _ (by omega)]
                       exact j5 x.1 p (by have := hao x hx; omega) h1 h2
                     · have hF6 : Fr 24 (24 + 20) M5 M6 := (Fr.si Fr.rf _ _ _).tr (fun p hp => l1 p (by omega))
                       refine ⟨z1.tr (hF6.dat (by decide)), z2.fr hF6 (by decide), ⟨?_, fun i hi => ?_⟩, ?_, l2, l3, fun x hx => ?_, ?_⟩
                       · rw [(l1 24 (by omega)).1]; exact z3.1
                       · rw [(l1 (24 + 1) (by omega)).1]; exact z3.2 i hi
                       · rw [(l1 24 (by omega)).1]; rfl
                       · rw [(l1 (24 + 2) (by omega)).1]; exact z7 x (List.mem_append_left _ hx)
                       · refine z8.eq ?_ ?_ ?_ ?_ ?_ ?_
                         · rw [(l1 24 (by omega)).1]; rfl
                         · rw [(l1 24 (by omega)).1]; rfl
                         · rw [(l1 24 (by omega)).1]; rfl
                         · rw [(l1 (24 + 3) (by omega)).1]; rfl
                         · rw [(l1 (24 + 18) (by omega)).2]; rfl
                         · rw [(l1 (24 + 19) (by omega)).1]; rfl)
              · refine g_aload_n dX6_place_122 rfl rfl ?_
                refine g_getr dX6_place_123 fX6_63 rfl rfl ?_
                refine g_iload dX6_place_126 rfl ?_
                refine g_iload_n dX6_place_128 rfl rfl ?_
                refine g_callVr dX6_place_129 lX6_112 (w_X4_added_W (M := M2) (D := D) (ppl := ppl) (ms := mems D a k) hw s2 hoN s5 (by omega) (by rcases Nat.lt_or_ge k ppl with h | h; exact Or.inr ⟨h, s6 k h⟩; exact Or.inl ⟨by omega, by have : k = ppl := (by omega); rw [this]; exact mems_none a2⟩) hms1 (by omega)) rfl rfl rfl rfl (Nat.le_of_ble_eq_true rfl) ?_
                refine g_goto (tgt := 136) dX6_place_132 rfl ?_
                refine g_istore (ls' := [some _, some _, some _, some _, some _, some _, some _]) dX6_place_136 (by decide) rfl ?_
                refine g_iload dX6_place_138 rfl ?_
                refine g_iconst dX6_place_140 ?_
                refine g_icmp_eq (tgt := 218) dX6_place_141 rfl (fun h141 => ?_) (fun h141 => ?_)
                · exfalso; omega
                · refine g_aload_n dX6_place_144 rfl rfl ?_
                  refine g_get dX6_place_145 fX6_28 rfl rfl ?_
                  try simp only [sil, sjl, Nat.reduceAdd, Nat.reduceEqDiff, eq_self, false_and, and_false, true_and, and_true, if_false, if_true, reduceIte]
                  rw [show M2.1 24 10 = c from s4]
                  refine g_iload dX6_place_148 rfl ?_
                  refine g_iadd dX6_place_150 ?_
                  refine g_aload_n dX6_place_151 rfl rfl ?_
                  refine g_getr dX6_place_152 fX6_54 rfl rfl ?_
                  refine g_get dX6_place_155 fX6_115 rfl rfl ?_
                  try simp only [sil, sjl, Nat.reduceAdd, Nat.reduceEqDiff, eq_self, false_and, and_false, true_and, and_true, if_false, if_true, reduceIte]
                  rw [show M2.1 16 10 = D.1 12 5 from s2.2.1]
                  refine g_icmp_gt (tgt := 218) dX6_place_158 rfl (fun h158 => ?_) (fun h158 => ?_)
                  · have e1 : stepP D rem o a ppl c k R1 = (mayT R1).2 := by
                      unfold stepP
                      rw [if_pos ht, if_neg (fun z => by omega)]
                    refine g_iinc (ls' := [some _, some _, some _, some _, some _, some _, some _]) dX6_place_218 rfl rfl ?_
                    refine g_goto (tgt := 95) dX6_place_221 rfl ?_
                    first
                      | exact ihn (k + 1) (by omega) M2 (mayT R1).2 _ hF2 hOl2 m1 (by rw [← hfin, e1])
                      | (refine ihn (k + 1) (by omega) M6 _ _ ?_ ?_ ?_ (by rw [← hfin, e1])
                         · refine hF2.tr (Fr.tr (Fr.si (Fr.si (fun p hp => j1 p (by omega)) _ _ _) _ _ _) (f1.tr ((Fr.si Fr.rf _ _ _).tr (fun p hp => l1 p (by omega)))))
                         · refine hOl2.tr (fun x hx p h1 h2 => ?_)
                           rw [(l1 p (by omega)).1, si_1 _ _ _ _ _ (by omega), f2 x (List.mem_append_left _ hx) p h1 h2, si_1 _ _ _ _ _ (by omega), si_1 _ _ _ _ _ (by omega)]
                           exact j5 x.1 p (by have := hao x hx; omega) h1 h2
                         · have hF6 : Fr 24 (24 + 20) M5 M6 := (Fr.si Fr.rf _ _ _).tr (fun p hp => l1 p (by omega))
                           refine ⟨z1.tr (hF6.dat (by decide)), z2.fr hF6 (by decide), ⟨?_, fun i hi => ?_⟩, ?_, l2, l3, fun x hx => ?_, ?_⟩
                           · rw [(l1 24 (by omega)).1]; exact z3.1
                           · rw [(l1 (24 + 1) (by omega)).1]; exact z3.2 i hi
                           · rw [(l1 24 (by omega)).1]; rfl
                           · rw [(l1 (24 + 2) (by omega)).1]; exact z7 x (List.mem_append_left _ hx)
                           · refine z8.eq ?_ ?_ ?_ ?_ ?_ ?_
                             · rw [(l1 24 (by omega)).1]; rfl
                             · rw [(l1 24 (by omega)).1]; rfl
                             · rw [(l1 24 (by omega)).1]; rfl
                             · rw [(l1 (24 + 3) (by omega)).1]; rfl
                             · rw [(l1 (24 + 18) (by omega)).2]; rfl
                             · rw [(l1 (24 + 19) (by omega)).1]; rfl)
                  · have e1 : stepP D rem o a ppl c k R1 = placeP D rem (a ++ [(o, k)]) (if k < ppl then ppl else ppl + 1) (c + addC D o (mems D a k)) (mayT R1).2 := by
                      unfold stepP
                      rw [if_pos ht, if_pos ⟨h119, by omega⟩]
                    refine g_aload_n dX6_place_161 rfl rfl ?_
                    refine g_getr dX6_place_162 fX6_63 rfl rfl ?_
                    refine g_iload dX6_place_165 rfl ?_
                    refine g_iload_n dX6_place_167 rfl rfl ?_
                    refine g_callV dX6_place_168 lX6_120 (w_joinC_W (M := M2) (D := D) (a := a) (ppl := ppl) hw s2 hcp hoN (by omega) (by omega) s5 s6 (by omega) a2 (fun x hx => hO.1 _ (hain x hx))) rfl rfl rfl rfl (Nat.le_of_ble_eq_true rfl) ?_
                    rintro v M3 ⟨rfl, hJ⟩
                    show G _ _ _ _ _ _ [] M3
                    obtain ⟨j1, j2, j3, j4, j5⟩ := id hJ
                    have c3 : M3.1 24 10 = c := by rw [(j1 24 (by omega)).1]; exact s4
                    refine g_aload_n dX6_place_171 rfl rfl ?_
                    refine g_getr dX6_place_172 fX6_15 rfl rfl ?_
                    refine g_iload_n dX6_place_175 rfl rfl ?_
                    refine g_iload dX6_place_176 rfl ?_
                    refine g_iast dX6_place_178 rfl (by decide) ?_
                    try simp only [Int.toNat_natCast]
                    refine g_aload_n dX6_place_179 rfl rfl ?_
                    refine g_dup dX6_place_180 rfl ?_
                    refine g_get dX6_place_181 fX6_28 rfl rfl ?_
                    try simp only [sil, sjl, Nat.reduceAdd, Nat.reduceEqDiff, eq_self, false_and, and_false, true_and, and_true, if_false, if_true, reduceIte]
                    rw [c3]
                    refine g_iload dX6_place_184 rfl ?_
                    refine g_iadd dX6_place_186 ?_
                    refine g_puti dX6_place_187 fX6_28 rfl rfl rfl (tyX6_ok 10 (by decide)) ?_
                    have hkp : k < (if k < ppl then ppl else ppl + 1) := by split <;> omega
                    have hA3 := hA2 k (if k < ppl then ppl else ppl + 1) (c + addC D o (mems D a k)) hkp (by split <;> omega) (by split <;> omega) (by omega) (by omega)
                    have hS3 : SInv 24 3000 D ord (a ++ [(o, k)]) (if k < ppl then ppl else ppl + 1) (c + addC D o (mems D a k)) (si (si M3 26 o k) 24 10 (c + addC D o (mems D a k))) (mayT R1).2 := by
                      have hFj : Fr 24 (24 + 20) M2 (si (si M3 26 o k) 24 10 (c + addC D o (mems D a k))) := Fr.si (Fr.si (fun p hp => j1 p (by omega)) _ _ _) _ _ _
                      refine ⟨s1.tr (hFj.dat (by decide)), s2.fr hFj (by decide), ⟨?_, fun i hi => ?_⟩, rfl, ?_, fun q' hq' => ?_, fun x hx => ?_, ?_⟩
                      · rw [← s3.1, ← (j1 24 (by omega)).1]; rfl
                      · rw [← s3.2 i hi, ← (j1 (24 + 1) (by omega)).1]; rfl
                      · rw [← j2]; rfl
                      · exact Per_eq (fun p h1 h2 => by rw [si_1 _ _ _ _ _ (by omega), si_1 _ _ _ _ _ (by omega)]) (j3 q' hq')
                      · rw [si_1 _ _ _ _ _ (by decide)]
                        rcases List.mem_append.mp hx with h | h
                        · rw [si_ne _ _ _ _ _ _ (fun z => by have := hao x h; omega), (j1 (24 + 2) (by omega)).1]
                          exact s7 x h
                        · rw [List.mem_singleton] at h; subst h
                          exact si_eq _ _ _ _
                      · refine s8.eq ?_ ?_ ?_ ?_ ?_ ?_
                        · rw [← (j1 24 (by omega)).1]; rfl
                        · rw [← (j1 24 (by omega)).1]; rfl
                        · rw [← (j1 24 (by omega)).1]; rfl
                        · rw [← (j1 (24 + 3) (by omega)).1]; rfl
                        · rw [← (j1 (24 + 18) (by omega)).2]; rfl
                        · rw [← (j1 (24 + 19) (by omega)).1]; rfl
                    refine g_aload_n dX6_place_190 rfl rfl ?_
                    refine g_iload_n dX6_place_191 rfl rfl ?_
                    refine g_iconst dX6_place_192 ?_
                    refine g_iadd dX6_place_193 ?_
                    rw [← hlen2 k]
                    refine g_callS dX6_place_194 lX6_90 (ih (a ++ [(o, k)]) (if k < ppl then ppl else ppl + 1) (c + addC D o (mems D a k)) _ (mayT R1).2 hA3 hS3) rfl rfl (Nat.le_of_ble_eq_true rfl) ?_
                    rintro v M5 ⟨rfl, f1, f2, f3⟩
                    show G _ _ _ _ _ _ [] M5
                    obtain ⟨z1, z2, z3, z4, z5, z6, z7, z8⟩ := id f3
                    refine g_aload_n dX6_place_197 rfl rfl ?_
                    refine g_dup dX6_place_198 rfl ?_
                    refine g_get dX6_place_199 fX6_28 rfl rfl ?_
                    try simp only [sil, sjl, Nat.reduceAdd, Nat.reduceEqDiff, eq_self, false_and, and_false, true_and, and_true, if_false, if_true, reduceIte]
                    rw [show M5.1 24 10 = _ from z4]
                    refine g_iload dX6_place_202 rfl ?_
                    refine g_isub dX6_place_204 ?_
                    rw [Int.add_sub_cancel]
                    refine g_puti dX6_place_205 fX6_28 rfl rfl rfl (tyX6_ok 10 (by decide)) ?_
                    have hold : k < ppl → M5.1 (24 + 13) o = fold1 max ((mems D a k).map (eF D)) ∧ M5.1 (24 + 14) o = fold1 min ((mems D a k).map (lF D)) ∧ M5.1 (24 + 15) o = fold1 bor ((mems D a k).map (mF D)) ∧ M5.1 (24 + 16) o = fold1 max ((mems D a k).map (alF D)) ∧ M5.1 (24 + 17) o = fold1 min ((mems D a k).map (deF D)) := fun h => by
                      obtain ⟨w1, w2, w3, w4, w5⟩ := j4 h
                      obtain ⟨-, p1, p2, p3, p4, p5, -⟩ := s6 k h
                      have g := fun p h1 h2 => f2 (o, k) (List.mem_append_right _ List.mem_cons_self) p h1 h2
                      refine ⟨?_, ?_, ?_, ?_, ?_⟩
                      · rw [g _ (by omega) (by omega), ← p1, ← w1]; rfl
                      · rw [g _ (by omega) (by omega), ← p2, ← w2]; rfl
                      · rw [g _ (by omega) (by omega), ← p3, ← w3]; rfl
                      · rw [g _ (by omega) (by omega), ← p4, ← w4]; rfl
                      · rw [g _ (by omega) (by omega), ← p5, ← w5]; rfl
                    refine g_aload_n dX6_place_208 rfl rfl ?_
                    refine g_getr dX6_place_209 fX6_63 rfl rfl ?_
                    refine g_iload dX6_place_212 rfl ?_
                    refine g_iload_n dX6_place_214 rfl rfl ?_
                    refine g_callV dX6_place_215 lX6_124 (w_leaveC_W (M := si M5 24 10 c) (D := D) (a := a) (ppl := ppl) (q := k) (o := o) hw hcp hoN (by omega) (by omega) (by rw [si_1 _ _ _ _ _ (by decide)]; exact z5) (fun q' hq' => Per_eq (fun p h1 h2 => si_1 _ _ _ _ _ (by omega)) (z6 q' hq')) (by omega) a2 (fun h => (s6 k h).1) (fun h => by obtain ⟨w1, w2, w3, w4, w5⟩ := hold h; exact ⟨w1, w2, w3, w4, w5⟩)) rfl rfl rfl rfl (Nat.le_of_ble_eq_true rfl) ?_
                    rintro v M6 ⟨rfl, l1, l2, l3⟩
                    show G _ _ _ _ _ _ [] M6
                    refine g_iinc (ls' := [some _, some _, some _, some _, some _, some _, some _]) dX6_place_218 rfl rfl ?_
                    refine g_goto (tgt := 95) dX6_place_221 rfl ?_
                    first
                      | exact ihn (k + 1) (by omega) M2 (mayT R1).2 _ hF2 hOl2 m1 (by rw [← hfin, e1])
                      | (refine ihn (k + 1) (by omega) M6 _ _ ?_ ?_ ?_ (by rw [← hfin, e1])
                         · refine hF2.tr (Fr.tr (Fr.si (Fr.si (fun p hp => j1 p (by omega)) _ _ _) _ _ _) (f1.tr ((Fr.si Fr.rf _ _ _).tr (fun p hp => l1 p (by omega)))))
                         · refine hOl2.tr (fun x hx p h1 h2 => ?_)
                           rw [(l1 p (by omega)).1, si_1 _ _ _ _ _ (by omega), f2 x (List.mem_append_left _ hx) p h1 h2, si_1 _ _ _ _ _ (by omega), si_1 _ _ _ _ _ (by omega)]
                           exact j5 x.1 p (by have := hao x hx; omega) h1 h2
                         · have hF6 : Fr 24 (24 + 20) M5 M6 := (Fr.si Fr.rf _ _ _).tr (fun p hp => l1 p (by omega))
                           refine ⟨z1.tr (hF6.dat (by decide)), z2.fr hF6 (by decide), ⟨?_, fun i hi => ?_⟩, ?_, l2, l3, fun x hx => ?_, ?_⟩
                           · rw [(l1 24 (by omega)).1]; exact z3.1
                           · rw [(l1 (24 + 1) (by omega)).1]; exact z3.2 i hi
                           · rw [(l1 24 (by omega)).1]; rfl
                           · rw [(l1 (24 + 2) (by omega)).1]; exact z7 x (List.mem_append_left _ hx)
                           · refine z8.eq ?_ ?_ ?_ ?_ ?_ ?_
                             · rw [(l1 24 (by omega)).1]; rfl
                             · rw [(l1 24 (by omega)).1]; rfl
                             · rw [(l1 24 (by omega)).1]; rfl
                             · rw [(l1 (24 + 3) (by omega)).1]; rfl
                             · rw [(l1 (24 + 18) (by omega)).2]; rfl
                             · rw [(l1 (24 + 19) (by omega)).1]; rfl)
      refine wp_of (by decide +kernel) (Nat.le_of_ble_eq_true rfl) ?_
      obtain ⟨s1, s2, s3, s4, s5, s6, s7, s8⟩ := id hS
      have hO1 : M.1 24 9 = ord.length := s3.1
      have hO3 : M.1 25 a.length = (o : Nat) := by rw [← hget]; exact s3.2 a.length hal
      have hcm : M.1 10 o = -1 := by rw [(s1 10 (by decide) (by decide)).1]; exact hcp
      have s5' : M.1 29 13 = ppl := s5
      refine g_iload_n dX6_place_0 rfl rfl ?_
      refine g_aload_n dX6_place_1 rfl rfl ?_
      refine g_get dX6_place_2 fX6_24 rfl rfl ?_
      refine g_icmp_ge (tgt := 14) dX6_place_5 rfl (fun h5 => ?_) (fun h5 => ?_)
      · exfalso; omega
      · refine g_iload_n dX6_place_8 rfl rfl ?_
        refine g_bipush dX6_place_9 rfl ?_
        refine g_icmp_lt (tgt := 19) dX6_place_11 rfl (fun h11 => ?_) (fun h11 => ?_)
        · refine g_aload_n dX6_place_19 rfl rfl ?_
          refine g_getr dX6_place_20 fX6_9 rfl rfl ?_
          refine g_iload_n dX6_place_23 rfl rfl ?_
          refine g_iald dX6_place_24 rfl (by decide) ?_
          try simp only [Int.toNat_natCast]
          rw [hO3]
          refine g_istore_n (ls' := [some _, some _, some _, _, _, _, _]) dX6_place_25 rfl (by decide) rfl ?_
          refine g_iload_n dX6_place_26 rfl rfl ?_
          refine g_callSr dX6_place_27 lX6_97 (w_X9_isPlace (by omega) (by omega)) rfl rfl (Nat.le_of_ble_eq_true rfl) ?_
          refine g_if_neB (tgt := 34) dX6_place_30 rfl (fun h30 => ?_) (fun h30 => ?_)
          · refine g_aload_n dX6_place_34 rfl rfl ?_
            refine g_getr dX6_place_35 fX6_50 rfl rfl ?_
            refine g_getr dX6_place_38 fX6_101 rfl rfl ?_
            refine g_iload_n dX6_place_41 rfl rfl ?_
            refine g_iald dX6_place_42 rfl (by decide) ?_
            try simp only [Int.toNat_natCast]
            rw [hcm]
            refine g_istore_n (ls' := [some _, some _, some _, some _, _, _, _]) dX6_place_43 rfl (by decide) rfl ?_
            refine g_iload_n dX6_place_44 rfl rfl ?_
            refine g_callSr dX6_place_45 lX6_97 (w_X9_isPlace (by omega) (by omega)) rfl rfl (Nat.le_of_ble_eq_true rfl) ?_
            refine g_if_eqB (tgt := 78) dX6_place_48 rfl (fun h48 => ?_) (fun h48 => ?_)
            · refine g_aload_n dX6_place_78 rfl rfl ?_
              refine g_getr dX6_place_79 fX6_63 rfl rfl ?_
              refine g_get dX6_place_82 fX6_89 rfl rfl ?_
              rw [s5']
              refine g_bipush dX6_place_85 rfl ?_
              refine g_min dX6_place_87 lX6_41 (Nat.le_of_ble_eq_true rfl) ?_
              rw [show min (ppl : Int) 13 = (ppl : Int) by omega]
              refine g_istore (ls' := [some _, some _, some _, some _, some _, _, _]) dX6_place_90 (by decide) rfl ?_
              refine g_iconst dX6_place_92 ?_
              refine g_istore (ls' := [some _, some _, some _, some _, some _, some _, _]) dX6_place_93 (by decide) rfl ?_
              exact loop (ppl + 1) 0 (by omega) M R _ Fr.rf (OldE.eq (fun _ _ _ => rfl)) hS (placeP_o hcp).symm
            · exfalso; omega
          · exfalso; omega
        · exfalso; omega
    · obtain ⟨cp1, cp2, cp3, cp4⟩ := hO.2.2 o ho hcp
      have hcp14 := hlt14 _ cp2
      obtain ⟨s1, s2, s3, s4, s5, s6, s7, s8⟩ := id hS
      have hO1 : M.1 24 9 = ord.length := s3.1
      have hO3 : M.1 25 a.length = (o : Nat) := by rw [← hget]; exact s3.2 a.length hal
      have hcm : M.1 10 o = ((D.1 10 o).toNat : Int) := by rw [(s1 10 (by decide) (by decide)).1]; omega
      have hsa : ((D.1 10 o).toNat) ∈ a.map (fun x => x.1) := by
        have h1 := cp2
        rw [← a1] at h1
        rcases List.mem_append.mp h1 with h | h
        · exact h
        · exfalso
          have h2 := hO.2.1
          rw [← a1, List.pairwise_append] at h2
          rcases List.mem_cons.mp h with h | h
          · omega
          · have := (List.pairwise_cons.mp h2.2.1).1 _ h
            omega
      obtain ⟨xs, hxs, hxs1⟩ := List.mem_map.mp hsa
      have hps : per a (D.1 10 o).toNat = xs.2 := per_in (by rw [← hxs1]; exact hxs) hnd
      obtain ⟨m1, m2, m3, m4⟩ := hS.try (by decide)
      obtain ⟨y1, y2, y3, y4, y5, -⟩ := id s8
      have hs01 : M.1 24 13 = 0 ∨ M.1 24 13 = 1 := by rw [show M.1 24 13 = _ from y3]; split <;> simp
      have ht0 : 0 ≤ M.1 24 11 := by rw [show M.1 24 11 = _ from y1]; omega
      have ht1 : M.1 24 11 ≤ 300000 := by rw [show M.1 24 11 = _ from y1]; omega
      refine wp_of (by decide +kernel) (Nat.le_of_ble_eq_true rfl) ?_
      refine g_iload_n dX6_place_0 rfl rfl ?_
      refine g_aload_n dX6_place_1 rfl rfl ?_
      refine g_get dX6_place_2 fX6_24 rfl rfl ?_
      refine g_icmp_ge (tgt := 14) dX6_place_5 rfl (fun h5 => ?_) (fun h5 => ?_)
      · exfalso; omega
      · refine g_iload_n dX6_place_8 rfl rfl ?_
        refine g_bipush dX6_place_9 rfl ?_
        refine g_icmp_lt (tgt := 19) dX6_place_11 rfl (fun h11 => ?_) (fun h11 => ?_)
        · refine g_aload_n dX6_place_19 rfl rfl ?_
          refine g_getr dX6_place_20 fX6_9 rfl rfl ?_
          refine g_iload_n dX6_place_23 rfl rfl ?_
          refine g_iald dX6_place_24 rfl (by decide) ?_
          try simp only [Int.toNat_natCast]
          rw [hO3]
          refine g_istore_n (ls' := [some _, some _, some _, _, _, _, _]) dX6_place_25 rfl (by decide) rfl ?_
          refine g_iload_n dX6_place_26 rfl rfl ?_
          refine g_callSr dX6_place_27 lX6_97 (w_X9_isPlace (by omega) (by omega)) rfl rfl (Nat.le_of_ble_eq_true rfl) ?_
          refine g_if_neB (tgt := 34) dX6_place_30 rfl (fun h30 => ?_) (fun h30 => ?_)
          · refine g_aload_n dX6_place_34 rfl rfl ?_
            refine g_getr dX6_place_35 fX6_50 rfl rfl ?_
            refine g_getr dX6_place_38 fX6_101 rfl rfl ?_
            refine g_iload_n dX6_place_41 rfl rfl ?_
            refine g_iald dX6_place_42 rfl (by decide) ?_
            try simp only [Int.toNat_natCast]
            rw [hcm]
            refine g_istore_n (ls' := [some _, some _, some _, some _, _, _, _]) dX6_place_43 rfl (by decide) rfl ?_
            refine g_iload_n dX6_place_44 rfl rfl ?_
            refine g_callSr dX6_place_45 lX6_97 (w_X9_isPlace (by omega) (by omega)) rfl rfl (Nat.le_of_ble_eq_true rfl) ?_
            refine g_if_eqB (tgt := 78) dX6_place_48 rfl (fun h48 => ?_) (fun h48 => ?_)
            · exfalso; omega
            · refine g_aload_n dX6_place_51 rfl rfl ?_
              refine g_callVr dX6_place_52 lX6_104 (w_X6_mayTry_W (M := M) hs01 ht0 ht1) rfl rfl rfl rfl (Nat.le_of_ble_eq_true rfl) ?_
              generalize tryM 24 M = M2 at *
              show G _ _ _ _ _ _ [_] M2
              obtain ⟨t1, t2, t3, t4, t5, t6, t7, t8⟩ := id m1
              refine g_if_eqB (tgt := 77) dX6_place_55 rfl (fun h55 => ?_) (fun h55 => ?_)
              · have hf : (mayT R).1 = false := by
                  cases hz : (mayT R).1 with
                  | false => rfl
                  | true => exact absurd (m4.mpr hz) h55
                have e1 : placeP D (o :: rem) a ppl c R = (mayT R).2 := by rw [placeP_c hcp, if_neg (by rw [hf]; decide)]
                refine g_vret dX6_place_77 rfl ?_
                first
                  | exact ⟨rfl, m2, m3, e1 ▸ m1⟩
                  | (obtain ⟨z1, z2, z3, z4, z5, z6, z7, z8⟩ := id f3
                     refine ⟨rfl, m2.tr ((Fr.si Fr.rf _ _ _).tr f1), m3.tr (fun x hx p h1 h2 => ?_), ?_⟩
                     · rw [f2 x (List.mem_append_left _ hx) p h1 h2, si_1 _ _ _ _ _ (by omega)]
                     · rw [e1]
                       exact ⟨z1, z2, z3, z4, z5, fun q' hq' => by have := z6 q' hq'; rwa [mems_copy hcp] at this, fun x hx => z7 x (List.mem_append_left _ hx), z8⟩)
              · have ht : (mayT R).1 = true := m4.mp h55
                have e1 : placeP D (o :: rem) a ppl c R = placeP D rem (a ++ [(o, per a (D.1 10 o).toNat)]) ppl c (mayT R).2 := by rw [placeP_c hcp, if_pos ht]
                refine g_aload_n dX6_place_58 rfl rfl ?_
                refine g_getr dX6_place_59 fX6_15 rfl rfl ?_
                refine g_iload_n dX6_place_62 rfl rfl ?_
                refine g_aload_n dX6_place_63 rfl rfl ?_
                refine g_getr dX6_place_64 fX6_15 rfl rfl ?_
                refine g_iload_n dX6_place_67 rfl rfl ?_
                refine g_iald dX6_place_68 rfl (by decide) ?_
                try simp only [sil, sjl, Nat.reduceAdd, Nat.reduceEqDiff, eq_self, false_and, and_false, true_and, and_true, if_false, if_true, reduceIte]
                try simp only [Int.toNat_natCast]
                rw [show M2.1 26 (D.1 10 o).toNat = (per a (D.1 10 o).toNat : Nat) by rw [hps, ← hxs1]; exact t7 xs hxs]
                refine g_iast dX6_place_69 rfl (by decide) ?_
                try simp only [Int.toNat_natCast]
                have hA3 := hA2 (per a (D.1 10 o).toNat) ppl c (by rw [hps]; exact a2 xs hxs) (Nat.le_refl _) (by omega) a4 a5
                have hS3 : SInv 24 3000 D ord (a ++ [(o, per a (D.1 10 o).toNat)]) ppl c (si M2 26 o (per a (D.1 10 o).toNat)) (mayT R).2 := by
                  have hFj : Fr 24 (24 + 20) M2 (si M2 26 o (per a (D.1 10 o).toNat)) := Fr.si Fr.rf _ _ _
                  refine ⟨t1.tr (hFj.dat (by decide)), t2.fr hFj (by decide), t3, t4, t5, fun q' hq' => ?_, fun x hx => ?_, t8⟩
                  · rw [mems_copy hcp]
                    exact Per_eq (fun p h1 h2 => si_1 _ _ _ _ _ (by omega)) (t6 q' hq')
                  · rcases List.mem_append.mp hx with h | h
                    · rw [si_ne _ _ _ _ _ _ (fun z => by have := hao x h; omega)]
                      exact t7 x h
                    · rw [List.mem_singleton] at h; subst h
                      exact si_eq _ _ _ _
                refine g_aload_n dX6_place_70 rfl rfl ?_
                refine g_iload_n dX6_place_71 rfl rfl ?_
                refine g_iconst dX6_place_72 ?_
                refine g_iadd dX6_place_73 ?_
                rw [← hlen2 (per a (D.1 10 o).toNat)]
                refine g_callS dX6_place_74 lX6_90 (ih (a ++ [(o, per a (D.1 10 o).toNat)]) ppl c _ (mayT R).2 hA3 hS3) rfl rfl (Nat.le_of_ble_eq_true rfl) ?_
                rintro v M5 ⟨rfl, f1, f2, f3⟩
                show G _ _ _ _ _ _ [] M5
                refine g_vret dX6_place_77 rfl ?_
                first
                  | exact ⟨rfl, m2, m3, e1 ▸ m1⟩
                  | (obtain ⟨z1, z2, z3, z4, z5, z6, z7, z8⟩ := id f3
                     refine ⟨rfl, m2.tr ((Fr.si Fr.rf _ _ _).tr f1), m3.tr (fun x hx p h1 h2 => ?_), ?_⟩
                     · rw [f2 x (List.mem_append_left _ hx) p h1 h2, si_1 _ _ _ _ _ (by omega)]
                     · rw [e1]
                       exact ⟨z1, z2, z3, z4, z5, fun q' hq' => by have := z6 q' hq'; rwa [mems_copy hcp] at this, fun x hx => z7 x (List.mem_append_left _ hx), z8⟩)
          · exfalso; omega
        · exfalso; omega

theorem w_joinC_V {d : Nat} {D M : Mem} {a : Asg} {ppl q o : Nat} (hw : Wf D) (hT : TabD D M) (hn : D.1 10 o = -1) (ho : (o : Int) < D.1 1 11) (hq : q ≤ ppl) (hp : ppl ≤ 13) (hc : M.1 50 13 = ppl) (hP : ∀ q', q' < ppl → Per 45 D M q' (mems D a q')) (hl : a.length ≤ 13) (ha : ∀ x ∈ a, x.2 < ppl) (hm : ∀ x ∈ a, (x.1 : Int) < D.1 1 11) : WP wdC (d + 1) mX4_join [vr 50, vi q, vi o] M (fun v M' => v = none ∧ JoinP 45 D M M' a ppl q o) := by
  have hB := hw.1
  unfold WfB at hB
  by_cases hlt : q < ppl
  · obtain ⟨hne, p1, p2, p3, p4, p5, p6, p7⟩ := hP q hlt
    obtain ⟨t1, t2, t3, t4, t5, t6, -⟩ := hT.1 o ho
    have hms : ∀ p ∈ mems D a q, (p : Int) < D.1 1 11 := fun p hp1 => by
      obtain ⟨x, h1, h2, -, -⟩ := mems_in D q a p hp1
      rw [← h2]; exact hm x h1
    have hml := mems_len D q a
    obtain ⟨g1, g2, g3, g4⟩ := F_rg hw ho
    refine wp_mono (fun v M' h => ?_) (w_X4_join_old_V (M := M) (q := q) (o := o) (n := (mems D a q).length) (c := ppl) (by omega) (by omega) hc (by omega) hlt (by omega) p6 ?_ ?_ ?_ ?_ ?_ ?_ ?_ ?_)
    · obtain ⟨hv, hM⟩ := h
      rw [hM]
      exact ⟨hv, JoinP_old hn (hT.1 o ho) hlt hc hP hl⟩
    · rw [show M.1 51 q = _ from p1]; exact fold1_rg max_rg (map_rg eF (fun p hp => (F_rg hw (hms p hp)).1))
    · rw [show M.1 52 q = _ from p2]; exact fold1_rg min_rg (map_rg lF (fun p hp => (F_rg hw (hms p hp)).2.1))
    · rw [show M.1 54 q = _ from p4]; exact fold1_rg max_rg (map_rg alF (fun p hp => (F_rg hw (hms p hp)).2.2.1))
    · rw [show M.1 55 q = _ from p5]; exact fold1_rg min_rg (map_rg deF (fun p hp => (F_rg hw (hms p hp)).2.2.2))
    · rw [t1]; exact g1
    · rw [t2]; exact g2
    · rw [t5]; exact g3
    · rw [t6]; exact g4
  · have : q = ppl := by omega
    subst this
    refine wp_mono (fun v M' h => ?_) (w_X4_join_new_V (M := M) (q := q) (o := o) (by omega) (by omega) hc)
    obtain ⟨hv, hM⟩ := h
    rw [hM]
    exact ⟨hv, JoinP_new hn (hT.1 o ho) hP hl ha⟩
theorem w_leaveC_V {d : Nat} {D M : Mem} {a : Asg} {ppl q o : Nat} (hw : Wf D) (hn : D.1 10 o = -1) (ho : (o : Int) < D.1 1 11) (hq : q ≤ ppl) (hp : ppl ≤ 13) (hc : M.1 50 13 = ((if q < ppl then ppl else ppl + 1 : Nat) : Int)) (hP : ∀ q', q' < (if q < ppl then ppl else ppl + 1) → Per 45 D M q' (mems D (a ++ [(o, q)]) q')) (hl : a.length ≤ 13) (ha : ∀ x ∈ a, x.2 < ppl) (hne : q < ppl → mems D a q ≠ [])
  (o1 : q < ppl → M.1 (45 + 13) o = fold1 max ((mems D a q).map (eF D)) ∧ M.1 (45 + 14) o = fold1 min ((mems D a q).map (lF D)) ∧ M.1 (45 + 15) o = fold1 bor ((mems D a q).map (mF D)) ∧ M.1 (45 + 16) o = fold1 max ((mems D a q).map (alF D)) ∧ M.1 (45 + 17) o = fold1 min ((mems D a q).map (deF D))) : WP wdC (d + 1) mX4_leave [vr 50, vi q, vi o] M (fun v M' => v = none ∧ LeaveP 45 D M M' a ppl) := by
  have hB := hw.1
  unfold WfB at hB
  have hml := mems_len D q a
  by_cases hlt : q < ppl
  · rw [if_pos hlt] at hc hP
    obtain ⟨-, -, -, -, -, -, p6, -⟩ := hP q hlt
    rw [mems_snoc hn, if_pos rfl, List.length_append, List.length_singleton] at p6
    have hne := hne hlt
    have h1 : 1 ≤ (mems D a q).length := by
      cases hm : mems D a q with
      | nil => exact absurd hm hne
      | cons x r => simp
    obtain ⟨e1, e2, e3, e4, e5⟩ := o1 hlt
    refine wp_mono (fun v M' h => ?_) (w_X4_leave_old_V (M := M) (q := q) (o := o) (c := ppl) (n := (((mems D a q).length + 1 : Nat) : Int)) (by omega) (by omega) hc (by omega) hlt p6 (by omega) (by omega))
    obtain ⟨hv, hM⟩ := h
    rw [hM]
    exact ⟨hv, LeaveP_old hn hlt hc hne hP e1 e2 e3 e4 e5⟩
  · have : q = ppl := by omega
    subst this
    rw [if_neg hlt] at hc hP
    obtain ⟨-, -, -, -, -, -, p6, -⟩ := hP q (by omega)
    rw [mems_snoc hn, if_pos rfl, mems_none ha] at p6
    refine wp_mono (fun v M' h => ?_) (w_X4_leave_new_V (M := M) (q := q) (o := o) (c := q + 1) (by omega) (by omega) (by rw [hc]) (by omega) (by omega) p6)
    obtain ⟨hv, hM⟩ := h
    rw [hM]
    exact ⟨hv, LeaveP_new hn hP⟩

theorem w_place_V {D : Mem} {ord : List Nat} (hw : Wf D) (hO : OrdOK D ord) : ∀ (e : Nat) (rem : List Nat) (a : Asg) (ppl : Nat) (c : Int) (M : Mem) (R : Res), AInv D ord rem a ppl c → SInv 45 0 D ord a ppl c M R → WP wdC (e + rem.length + 3) mX6_place [vr 45, vi a.length] M (fun v M' => v = none ∧ Fr 45 (45 + 20) M M' ∧ OldE 45 a M M' ∧ SInv 45 0 D ord a ppl c M' (placeP D rem a ppl c R)) := by
  have hl14 := ord_len hw hO
  have hB := hw.1
  unfold WfB at hB
  have hbud := hw.2.2.2.2.2.2.2.1
  unfold budgetOK at hbud
  have hlt14 : ∀ o ∈ ord, o < 14 := fun o ho => by have := hO.1 o ho; omega
  intro e rem
  induction rem with
  | nil =>
    intro a ppl c M R hA hS
    obtain ⟨a1, a2, a3, a4, a5⟩ := hA
    rw [List.append_nil] at a1
    have hal : a.length = ord.length := by rw [← a1, List.length_map]
    obtain ⟨s1, s2, s3, s4, s5, s6, s7, s8⟩ := id hS
    have hO1 : M.1 45 9 = ord.length := s3.1
    have hnd : (a.map (fun x => x.1)).Nodup := by rw [a1]; exact hO.nd
    have hper : ∀ o ∈ ord, M.1 47 o = per a o ∧ per a o < 14 := fun o ho => by
      rw [← a1] at ho
      obtain ⟨x, hx, hxo⟩ := List.mem_map.mp ho
      have h1 : per a o = x.2 := per_in (by rw [← hxo]; exact hx) hnd
      have h2 := a2 x hx
      refine ⟨?_, by omega⟩
      rw [h1, ← hxo]; exact s7 x hx
    have hz : ∀ o, o ∉ ord → per a o = 0 := fun o ho => by
      have := per_app o a []
      rw [List.append_nil, a1, if_neg ho] at this
      exact this
    refine wp_of (by decide +kernel) (Nat.le_of_ble_eq_true rfl) ?_
    refine g_iload_n dX6_place_0 rfl rfl ?_
    refine g_aload_n dX6_place_1 rfl rfl ?_
    refine g_get dX6_place_2 fX6_24 rfl rfl ?_
    refine g_icmp_ge (tgt := 14) dX6_place_5 rfl (fun h5 => ?_) (fun h5 => ?_)
    · refine g_aload_n dX6_place_14 rfl rfl ?_
      refine g_callV dX6_place_15 lX6_94 (w_X6_keep_V s3 hlt14 hl14 hO.nd hper hz s8 s4) rfl rfl rfl rfl (Nat.le_of_ble_eq_true rfl) ?_
      rintro v M2 ⟨rfl, hK, hR2⟩
      show G _ _ _ _ _ _ [] M2
      refine g_vret dX6_place_18 rfl ?_
      obtain ⟨k1, k2, k3⟩ := hS.keep (by decide) hK hR2
      exact ⟨rfl, k2, k3, k1⟩
    · exfalso; omega
  | cons o rem ih =>
    intro a ppl c M R hA hS
    obtain ⟨a1, a2, a3, a4, a5⟩ := id hA
    have hal : a.length < ord.length := by rw [← a1, List.length_append, List.length_map]; simp
    have ho : o ∈ ord := by rw [← a1]; exact List.mem_append_right _ List.mem_cons_self
    have hoN := hO.1 o ho
    have ho14 := hlt14 o ho
    have hnd : (a.map (fun x => x.1)).Nodup := (List.nodup_append.mp (a1 ▸ hO.nd : (a.map (fun x => x.1) ++ o :: rem).Nodup)).1
    have hoa : o ∉ a.map (fun x => x.1) := fun h => (List.nodup_append.mp (a1 ▸ hO.nd : (a.map (fun x => x.1) ++ o :: rem).Nodup)).2.2 o h o List.mem_cons_self rfl
    have hain : ∀ x ∈ a, x.1 ∈ ord := fun x hx => by rw [← a1]; exact List.mem_append_left _ (List.mem_map.mpr ⟨x, hx, rfl⟩)
    have hao : ∀ x ∈ a, x.1 < o := fun x hx => by
      have h1 := hO.2.1
      rw [← a1, List.pairwise_append] at h1
      exact h1.2.2 x.1 (List.mem_map.mpr ⟨x, hx, rfl⟩) o List.mem_cons_self
    have hget : ord.getD a.length 0 = o := by
      rw [← a1, List.getD_eq_getElem?_getD, List.getElem?_append_right (by rw [List.length_map]; exact Nat.le_refl _), List.length_map, Nat.sub_self]; rfl
    have hA2 : ∀ (q ppl' : Nat) (c' : Int), q < ppl' → ppl ≤ ppl' → ppl' ≤ ppl + 1 → 0 ≤ c' → c' ≤ D.1 12 5 → AInv D ord rem (a ++ [(o, q)]) ppl' c' := fun q ppl' c' h1 h2 h2' h3 h4 => by
      refine ⟨by rw [List.map_append, List.append_assoc]; exact a1, fun x hx => ?_, by rw [List.length_append, List.length_singleton]; omega, h3, h4⟩
      rcases List.mem_append.mp hx with h | h
      · have := a2 x h; omega
      · rw [List.mem_singleton] at h; subst h; exact h1
    have hlen2 : ∀ q, ((a ++ [(o, q)] : Asg).length : Int) = (a.length : Int) + 1 := fun q => by rw [List.length_append, List.length_singleton]; omega
    by_cases hcp : D.1 10 o = -1
    · have loop : ∀ n k : Nat, k + n = ppl + 1 → ∀ (M1 : Mem) (R1 : Res) (x6 : Option AV), Fr 45 (45 + 20) M M1 → OldE 45 a M M1 → SInv 45 0 D ord a ppl c M1 R1 → loopP (stepP D rem o a ppl c) n k R1 = placeP D (o :: rem) a ppl c R → G wdC mX6_place (e + rem.length + 4) (fun v M' => v = none ∧ Fr 45 (45 + 20) M M' ∧ OldE 45 a M M' ∧ SInv 45 0 D ord a ppl c M' (placeP D (o :: rem) a ppl c R)) 95 [some (vr 45), some (vi a.length), some (vi o), some (vi (-1)), some (vi ppl), some (vi k), x6] [] M1 := by
        intro n
        induction n with
        | zero =>
          intro k hk M1 R1 x6 hF hOl hS1 hfin
          refine g_iload dX6_place_95 rfl ?_
          refine g_iload dX6_place_97 rfl ?_
          refine g_icmp_gt (tgt := 224) dX6_place_99 rfl (fun h99 => ?_) (fun h99 => ?_)
          · refine g_vret dX6_place_224 rfl ?_
            exact ⟨rfl, hF, hOl, hfin ▸ hS1⟩
          · exfalso; omega
        | succ n ihn =>
          intro k hk M1 R1 x6 hF hOl hS1 hfin
          obtain ⟨m1, m2, m3, m4⟩ := hS1.try (by decide)
          obtain ⟨-, -, -, -, -, -, -, ⟨y1, y2, y3, y4, y5, -⟩⟩ := id hS1
          have hs01 : M1.1 45 13 = 0 ∨ M1.1 45 13 = 1 := by rw [show M1.1 45 13 = _ from y3]; split <;> simp
          have ht0 : 0 ≤ M1.1 45 11 := by rw [show M1.1 45 11 = _ from y1]; omega
          have ht1 : M1.1 45 11 ≤ 300000 := by rw [show M1.1 45 11 = _ from y1]; omega
          rw [loopP_s] at hfin
          have hF2 := hF.tr m2
          have hOl2 := hOl.tr m3
          have hml := mems_len D k a
          have hadd := addC_rg hw (o := o) (ms := mems D a k) (by omega)
          have hms1 : ∀ p ∈ mems D a k, p < o := fun p hp1 => by
            obtain ⟨x, h1, h2, -, -⟩ := mems_in D k a p hp1
            rw [← h2]; exact hao x h1
          have hms2 : ∀ p ∈ mems D a k, (p : Int) < D.1 1 11 := fun p hp1 => by have := hms1 p hp1; omega
          refine g_iload dX6_place_95 rfl ?_
          refine g_iload dX6_place_97 rfl ?_
          refine g_icmp_gt (tgt := 224) dX6_place_99 rfl (fun h99 => ?_) (fun h99 => ?_)
          · exfalso; omega
          · refine g_aload_n dX6_place_102 rfl rfl ?_
            refine g_callVr dX6_place_103 lX6_104 (w_X6_mayTry_V (M := M1) hs01 ht0 ht1) rfl rfl rfl rfl (Nat.le_of_ble_eq_true rfl) ?_
            generalize tryM 45 M1 = M2 at *
            show G _ _ _ _ _ _ [_] M2
            obtain ⟨s1, s2, s3, s4, s5, s6, s7, s8⟩ := id m1
            refine g_if_eqB (tgt := 224) dX6_place_106 rfl (fun h106 => ?_) (fun h106 => ?_)
            · have hf : (mayT R1).1 = false := by
                cases hz : (mayT R1).1 with
                | false => rfl
                | true => exact absurd (m4.mpr hz) h106
              have hsp := mayT_false hf
              have e1 : stepP D rem o a ppl c k R1 = (mayT R1).2 := by unfold stepP; rw [if_neg (by rw [hf]; decide)]
              rw [e1, loopP_id (fun k R h => stepP_spent h) _ _ _ hsp] at hfin
              refine g_vret dX6_place_224 rfl ?_
              exact ⟨rfl, hF2, hOl2, hfin ▸ m1⟩
            · have ht : (mayT R1).1 = true := m4.mp h106
              refine g_aload_n dX6_place_109 rfl rfl ?_
              refine g_getr dX6_place_110 fX6_63 rfl rfl ?_
              refine g_iload dX6_place_113 rfl ?_
              refine g_iload_n dX6_place_115 rfl rfl ?_
              refine g_callVr dX6_place_116 lX6_108 (w_X4_admits_V (M := M2) (D := D) (ppl := ppl) (ms := mems D a k) hw s2 hoN s5 (by omega) (by rcases Nat.lt_or_ge k ppl with h | h; exact Or.inr ⟨h, s6 k h⟩; exact Or.inl ⟨by omega, by have : k = ppl := (by omega); rw [this]; exact mems_none a2⟩) hms2) rfl rfl rfl rfl (Nat.le_of_ble_eq_true rfl) ?_
              refine g_if_eqB (tgt := 135) dX6_place_119 rfl (fun h119 => ?_) (fun h119 => ?_)
              · have e1 : stepP D rem o a ppl c k R1 = (mayT R1).2 := by unfold stepP; rw [if_pos ht, if_neg (fun z => h119 z.1)]
                refine g_iconst dX6_place_135 ?_
                refine g_istore (ls' := [some _, some _, some _, some _, some _, some _, some _]) dX6_place_136 (by decide) rfl ?_
                refine g_iload dX6_place_138 rfl ?_
                refine g_iconst dX6_place_140 ?_
                refine g_icmp_eq (tgt := 218) dX6_place_141 rfl (fun _ => ?_) (fun h141 => absurd (by decide) h141)
                refine g_iinc (ls' := [some _, some _, some _, some _, some _, some _, some _]) dX6_place_218 rfl rfl ?_
                refine g_goto (tgt := 95) dX6_place_221 rfl ?_
                first
                  | exact ihn (k + 1) (by omega) M2 (mayT R1).2 _ hF2 hOl2 m1 (by rw [← hfin, e1])
                  | (refine ihn (k + 1) (by omega) M6 _ _ ?_ ?_ ?_ (by rw [← hfin, e1])
                     · refine hF2.tr (Fr.tr (Fr.si (Fr.si (fun p hp => j1 p (by omega)) _ _ _) _ _ _) (f1.tr ((Fr.si Fr.rf _ _ _).tr (fun p hp => l1 p (by omega)))))
                     · refine hOl2.tr (fun x hx p h1 h2 => ?_)
                       rw [(l1 p (by omega)).1, si_1 _ _ _ _ _ (by omega), f2 x (List.mem_append_left _ hx) p h1 h2, si_1 _ _ _ _ _ (by omega), si_1 _ _ _ _ _ (by omega)]
                       exact j5 x.1 p (by have := hao x hx; omega) h1 h2
                     · have hF6 : Fr 45 (45 + 20) M5 M6 := (Fr.si Fr.rf _ _ _).tr (fun p hp => l1 p (by omega))
                       refine ⟨z1.tr (hF6.dat (by decide)), z2.fr hF6 (by decide), ⟨?_, fun i hi => ?_⟩, ?_, l2, l3, fun x hx => ?_, ?_⟩
                       · rw [(l1 45 (by omega)).1]; exact z3.1
                       · rw [(l1 (45 + 1) (by omega)).1]; exact z3.2 i hi
                       · rw [(l1 45 (by omega)).1]; rfl
                       · rw [(l1 (45 + 2) (by omega)).1]; exact z7 x (List.mem_append_left _ hx)
                       · refine z8.eq ?_ ?_ ?_ ?_ ?_ ?_
                         · rw [(l1 45 (by omega)).1]; rfl
                         · rw [(l1 45 (by omega)).1]; rfl
                         · rw [(l1 45 (by omega)).1]; rfl
                         · rw [(l1 (45 + 3) (by omega)).1]; rfl
                         · rw [(l1 (45 + 18) (by omega)).2]; rfl
                         · rw [(l1 (45 + 19) (by omega)).1]; rfl)
              · refine g_aload_n dX6_place_122 rfl rfl ?_
                refine g_getr dX6_place_123 fX6_63 rfl rfl ?_
                refine g_iload dX6_place_126 rfl ?_
                refine g_iload_n dX6_place_128 rfl rfl ?_
                refine g_callVr dX6_place_129 lX6_112 (w_X4_added_V (M := M2) (D := D) (ppl := ppl) (ms := mems D a k) hw s2 hoN s5 (by omega) (by rcases Nat.lt_or_ge k ppl with h | h; exact Or.inr ⟨h, s6 k h⟩; exact Or.inl ⟨by omega, by have : k = ppl := (by omega); rw [this]; exact mems_none a2⟩) hms1 (by omega)) rfl rfl rfl rfl (Nat.le_of_ble_eq_true rfl) ?_
                refine g_goto (tgt := 136) dX6_place_132 rfl ?_
                refine g_istore (ls' := [some _, some _, some _, some _, some _, some _, some _]) dX6_place_136 (by decide) rfl ?_
                refine g_iload dX6_place_138 rfl ?_
                refine g_iconst dX6_place_140 ?_
                refine g_icmp_eq (tgt := 218) dX6_place_141 rfl (fun h141 => ?_) (fun h141 => ?_)
                · exfalso; omega
                · refine g_aload_n dX6_place_144 rfl rfl ?_
                  refine g_get dX6_place_145 fX6_28 rfl rfl ?_
                  try simp only [sil, sjl, Nat.reduceAdd, Nat.reduceEqDiff, eq_self, false_and, and_false, true_and, and_true, if_false, if_true, reduceIte]
                  rw [show M2.1 45 10 = c from s4]
                  refine g_iload dX6_place_148 rfl ?_
                  refine g_iadd dX6_place_150 ?_
                  refine g_aload_n dX6_place_151 rfl rfl ?_
                  refine g_getr dX6_place_152 fX6_54 rfl rfl ?_
                  refine g_get dX6_place_155 fX6_115 rfl rfl ?_
                  try simp only [sil, sjl, Nat.reduceAdd, Nat.reduceEqDiff, eq_self, false_and, and_false, true_and, and_true, if_false, if_true, reduceIte]
                  rw [show M2.1 16 10 = D.1 12 5 from s2.2.1]
                  refine g_icmp_gt (tgt := 218) dX6_place_158 rfl (fun h158 => ?_) (fun h158 => ?_)
                  · have e1 : stepP D rem o a ppl c k R1 = (mayT R1).2 := by
                      unfold stepP
                      rw [if_pos ht, if_neg (fun z => by omega)]
                    refine g_iinc (ls' := [some _, some _, some _, some _, some _, some _, some _]) dX6_place_218 rfl rfl ?_
                    refine g_goto (tgt := 95) dX6_place_221 rfl ?_
                    first
                      | exact ihn (k + 1) (by omega) M2 (mayT R1).2 _ hF2 hOl2 m1 (by rw [← hfin, e1])
                      | (refine ihn (k + 1) (by omega) M6 _ _ ?_ ?_ ?_ (by rw [← hfin, e1])
                         · refine hF2.tr (Fr.tr (Fr.si (Fr.si (fun p hp => j1 p (by omega)) _ _ _) _ _ _) (f1.tr ((Fr.si Fr.rf _ _ _).tr (fun p hp => l1 p (by omega)))))
                         · refine hOl2.tr (fun x hx p h1 h2 => ?_)
                           rw [(l1 p (by omega)).1, si_1 _ _ _ _ _ (by omega), f2 x (List.mem_append_left _ hx) p h1 h2, si_1 _ _ _ _ _ (by omega), si_1 _ _ _ _ _ (by omega)]
                           exact j5 x.1 p (by have := hao x hx; omega) h1 h2
                         · have hF6 : Fr 45 (45 + 20) M5 M6 := (Fr.si Fr.rf _ _ _).tr (fun p hp => l1 p (by omega))
                           refine ⟨z1.tr (hF6.dat (by decide)), z2.fr hF6 (by decide), ⟨?_, fun i hi => ?_⟩, ?_, l2, l3, fun x hx => ?_, ?_⟩
                           · rw [(l1 45 (by omega)).1]; exact z3.1
                           · rw [(l1 (45 + 1) (by omega)).1]; exact z3.2 i hi
                           · rw [(l1 45 (by omega)).1]; rfl
                           · rw [(l1 (45 + 2) (by omega)).1]; exact z7 x (List.mem_append_left _ hx)
                           · refine z8.eq ?_ ?_ ?_ ?_ ?_ ?_
                             · rw [(l1 45 (by omega)).1]; rfl
                             · rw [(l1 45 (by omega)).1]; rfl
                             · rw [(l1 45 (by omega)).1]; rfl
                             · rw [(l1 (45 + 3) (by omega)).1]; rfl
                             · rw [(l1 (45 + 18) (by omega)).2]; rfl
                             · rw [(l1 (45 + 19) (by omega)).1]; rfl)
                  · have e1 : stepP D rem o a ppl c k R1 = placeP D rem (a ++ [(o, k)]) (if k < ppl then ppl else ppl + 1) (c + addC D o (mems D a k)) (mayT R1).2 := by
                      unfold stepP
                      rw [if_pos ht, if_pos ⟨h119, by omega⟩]
                    refine g_aload_n dX6_place_161 rfl rfl ?_
                    refine g_getr dX6_place_162 fX6_63 rfl rfl ?_
                    refine g_iload dX6_place_165 rfl ?_
                    refine g_iload_n dX6_place_167 rfl rfl ?_
                    refine g_callV dX6_place_168 lX6_120 (w_joinC_V (M := M2) (D := D) (a := a) (ppl := ppl) hw s2 hcp hoN (by omega) (by omega) s5 s6 (by omega) a2 (fun x hx => hO.1 _ (hain x hx))) rfl rfl rfl rfl (Nat.le_of_ble_eq_true rfl) ?_
                    rintro v M3 ⟨rfl, hJ⟩
                    show G _ _ _ _ _ _ [] M3
                    obtain ⟨j1, j2, j3, j4, j5⟩ := id hJ
                    have c3 : M3.1 45 10 = c := by rw [(j1 45 (by omega)).1]; exact s4
                    refine g_aload_n dX6_place_171 rfl rfl ?_
                    refine g_getr dX6_place_172 fX6_15 rfl rfl ?_
                    refine g_iload_n dX6_place_175 rfl rfl ?_
                    refine g_iload dX6_place_176 rfl ?_
                    refine g_iast dX6_place_178 rfl (by decide) ?_
                    try simp only [Int.toNat_natCast]
                    refine g_aload_n dX6_place_179 rfl rfl ?_
                    refine g_dup dX6_place_180 rfl ?_
                    refine g_get dX6_place_181 fX6_28 rfl rfl ?_
                    try simp only [sil, sjl, Nat.reduceAdd, Nat.reduceEqDiff, eq_self, false_and, and_false, true_and, and_true, if_false, if_true, reduceIte]
                    rw [c3]
                    refine g_iload dX6_place_184 rfl ?_
                    refine g_iadd dX6_place_186 ?_
                    refine g_puti dX6_place_187 fX6_28 rfl rfl rfl (tyX6_ok 10 (by decide)) ?_
                    have hkp : k < (if k < ppl then ppl else ppl + 1) := by split <;> omega
                    have hA3 := hA2 k (if k < ppl then ppl else ppl + 1) (c + addC D o (mems D a k)) hkp (by split <;> omega) (by split <;> omega) (by omega) (by omega)
                    have hS3 : SInv 45 0 D ord (a ++ [(o, k)]) (if k < ppl then ppl else ppl + 1) (c + addC D o (mems D a k)) (si (si M3 47 o k) 45 10 (c + addC D o (mems D a k))) (mayT R1).2 := by
                      have hFj : Fr 45 (45 + 20) M2 (si (si M3 47 o k) 45 10 (c + addC D o (mems D a k))) := Fr.si (Fr.si (fun p hp => j1 p (by omega)) _ _ _) _ _ _
                      refine ⟨s1.tr (hFj.dat (by decide)), s2.fr hFj (by decide), ⟨?_, fun i hi => ?_⟩, rfl, ?_, fun q' hq' => ?_, fun x hx => ?_, ?_⟩
                      · rw [← s3.1, ← (j1 45 (by omega)).1]; rfl
                      · rw [← s3.2 i hi, ← (j1 (45 + 1) (by omega)).1]; rfl
                      · rw [← j2]; rfl
                      · exact Per_eq (fun p h1 h2 => by rw [si_1 _ _ _ _ _ (by omega), si_1 _ _ _ _ _ (by omega)]) (j3 q' hq')
                      · rw [si_1 _ _ _ _ _ (by decide)]
                        rcases List.mem_append.mp hx with h | h
                        · rw [si_ne _ _ _ _ _ _ (fun z => by have := hao x h; omega), (j1 (45 + 2) (by omega)).1]
                          exact s7 x h
                        · rw [List.mem_singleton] at h; subst h
                          exact si_eq _ _ _ _
                      · refine s8.eq ?_ ?_ ?_ ?_ ?_ ?_
                        · rw [← (j1 45 (by omega)).1]; rfl
                        · rw [← (j1 45 (by omega)).1]; rfl
                        · rw [← (j1 45 (by omega)).1]; rfl
                        · rw [← (j1 (45 + 3) (by omega)).1]; rfl
                        · rw [← (j1 (45 + 18) (by omega)).2]; rfl
                        · rw [← (j1 (45 + 19) (by omega)).1]; rfl
                    refine g_aload_n dX6_place_190 rfl rfl ?_
                    refine g_iload_n dX6_place_191 rfl rfl ?_
                    refine g_iconst dX6_place_192 ?_
                    refine g_iadd dX6_place_193 ?_
                    rw [← hlen2 k]
                    refine g_callS dX6_place_194 lX6_90 (ih (a ++ [(o, k)]) (if k < ppl then ppl else ppl + 1) (c + addC D o (mems D a k)) _ (mayT R1).2 hA3 hS3) rfl rfl (Nat.le_of_ble_eq_true rfl) ?_
                    rintro v M5 ⟨rfl, f1, f2, f3⟩
                    show G _ _ _ _ _ _ [] M5
                    obtain ⟨z1, z2, z3, z4, z5, z6, z7, z8⟩ := id f3
                    refine g_aload_n dX6_place_197 rfl rfl ?_
                    refine g_dup dX6_place_198 rfl ?_
                    refine g_get dX6_place_199 fX6_28 rfl rfl ?_
                    try simp only [sil, sjl, Nat.reduceAdd, Nat.reduceEqDiff, eq_self, false_and, and_false, true_and, and_true, if_false, if_true, reduceIte]
                    rw [show M5.1 45 10 = _ from z4]
                    refine g_iload dX6_place_202 rfl ?_
                    refine g_isub dX6_place_204 ?_
                    rw [Int.add_sub_cancel]
                    refine g_puti dX6_place_205 fX6_28 rfl rfl rfl (tyX6_ok 10 (by decide)) ?_
                    have hold : k < ppl → M5.1 (45 + 13) o = fold1 max ((mems D a k).map (eF D)) ∧ M5.1 (45 + 14) o = fold1 min ((mems D a k).map (lF D)) ∧ M5.1 (45 + 15) o = fold1 bor ((mems D a k).map (mF D)) ∧ M5.1 (45 + 16) o = fold1 max ((mems D a k).map (alF D)) ∧ M5.1 (45 + 17) o = fold1 min ((mems D a k).map (deF D)) := fun h => by
                      obtain ⟨w1, w2, w3, w4, w5⟩ := j4 h
                      obtain ⟨-, p1, p2, p3, p4, p5, -⟩ := s6 k h
                      have g := fun p h1 h2 => f2 (o, k) (List.mem_append_right _ List.mem_cons_self) p h1 h2
                      refine ⟨?_, ?_, ?_, ?_, ?_⟩
                      · rw [g _ (by omega) (by omega), ← p1, ← w1]; rfl
                      · rw [g _ (by omega) (by omega), ← p2, ← w2]; rfl
                      · rw [g _ (by omega) (by omega), ← p3, ← w3]; rfl
                      · rw [g _ (by omega) (by omega), ← p4, ← w4]; rfl
                      · rw [g _ (by omega) (by omega), ← p5, ← w5]; rfl
                    refine g_aload_n dX6_place_208 rfl rfl ?_
                    refine g_getr dX6_place_209 fX6_63 rfl rfl ?_
                    refine g_iload dX6_place_212 rfl ?_
                    refine g_iload_n dX6_place_214 rfl rfl ?_
                    refine g_callV dX6_place_215 lX6_124 (w_leaveC_V (M := si M5 45 10 c) (D := D) (a := a) (ppl := ppl) (q := k) (o := o) hw hcp hoN (by omega) (by omega) (by rw [si_1 _ _ _ _ _ (by decide)]; exact z5) (fun q' hq' => Per_eq (fun p h1 h2 => si_1 _ _ _ _ _ (by omega)) (z6 q' hq')) (by omega) a2 (fun h => (s6 k h).1) (fun h => by obtain ⟨w1, w2, w3, w4, w5⟩ := hold h; exact ⟨w1, w2, w3, w4, w5⟩)) rfl rfl rfl rfl (Nat.le_of_ble_eq_true rfl) ?_
                    rintro v M6 ⟨rfl, l1, l2, l3⟩
                    show G _ _ _ _ _ _ [] M6
                    refine g_iinc (ls' := [some _, some _, some _, some _, some _, some _, some _]) dX6_place_218 rfl rfl ?_
                    refine g_goto (tgt := 95) dX6_place_221 rfl ?_
                    first
                      | exact ihn (k + 1) (by omega) M2 (mayT R1).2 _ hF2 hOl2 m1 (by rw [← hfin, e1])
                      | (refine ihn (k + 1) (by omega) M6 _ _ ?_ ?_ ?_ (by rw [← hfin, e1])
                         · refine hF2.tr (Fr.tr (Fr.si (Fr.si (fun p hp => j1 p (by omega)) _ _ _) _ _ _) (f1.tr ((Fr.si Fr.rf _ _ _).tr (fun p hp => l1 p (by omega)))))
                         · refine hOl2.tr (fun x hx p h1 h2 => ?_)
                           rw [(l1 p (by omega)).1, si_1 _ _ _ _ _ (by omega), f2 x (List.mem_append_left _ hx) p h1 h2, si_1 _ _ _ _ _ (by omega), si_1 _ _ _ _ _ (by omega)]
                           exact j5 x.1 p (by have := hao x hx; omega) h1 h2
                         · have hF6 : Fr 45 (45 + 20) M5 M6 := (Fr.si Fr.rf _ _ _).tr (fun p hp => l1 p (by omega))
                           refine ⟨z1.tr (hF6.dat (by decide)), z2.fr hF6 (by decide), ⟨?_, fun i hi => ?_⟩, ?_, l2, l3, fun x hx => ?_, ?_⟩
                           · rw [(l1 45 (by omega)).1]; exact z3.1
                           · rw [(l1 (45 + 1) (by omega)).1]; exact z3.2 i hi
                           · rw [(l1 45 (by omega)).1]; rfl
                           · rw [(l1 (45 + 2) (by omega)).1]; exact z7 x (List.mem_append_left _ hx)
                           · refine z8.eq ?_ ?_ ?_ ?_ ?_ ?_
                             · rw [(l1 45 (by omega)).1]; rfl
                             · rw [(l1 45 (by omega)).1]; rfl
                             · rw [(l1 45 (by omega)).1]; rfl
                             · rw [(l1 (45 + 3) (by omega)).1]; rfl
                             · rw [(l1 (45 + 18) (by omega)).2]; rfl
                             · rw [(l1 (45 + 19) (by omega)).1]; rfl)
      refine wp_of (by decide +kernel) (Nat.le_of_ble_eq_true rfl) ?_
      obtain ⟨s1, s2, s3, s4, s5, s6, s7, s8⟩ := id hS
      have hO1 : M.1 45 9 = ord.length := s3.1
      have hO3 : M.1 46 a.length = (o : Nat) := by rw [← hget]; exact s3.2 a.length hal
      have hcm : M.1 10 o = -1 := by rw [(s1 10 (by decide) (by decide)).1]; exact hcp
      have s5' : M.1 50 13 = ppl := s5
      refine g_iload_n dX6_place_0 rfl rfl ?_
      refine g_aload_n dX6_place_1 rfl rfl ?_
      refine g_get dX6_place_2 fX6_24 rfl rfl ?_
      refine g_icmp_ge (tgt := 14) dX6_place_5 rfl (fun h5 => ?_) (fun h5 => ?_)
      · exfalso; omega
      · refine g_iload_n dX6_place_8 rfl rfl ?_
        refine g_bipush dX6_place_9 rfl ?_
        refine g_icmp_lt (tgt := 19) dX6_place_11 rfl (fun h11 => ?_) (fun h11 => ?_)
        · refine g_aload_n dX6_place_19 rfl rfl ?_
          refine g_getr dX6_place_20 fX6_9 rfl rfl ?_
          refine g_iload_n dX6_place_23 rfl rfl ?_
          refine g_iald dX6_place_24 rfl (by decide) ?_
          try simp only [Int.toNat_natCast]
          rw [hO3]
          refine g_istore_n (ls' := [some _, some _, some _, _, _, _, _]) dX6_place_25 rfl (by decide) rfl ?_
          refine g_iload_n dX6_place_26 rfl rfl ?_
          refine g_callSr dX6_place_27 lX6_97 (w_X9_isPlace (by omega) (by omega)) rfl rfl (Nat.le_of_ble_eq_true rfl) ?_
          refine g_if_neB (tgt := 34) dX6_place_30 rfl (fun h30 => ?_) (fun h30 => ?_)
          · refine g_aload_n dX6_place_34 rfl rfl ?_
            refine g_getr dX6_place_35 fX6_50 rfl rfl ?_
            refine g_getr dX6_place_38 fX6_101 rfl rfl ?_
            refine g_iload_n dX6_place_41 rfl rfl ?_
            refine g_iald dX6_place_42 rfl (by decide) ?_
            try simp only [Int.toNat_natCast]
            rw [hcm]
            refine g_istore_n (ls' := [some _, some _, some _, some _, _, _, _]) dX6_place_43 rfl (by decide) rfl ?_
            refine g_iload_n dX6_place_44 rfl rfl ?_
            refine g_callSr dX6_place_45 lX6_97 (w_X9_isPlace (by omega) (by omega)) rfl rfl (Nat.le_of_ble_eq_true rfl) ?_
            refine g_if_eqB (tgt := 78) dX6_place_48 rfl (fun h48 => ?_) (fun h48 => ?_)
            · refine g_aload_n dX6_place_78 rfl rfl ?_
              refine g_getr dX6_place_79 fX6_63 rfl rfl ?_
              refine g_get dX6_place_82 fX6_89 rfl rfl ?_
              rw [s5']
              refine g_bipush dX6_place_85 rfl ?_
              refine g_min dX6_place_87 lX6_41 (Nat.le_of_ble_eq_true rfl) ?_
              rw [show min (ppl : Int) 13 = (ppl : Int) by omega]
              refine g_istore (ls' := [some _, some _, some _, some _, some _, _, _]) dX6_place_90 (by decide) rfl ?_
              refine g_iconst dX6_place_92 ?_
              refine g_istore (ls' := [some _, some _, some _, some _, some _, some _, _]) dX6_place_93 (by decide) rfl ?_
              exact loop (ppl + 1) 0 (by omega) M R _ Fr.rf (OldE.eq (fun _ _ _ => rfl)) hS (placeP_o hcp).symm
            · exfalso; omega
          · exfalso; omega
        · exfalso; omega
    · obtain ⟨cp1, cp2, cp3, cp4⟩ := hO.2.2 o ho hcp
      have hcp14 := hlt14 _ cp2
      obtain ⟨s1, s2, s3, s4, s5, s6, s7, s8⟩ := id hS
      have hO1 : M.1 45 9 = ord.length := s3.1
      have hO3 : M.1 46 a.length = (o : Nat) := by rw [← hget]; exact s3.2 a.length hal
      have hcm : M.1 10 o = ((D.1 10 o).toNat : Int) := by rw [(s1 10 (by decide) (by decide)).1]; omega
      have hsa : ((D.1 10 o).toNat) ∈ a.map (fun x => x.1) := by
        have h1 := cp2
        rw [← a1] at h1
        rcases List.mem_append.mp h1 with h | h
        · exact h
        · exfalso
          have h2 := hO.2.1
          rw [← a1, List.pairwise_append] at h2
          rcases List.mem_cons.mp h with h | h
          · omega
          · have := (List.pairwise_cons.mp h2.2.1).1 _ h
            omega
      obtain ⟨xs, hxs, hxs1⟩ := List.mem_map.mp hsa
      have hps : per a (D.1 10 o).toNat = xs.2 := per_in (by rw [← hxs1]; exact hxs) hnd
      obtain ⟨m1, m2, m3, m4⟩ := hS.try (by decide)
      obtain ⟨y1, y2, y3, y4, y5, -⟩ := id s8
      have hs01 : M.1 45 13 = 0 ∨ M.1 45 13 = 1 := by rw [show M.1 45 13 = _ from y3]; split <;> simp
      have ht0 : 0 ≤ M.1 45 11 := by rw [show M.1 45 11 = _ from y1]; omega
      have ht1 : M.1 45 11 ≤ 300000 := by rw [show M.1 45 11 = _ from y1]; omega
      refine wp_of (by decide +kernel) (Nat.le_of_ble_eq_true rfl) ?_
      refine g_iload_n dX6_place_0 rfl rfl ?_
      refine g_aload_n dX6_place_1 rfl rfl ?_
      refine g_get dX6_place_2 fX6_24 rfl rfl ?_
      refine g_icmp_ge (tgt := 14) dX6_place_5 rfl (fun h5 => ?_) (fun h5 => ?_)
      · exfalso; omega
      · refine g_iload_n dX6_place_8 rfl rfl ?_
        refine g_bipush dX6_place_9 rfl ?_
        refine g_icmp_lt (tgt := 19) dX6_place_11 rfl (fun h11 => ?_) (fun h11 => ?_)
        · refine g_aload_n dX6_place_19 rfl rfl ?_
          refine g_getr dX6_place_20 fX6_9 rfl rfl ?_
          refine g_iload_n dX6_place_23 rfl rfl ?_
          refine g_iald dX6_place_24 rfl (by decide) ?_
          try simp only [Int.toNat_natCast]
          rw [hO3]
          refine g_istore_n (ls' := [some _, some _, some _, _, _, _, _]) dX6_place_25 rfl (by decide) rfl ?_
          refine g_iload_n dX6_place_26 rfl rfl ?_
          refine g_callSr dX6_place_27 lX6_97 (w_X9_isPlace (by omega) (by omega)) rfl rfl (Nat.le_of_ble_eq_true rfl) ?_
          refine g_if_neB (tgt := 34) dX6_place_30 rfl (fun h30 => ?_) (fun h30 => ?_)
          · refine g_aload_n dX6_place_34 rfl rfl ?_
            refine g_getr dX6_place_35 fX6_50 rfl rfl ?_
            refine g_getr dX6_place_38 fX6_101 rfl rfl ?_
            refine g_iload_n dX6_place_41 rfl rfl ?_
            refine g_iald dX6_place_42 rfl (by decide) ?_
            try simp only [Int.toNat_natCast]
            rw [hcm]
            refine g_istore_n (ls' := [some _, some _, some _, some _, _, _, _]) dX6_place_43 rfl (by decide) rfl ?_
            refine g_iload_n dX6_place_44 rfl rfl ?_
            refine g_callSr dX6_place_45 lX6_97 (w_X9_isPlace (by omega) (by omega)) rfl rfl (Nat.le_of_ble_eq_true rfl) ?_
            refine g_if_eqB (tgt := 78) dX6_place_48 rfl (fun h48 => ?_) (fun h48 => ?_)
            · exfalso; omega
            · refine g_aload_n dX6_place_51 rfl rfl ?_
              refine g_callVr dX6_place_52 lX6_104 (w_X6_mayTry_V (M := M) hs01 ht0 ht1) rfl rfl rfl rfl (Nat.le_of_ble_eq_true rfl) ?_
              generalize tryM 45 M = M2 at *
              show G _ _ _ _ _ _ [_] M2
              obtain ⟨t1, t2, t3, t4, t5, t6, t7, t8⟩ := id m1
              refine g_if_eqB (tgt := 77) dX6_place_55 rfl (fun h55 => ?_) (fun h55 => ?_)
              · have hf : (mayT R).1 = false := by
                  cases hz : (mayT R).1 with
                  | false => rfl
                  | true => exact absurd (m4.mpr hz) h55
                have e1 : placeP D (o :: rem) a ppl c R = (mayT R).2 := by rw [placeP_c hcp, if_neg (by rw [hf]; decide)]
                refine g_vret dX6_place_77 rfl ?_
                first
                  | exact ⟨rfl, m2, m3, e1 ▸ m1⟩
                  | (obtain ⟨z1, z2, z3, z4, z5, z6, z7, z8⟩ := id f3
                     refine ⟨rfl, m2.tr ((Fr.si Fr.rf _ _ _).tr f1), m3.tr (fun x hx p h1 h2 => ?_), ?_⟩
                     · rw [f2 x (List.mem_append_left _ hx) p h1 h2, si_1 _ _ _ _ _ (by omega)]
                     · rw [e1]
                       exact ⟨z1, z2, z3, z4, z5, fun q' hq' => by have := z6 q' hq'; rwa [mems_copy hcp] at this, fun x hx => z7 x (List.mem_append_left _ hx), z8⟩)
              · have ht : (mayT R).1 = true := m4.mp h55
                have e1 : placeP D (o :: rem) a ppl c R = placeP D rem (a ++ [(o, per a (D.1 10 o).toNat)]) ppl c (mayT R).2 := by rw [placeP_c hcp, if_pos ht]
                refine g_aload_n dX6_place_58 rfl rfl ?_
                refine g_getr dX6_place_59 fX6_15 rfl rfl ?_
                refine g_iload_n dX6_place_62 rfl rfl ?_
                refine g_aload_n dX6_place_63 rfl rfl ?_
                refine g_getr dX6_place_64 fX6_15 rfl rfl ?_
                refine g_iload_n dX6_place_67 rfl rfl ?_
                refine g_iald dX6_place_68 rfl (by decide) ?_
                try simp only [sil, sjl, Nat.reduceAdd, Nat.reduceEqDiff, eq_self, false_and, and_false, true_and, and_true, if_false, if_true, reduceIte]
                try simp only [Int.toNat_natCast]
                rw [show M2.1 47 (D.1 10 o).toNat = (per a (D.1 10 o).toNat : Nat) by rw [hps, ← hxs1]; exact t7 xs hxs]
                refine g_iast dX6_place_69 rfl (by decide) ?_
                try simp only [Int.toNat_natCast]
                have hA3 := hA2 (per a (D.1 10 o).toNat) ppl c (by rw [hps]; exact a2 xs hxs) (Nat.le_refl _) (by omega) a4 a5
                have hS3 : SInv 45 0 D ord (a ++ [(o, per a (D.1 10 o).toNat)]) ppl c (si M2 47 o (per a (D.1 10 o).toNat)) (mayT R).2 := by
                  have hFj : Fr 45 (45 + 20) M2 (si M2 47 o (per a (D.1 10 o).toNat)) := Fr.si Fr.rf _ _ _
                  refine ⟨t1.tr (hFj.dat (by decide)), t2.fr hFj (by decide), t3, t4, t5, fun q' hq' => ?_, fun x hx => ?_, t8⟩
                  · rw [mems_copy hcp]
                    exact Per_eq (fun p h1 h2 => si_1 _ _ _ _ _ (by omega)) (t6 q' hq')
                  · rcases List.mem_append.mp hx with h | h
                    · rw [si_ne _ _ _ _ _ _ (fun z => by have := hao x h; omega)]
                      exact t7 x h
                    · rw [List.mem_singleton] at h; subst h
                      exact si_eq _ _ _ _
                refine g_aload_n dX6_place_70 rfl rfl ?_
                refine g_iload_n dX6_place_71 rfl rfl ?_
                refine g_iconst dX6_place_72 ?_
                refine g_iadd dX6_place_73 ?_
                rw [← hlen2 (per a (D.1 10 o).toNat)]
                refine g_callS dX6_place_74 lX6_90 (ih (a ++ [(o, per a (D.1 10 o).toNat)]) ppl c _ (mayT R).2 hA3 hS3) rfl rfl (Nat.le_of_ble_eq_true rfl) ?_
                rintro v M5 ⟨rfl, f1, f2, f3⟩
                show G _ _ _ _ _ _ [] M5
                refine g_vret dX6_place_77 rfl ?_
                first
                  | exact ⟨rfl, m2, m3, e1 ▸ m1⟩
                  | (obtain ⟨z1, z2, z3, z4, z5, z6, z7, z8⟩ := id f3
                     refine ⟨rfl, m2.tr ((Fr.si Fr.rf _ _ _).tr f1), m3.tr (fun x hx p h1 h2 => ?_), ?_⟩
                     · rw [f2 x (List.mem_append_left _ hx) p h1 h2, si_1 _ _ _ _ _ (by omega)]
                     · rw [e1]
                       exact ⟨z1, z2, z3, z4, z5, fun q' hq' => by have := z6 q' hq'; rwa [mems_copy hcp] at this, fun x hx => z7 x (List.mem_append_left _ hx), z8⟩)
          · exfalso; omega
        · exfalso; omega

