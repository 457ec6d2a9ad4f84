/-! MODULE 37: the reference's seek. -/
def SFq (M M1 : Mem) : Prop := (∀ k, k ≠ 29 → k ≠ 30 → k ≠ 31 → k ≠ 34 → M1.1 0 k = M.1 0 k) ∧ ∀ p, p ≠ 0 → p ≠ 10 → p ≠ 13 → p ≠ 14 → p ≠ 16 → p ≠ 17 → p ≠ 18 → p ≠ 19 → p ≠ 20 → M1.1 p = M.1 p ∧ M1.2 p = M.2 p
theorem SFq.mdat {M M1 : Mem} (h : SFq M M1) : MDat M M1 := ⟨fun k _ _ => h.1 k (by omega) (by omega) (by omega) (by omega), fun p _ _ _ => h.2 p (by omega) (by omega) (by omega) (by omega) (by omega) (by omega) (by omega) (by omega) (by omega)⟩
/-- but for the distances nothing has changed -/
def FFr (M M1 : Mem) : Prop := ∀ p, p ≠ 10 → p ≠ 13 → p ≠ 14 → M1.1 p = M.1 p ∧ M1.2 p = M.2 p
theorem FFr.mdat {M M1 : Mem} (h : FFr M M1) : MDat M M1 := ⟨fun k _ _ => by rw [(h 0 (by decide) (by decide) (by decide)).1], fun p _ _ h3 => h p h3 (by omega) (by omega)⟩

theorem w_X10_seek {d : Nat} {D M : Mem} {ord : List Nat} {pz : Int} {SK : Mem → Res → Prop} (hw : Wf D) (hr : DR D M) (hO : OrdOK D ord) (hSK : SinkOK pz ord SK) (hpz : 0 ≤ pz ∧ pz ≤ 1) (hmany : M.1 0 28 = ord.length) (hth : ∀ j, j < ord.length → M.1 15 j = (ord.getD j 0 : Nat)) (hinit : ∀ M', M'.1 0 29 = 0 → M'.1 0 30 = 0 → M'.1 0 31 = 0 → (∀ k, k ≠ 29 → k ≠ 30 → k ≠ 31 → M'.1 0 k = M.1 0 k) → M'.1 19 = M.1 19 → M'.1 20 = M.1 20 → SK M' R0) : WP wdM (d + 3) mX10_seek [vr 0, vi pz] M (fun v M' => v = none ∧ SK M' (seekP D ord) ∧ SFq M M') := by
  refine wp_of (by decide +kernel) (Nat.le_of_ble_eq_true rfl) ?_
  have hl14 := ord_len hw hO
  have hbd := hr.bd hw
  have hro := hr.1.2.1
  obtain ⟨t1, t2, t3, t4⟩ := id hbd
  have fin : ∀ M1 : Mem, FFr M M1 → FarD D M1 → ∀ x2 x3 : Option AV, G wdM mX10_seek (d + 3) (fun v M' => v = none ∧ SK M' (seekP D ord) ∧ SFq M M') 59 [some (vr 0), some (vi pz), x2, x3] [] M1 := by
    intro M1 hF hfar x2 x3
    have h0 := (hF 0 (by decide) (by decide) (by decide)).1
    have hmy : M1.1 0 28 = ord.length := by rw [h0]; exact hmany
    obtain ⟨M2, hM2⟩ : ∃ M2, M2 = si (si (si (si (si M1 0 29 0) 0 30 0) 0 31 0) 17 0 0) 18 0 0 := ⟨_, rfl⟩
    have hm2 : M2.1 0 28 = ord.length := by rw [hM2, sil, if_neg (by omega), sil, if_neg (by omega), sil, if_neg (by omega), sil, if_neg (by omega), sil, if_neg (by omega)]; exact hmy
    have hK2 : ∀ M3 : Mem, M3.1 0 = M2.1 0 → M3.1 19 = M2.1 19 → M3.1 20 = M2.1 20 → SK M3 R0 := fun M3 h3 h3a h3b => by
      refine hinit M3 ?_ ?_ ?_ (fun k k1 k2 k3 => ?_) ?_ ?_
      · rw [h3, hM2]; simp [sil]
      · rw [h3, hM2]; simp [sil]
      · rw [h3, hM2]; simp [sil]
      · rw [h3, hM2, ← h0]; simp [sil, k1, k2, k3]
      · rw [h3a, hM2, si_1 _ _ _ _ _ (by decide), si_1 _ _ _ _ _ (by decide), si_1 _ _ _ _ _ (by decide), si_1 _ _ _ _ _ (by decide), si_1 _ _ _ _ _ (by decide)]; exact (hF _ (by decide) (by decide) (by decide)).1
      · rw [h3b, hM2, si_1 _ _ _ _ _ (by decide), si_1 _ _ _ _ _ (by decide), si_1 _ _ _ _ _ (by decide), si_1 _ _ _ _ _ (by decide), si_1 _ _ _ _ _ (by decide)]; exact (hF _ (by decide) (by decide) (by decide)).1
    have hq2 : ∀ M3 : Mem, SFr M2 M3 → SFq M M3 := fun M3 h3 => by
      refine ⟨fun k k1 k2 k3 k4 => ?_, fun p p1 p2 p3 p4 p5 p6 p7 p8 p9 => ?_⟩
      · rw [h3.1 k k1 k2 k3 k4, hM2, ← h0]; simp [sil, k1, k2, k3]
      · have e := h3.2 p p1 p5 p6 p7 p8 p9
        rw [e.1, e.2, hM2, si_1 _ _ _ _ _ p7, si_1 _ _ _ _ _ p6, si_1 _ _ _ _ _ p1, si_1 _ _ _ _ _ p1, si_1 _ _ _ _ _ p1]
        exact hF p p2 p3 p4
    have hE2 : EnvR D ord M2 := by
      refine ⟨(hr.dat hF.mdat).dat ?_, fun a b ha hb => ?_, hm2, fun j hj => ?_⟩
      · rw [hM2]; exact ((((MDat.rf.si _ _ _).si _ _ _).si _ _ _).si _ _ _).si _ _ _
      · rw [hM2, si_1 _ _ _ _ _ (by decide), si_1 _ _ _ _ _ (by decide), si_1 _ _ _ _ _ (by decide), si_1 _ _ _ _ _ (by decide), si_1 _ _ _ _ _ (by decide)]; exact hfar a b ha hb
      · rw [hM2, si_1 _ _ _ _ _ (by decide), si_1 _ _ _ _ _ (by decide), si_1 _ _ _ _ _ (by decide), si_1 _ _ _ _ _ (by decide), si_1 _ _ _ _ _ (by decide), (hF 15 (by decide) (by decide) (by decide)).1]; exact hth j hj
    refine g_aload_n dX10_seek_59 rfl rfl ?_
    refine g_iconst dX10_seek_60 ?_
    refine g_puti dX10_seek_61 fX10_188 rfl rfl rfl (tyX10_ok 29 (by decide)) ?_
    refine g_aload_n dX10_seek_64 rfl rfl ?_
    refine g_iconst dX10_seek_65 ?_
    refine g_puti dX10_seek_66 fX10_185 rfl rfl rfl (tyX10_ok 30 (by decide)) ?_
    refine g_aload_n dX10_seek_69 rfl rfl ?_
    refine g_iconst dX10_seek_70 ?_
    refine g_putz dX10_seek_71 fX10_191 rfl rfl rfl (tyX10_ok 31 (by decide)) ?_
    refine g_aload_n dX10_seek_74 rfl rfl ?_
    refine g_getr dX10_seek_75 fX10_76 rfl rfl ?_
    refine g_iconst dX10_seek_78 ?_
    refine g_iconst dX10_seek_79 ?_
    refine g_iast dX10_seek_80 rfl (by decide) ?_
    try simp only [Int.toNat_natCast]
    refine g_aload_n dX10_seek_81 rfl rfl ?_
    refine g_getr dX10_seek_82 fX10_79 rfl rfl ?_
    refine g_iconst dX10_seek_85 ?_
    refine g_iconst dX10_seek_86 ?_
    refine g_iast dX10_seek_87 rfl (by decide) ?_
    try simp only [Int.toNat_natCast]
    rw [show (0 : Int).toNat = 0 from rfl, ← hM2]
    refine g_iconst dX10_seek_88 ?_
    refine g_istore_n (ls' := [some _, some _, some _, _]) dX10_seek_89 rfl (by decide) rfl ?_
    refine g_aload_n dX10_seek_90 rfl rfl ?_
    refine g_get dX10_seek_91 fX10_173 rfl rfl ?_
    rw [hm2]
    refine g_if_le (tgt := 107) dX10_seek_94 rfl (fun h94 => ?_) (fun h94 => ?_)
    · have hz : ord = [] := List.length_eq_zero_iff.mp (by omega)
      subst hz
      have hcom := hSK.2.2.2.2 (d + 2) M2 R0 [] 0 (hK2 M2 rfl rfl rfl) (by decide) trivial rfl (fun x hx => (by cases hx)) hm2 (by rw [hM2, si_1 _ _ _ _ _ (by decide), sil, if_pos ⟨rfl, rfl⟩]) (by omega) (by omega)
      refine g_aload_n dX10_seek_107 rfl rfl ?_
      refine g_iload_n dX10_seek_108 rfl rfl ?_
      refine g_callV dX10_seek_109 lX10_194 (hcom) rfl rfl rfl rfl (Nat.le_of_ble_eq_true rfl) ?_
      rintro v M3 ⟨rfl, k2, k3, k4, k5⟩
      show G _ _ _ _ _ _ [] M3
      first
      | (have hm3 : M3.1 0 28 = 0 := by rw [k3.1 28 (by decide) (by decide) (by decide) (by decide), hm2]; rfl
         refine g_iload_n dX10_seek_112 rfl rfl ?_
         refine g_if_lt (tgt := 321) dX10_seek_113 rfl (fun h113 => absurd h113 (by decide)) (fun _ => ?_)
         refine g_aload_n dX10_seek_116 rfl rfl ?_
         refine g_get dX10_seek_117 fX10_173 rfl rfl ?_
         rw [hm3]
         refine g_if_le (tgt := 321) dX10_seek_120 rfl (fun h120 => ?_) (fun h120 => ?_)
         · refine g_vret dX10_seek_321 rfl ?_
           exact ⟨rfl, k2, hq2 M3 k3⟩
         · exact absurd (by omega) h120)
      | (obtain ⟨M4, hM4⟩ : ∃ M4, M4 = si M2 16 0 (-1) := ⟨_, rfl⟩
         rw [show (0 : Int).toNat = 0 from rfl, ← hM4]
         have hS4 : SFr M2 M4 := by rw [hM4]; exact SFr.rf.si _ _ _
         have hE4 := hE2.fr hS4
         refine w_dfs (a := []) (rem := ord) (ppl := 0) (c := 0) (M0 := M4) hw hE4 hO hSK hpz rfl (fun z => by rw [z] at h94; exact h94 (by simp)) (good_0 D hw) (Int.le_refl _) (Nat.le_refl _) M4 R0 _ SFr.rf ⟨trivial, ?_, ?_⟩ ?_ (hK2 M4 ?_ ?_ ?_) rfl (fun M' x s1 s2 s3 s4 => ?_) (fun M' s1 s3 s4 => ?_)
         · rw [hM4, si_1 _ _ _ _ _ (by decide), hM2, si_1 _ _ _ _ _ (by decide), sil, if_pos ⟨rfl, rfl⟩]
         · rw [hM4, si_1 _ _ _ _ _ (by decide), hM2, sil, if_pos ⟨rfl, rfl⟩]; rfl
         · rw [hM4, sil, if_pos ⟨rfl, rfl⟩]
         · rw [hM4, si_1 _ _ _ _ _ (by decide)]
         · rw [hM4, si_1 _ _ _ _ _ (by decide)]
         · rw [hM4, si_1 _ _ _ _ _ (by decide)]
         · show G _ _ _ _ 112 [some (vr 0), some (vi pz), some (vi (0 + -1)), x] [] M'
           refine g_iload_n dX10_seek_112 rfl rfl ?_
           refine g_if_lt (tgt := 321) dX10_seek_113 rfl (fun h113 => ?_) (fun h113 => ?_)
           · refine g_vret dX10_seek_321 rfl ?_
             exact ⟨rfl, s3, hq2 M' (hS4.tr s1)⟩
           · exact absurd (by omega) h113
         · exact ⟨rfl, s3, hq2 M' (hS4.tr s1)⟩)
    · refine g_aload_n dX10_seek_97 rfl rfl ?_
      refine g_getr dX10_seek_98 fX10_73 rfl rfl ?_
      refine g_iconst dX10_seek_101 ?_
      refine g_iconst dX10_seek_102 ?_
      refine g_iast dX10_seek_103 rfl (by decide) ?_
      try simp only [Int.toNat_natCast]
      refine g_goto (tgt := 112) dX10_seek_104 rfl ?_
      first
      | (have hm3 : M3.1 0 28 = 0 := by rw [k3.1 28 (by decide) (by decide) (by decide) (by decide), hm2]; rfl
         refine g_iload_n dX10_seek_112 rfl rfl ?_
         refine g_if_lt (tgt := 321) dX10_seek_113 rfl (fun h113 => absurd h113 (by decide)) (fun _ => ?_)
         refine g_aload_n dX10_seek_116 rfl rfl ?_
         refine g_get dX10_seek_117 fX10_173 rfl rfl ?_
         rw [hm3]
         refine g_if_le (tgt := 321) dX10_seek_120 rfl (fun h120 => ?_) (fun h120 => ?_)
         · refine g_vret dX10_seek_321 rfl ?_
           exact ⟨rfl, k2, hq2 M3 k3⟩
         · exact absurd (by omega) h120)
      | (obtain ⟨M4, hM4⟩ : ∃ M4, M4 = si M2 16 0 (-1) := ⟨_, rfl⟩
         rw [show (0 : Int).toNat = 0 from rfl, ← hM4]
         have hS4 : SFr M2 M4 := by rw [hM4]; exact SFr.rf.si _ _ _
         have hE4 := hE2.fr hS4
         refine w_dfs (a := []) (rem := ord) (ppl := 0) (c := 0) (M0 := M4) hw hE4 hO hSK hpz rfl (fun z => by rw [z] at h94; exact h94 (by simp)) (good_0 D hw) (Int.le_refl _) (Nat.le_refl _) M4 R0 _ SFr.rf ⟨trivial, ?_, ?_⟩ ?_ (hK2 M4 ?_ ?_ ?_) rfl (fun M' x s1 s2 s3 s4 => ?_) (fun M' s1 s3 s4 => ?_)
         · rw [hM4, si_1 _ _ _ _ _ (by decide), hM2, si_1 _ _ _ _ _ (by decide), sil, if_pos ⟨rfl, rfl⟩]
         · rw [hM4, si_1 _ _ _ _ _ (by decide), hM2, sil, if_pos ⟨rfl, rfl⟩]; rfl
         · rw [hM4, sil, if_pos ⟨rfl, rfl⟩]
         · rw [hM4, si_1 _ _ _ _ _ (by decide)]
         · rw [hM4, si_1 _ _ _ _ _ (by decide)]
         · rw [hM4, si_1 _ _ _ _ _ (by decide)]
         · show G _ _ _ _ 112 [some (vr 0), some (vi pz), some (vi (0 + -1)), x] [] M'
           refine g_iload_n dX10_seek_112 rfl rfl ?_
           refine g_if_lt (tgt := 321) dX10_seek_113 rfl (fun h113 => ?_) (fun h113 => ?_)
           · refine g_vret dX10_seek_321 rfl ?_
             exact ⟨rfl, s3, hq2 M' (hS4.tr s1)⟩
           · exact absurd (by omega) h113
         · exact ⟨rfl, s3, hq2 M' (hS4.tr s1)⟩)
  have outer : ∀ n i : Nat, i + n = nN D → ∀ M1 : Mem, FFr M M1 → (∀ a b : Nat, a < i → (b : Int) < D.1 1 11 → M1.1 10 (14 * a + b) = apF D a b) → ∀ x3 : Option AV, G wdM mX10_seek (d + 3) (fun v M' => v = none ∧ SK M' (seekP D ord) ∧ SFq M M') 2 [some (vr 0), some (vi pz), some (vi i), x3] [] M1 := by
    intro n
    unfold nN
    induction n with
    | zero =>
      intro i hi M1 hF h1 x3
      have hN : M1.1 0 13 = D.1 1 11 := by rw [(hF 0 (by decide) (by decide) (by decide)).1]; exact hro
      refine g_iload_n dX10_seek_2 rfl rfl ?_
      refine g_aload_n dX10_seek_3 rfl rfl ?_
      refine g_get dX10_seek_4 fX10_117 rfl rfl ?_
      rw [hN]
      refine g_icmp_ge (tgt := 59) dX10_seek_7 rfl (fun h7 => ?_) (fun h7 => ?_)
      · exact fin M1 hF (fun a b ha hb => h1 a b (by omega) hb) _ _
      · exfalso; omega
    | succ n ih =>
      intro i hi M1 hF h1 x3
      have inner : ∀ m j : Nat, j + m = nN D → ∀ M2 : Mem, FFr M M2 → (∀ a b : Nat, (a < i ∨ (a = i ∧ b < j)) → (b : Int) < D.1 1 11 → M2.1 10 (14 * a + b) = apF D a b) → G wdM mX10_seek (d + 3) (fun v M' => v = none ∧ SK M' (seekP D ord) ∧ SFq M M') 12 [some (vr 0), some (vi pz), some (vi i), some (vi j)] [] M2 := by
        intro m
        unfold nN
        induction m with
        | zero =>
          intro j hj M2 hF2 h2
          have hN : M2.1 0 13 = D.1 1 11 := by rw [(hF2 0 (by decide) (by decide) (by decide)).1]; exact hro
          refine g_iload_n dX10_seek_12 rfl rfl ?_
          refine g_aload_n dX10_seek_13 rfl rfl ?_
          refine g_get dX10_seek_14 fX10_117 rfl rfl ?_
          rw [hN]
          refine g_icmp_ge (tgt := 53) dX10_seek_17 rfl (fun h17 => ?_) (fun h17 => ?_)
          · refine g_iinc (ls' := [some _, some _, some _, some _]) dX10_seek_53 rfl rfl ?_
            refine g_goto (tgt := 2) dX10_seek_56 rfl ?_
            refine ih (i + 1) (by omega) M2 hF2 (fun a b ha hb => h2 a b ?_ hb) _
            by_cases hai : a < i
            · exact Or.inl hai
            · exact Or.inr ⟨by omega, by omega⟩
          · exfalso; omega
        | succ m ihm =>
          intro j hj M2 hF2 h2
          have hN : M2.1 0 13 = D.1 1 11 := by rw [(hF2 0 (by decide) (by decide) (by decide)).1]; exact hro
          have hr2 := hr.dat hF2.mdat
          have n1 := (hr2.2.1 i (by omega)).2.2.2.2.2.1
          have n2 := (hr2.2.1 j (by omega)).2.2.2.2.2.1
          have v1 := (hw.2.2.2.2.2.1 i (by omega)).2.2.2.2.2.2.2.2
          have v2 := (hw.2.2.2.2.2.1 j (by omega)).2.2.2.2.2.2.2.2
          have ef : (14 * (i : Int) + (j : Int)).toNat = 14 * i + j := by omega
          have hd := distC_r (D.1 14) (D.2 11 i) (D.2 11 j)
          refine g_iload_n dX10_seek_12 rfl rfl ?_
          refine g_aload_n dX10_seek_13 rfl rfl ?_
          refine g_get dX10_seek_14 fX10_117 rfl rfl ?_
          rw [hN]
          refine g_icmp_ge (tgt := 53) dX10_seek_17 rfl (fun h17 => ?_) (fun h17 => ?_)
          · exfalso; omega
          · refine g_aload_n dX10_seek_20 rfl rfl ?_
            refine g_getr dX10_seek_21 fX10_37 rfl rfl ?_
            refine g_bipush dX10_seek_24 rfl ?_
            refine g_iload_n dX10_seek_26 rfl rfl ?_
            refine g_imul dX10_seek_27 ?_
            refine g_iload_n dX10_seek_28 rfl rfl ?_
            refine g_iadd dX10_seek_29 ?_
            refine g_aload_n dX10_seek_30 rfl rfl ?_
            refine g_aload_n dX10_seek_31 rfl rfl ?_
            refine g_getr dX10_seek_32 fX10_40 rfl rfl ?_
            refine g_iload_n dX10_seek_35 rfl rfl ?_
            refine g_lald dX10_seek_36 rfl (by decide) ?_
            try simp only [Int.toNat_natCast]
            rw [n1]
            refine g_aload_n dX10_seek_37 rfl rfl ?_
            refine g_getr dX10_seek_38 fX10_40 rfl rfl ?_
            refine g_iload_n dX10_seek_41 rfl rfl ?_
            refine g_lald dX10_seek_42 rfl (by decide) ?_
            try simp only [Int.toNat_natCast]
            rw [n2]
            refine g_callV dX10_seek_43 lX10_110 (w_X10_apart (d := d) (M := M2) v1 v2 hr2.2.2.2.2.2.2.2.2.2) rfl rfl rfl rfl (Nat.le_of_ble_eq_true rfl) ?_
            rintro v M3 ⟨rfl, hF3⟩
            show G _ _ _ _ _ _ [vi _, _, _] M3
            refine g_iast dX10_seek_46 rfl (by decide) ?_
            try simp only [Int.toNat_natCast]
            rw [ef]
            refine g_iinc (ls' := [some _, some _, some _, some _]) dX10_seek_47 rfl rfl ?_
            refine g_goto (tgt := 12) dX10_seek_50 rfl ?_
            refine ihm (j + 1) (by omega) _ (fun p p1 p2 p3 => ?_) (fun a b hab hb => ?_)
            · rw [si_1 _ _ _ _ _ p1, si_J, (hF3 p (by omega)).1, (hF3 p (by omega)).2]
              exact hF2 p p1 p2 p3
            · rw [sil]
              by_cases hz : a = i ∧ b = j
              · obtain ⟨rfl, rfl⟩ := hz
                rw [if_pos ⟨rfl, rfl⟩]
                rfl
              · rw [if_neg (fun z => hz (by omega)), (hF3 10 (Or.inl (by decide))).1]
                exact h2 a b (by omega) hb
      have hN : M1.1 0 13 = D.1 1 11 := by rw [(hF 0 (by decide) (by decide) (by decide)).1]; exact hro
      refine g_iload_n dX10_seek_2 rfl rfl ?_
      refine g_aload_n dX10_seek_3 rfl rfl ?_
      refine g_get dX10_seek_4 fX10_117 rfl rfl ?_
      rw [hN]
      refine g_icmp_ge (tgt := 59) dX10_seek_7 rfl (fun h7 => ?_) (fun h7 => ?_)
      · exfalso; omega
      · refine g_iconst dX10_seek_10 ?_
        refine g_istore_n (ls' := [some _, some _, some _, some _]) dX10_seek_11 rfl (by decide) rfl ?_
        exact inner (nN D) 0 (by omega) M1 hF (fun a b hab hb => h1 a b (by omega) hb)
  refine g_iconst dX10_seek_0 ?_
  refine g_istore_n (ls' := [some _, some _, some _, _]) dX10_seek_1 rfl (by decide) rfl ?_
  exact outer (nN D) 0 (by omega) M (fun _ _ _ _ => ⟨rfl, rfl⟩) (fun a b ha => absurd ha (by omega)) _

