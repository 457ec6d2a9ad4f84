/-! MODULE 16: the links that all ways have; a way is kept. -/

theorem w_X6_narrow_W {d : Nat} {M : Mem} {ord : List Nat} {a : Asg} (hO : Ord 24 M ord) (hr : ∀ o ∈ ord, o < 14) (hl : ord.length ≤ 14) (hnd : ord.Nodup) (hp : ∀ o ∈ ord, M.1 26 o = per a o ∧ per a o < 14) (hJ : ∀ t ∈ ord, 0 ≤ M.1 27 t ∧ M.1 27 t < 16384) : WP wdC (d + 1) mX6_narrowJoined [vr 24] M (fun v M' => v = none ∧ Fr 27 29 M M' ∧ ∀ t ∈ ord, 0 ≤ M'.1 27 t ∧ M'.1 27 t < 16384 ∧ ∀ c ∈ ord, ((M'.1 27 t).toNat.testBit c = true ↔ ((M.1 27 t).toNat.testBit c = true ∧ per a t = per a c))) := by
  refine wp_of (by decide +kernel) (Nat.le_of_ble_eq_true rfl) ?_
  obtain ⟨hO1, hO2⟩ := hO
  change M.1 24 9 = _ at hO1
  have loop2 : ∀ f : Nat → Nat, (∀ p, p < 14 → f p < 16384) → (∀ p c, (f p).testBit c = true ↔ (c ∈ ord ∧ per a c = p)) → ∀ n i : Nat, i + n = ord.length → ∀ (M1 : Mem) (x2 : Option AV), Fr 27 29 M M1 → (∀ p, p < 14 → M1.1 28 p = f p) → (∀ t ∈ ord, M1.1 27 t = if t ∈ ord.take i then (((M.1 27 t).toNat &&& f (per a t) : Nat) : Int) else M.1 27 t) → G wdC mX6_narrowJoined (d + 1) (fun v M' => v = none ∧ Fr 27 29 M M' ∧ ∀ t ∈ ord, 0 ≤ M'.1 27 t ∧ M'.1 27 t < 16384 ∧ ∀ c ∈ ord, ((M'.1 27 t).toNat.testBit c = true ↔ ((M.1 27 t).toNat.testBit c = true ∧ per a t = per a c))) 75 [some (vr 24), some (vi i), x2] [] M1 := by
    intro f hf1 hf2 n
    induction n with
    | zero =>
      intro i hi M1 x2 hF hro hj
      have hc1 : M1.1 24 9 = ord.length := by rw [(hF 24 (Or.inl (by decide))).1]; exact hO1
      refine g_iload_n dX6_narrowJoined_75 rfl rfl ?_
      refine g_aload_n dX6_narrowJoined_76 rfl rfl ?_
      refine g_get dX6_narrowJoined_77 fX6_24 rfl rfl ?_
      refine g_icmp_ge (tgt := 141) dX6_narrowJoined_80 rfl (fun h80 => ?_) (fun h80 => ?_)
      · refine g_vret dX6_narrowJoined_141 rfl ?_
        refine ⟨rfl, hF, fun t ht => ?_⟩
        have h1 := hj t ht
        rw [List.take_of_length_le (by omega), if_pos ht] at h1
        have h2 : (M.1 27 t).toNat &&& f (per a t) ≤ (M.1 27 t).toNat := Nat.and_le_left
        have h3 := hJ t ht
        refine ⟨by omega, by omega, fun c hc => ?_⟩
        rw [h1, Int.toNat_natCast, Nat.testBit_and, Bool.and_eq_true, hf2]
        exact ⟨fun z => ⟨z.1, z.2.2.symm⟩, fun z => ⟨z.1, hc, z.2.symm⟩⟩
      · exfalso; omega
    | succ n ih =>
      intro i hi M1 x2 hF hro hj
      have hi' : i < ord.length := by omega
      have hm := getD_mem hi'
      have hc1 : M1.1 24 9 = ord.length := by rw [(hF 24 (Or.inl (by decide))).1]; exact hO1
      have hO3 : M1.1 25 i = (ord.getD i 0 : Nat) := by rw [(hF 25 (Or.inl (by decide))).1]; exact hO2 i hi'
      have p1 : M1.1 26 (ord.getD i 0) = (per a (ord.getD i 0) : Nat) := by rw [(hF 26 (Or.inl (by decide))).1]; exact (hp _ hm).1
      have p2 := (hp _ hm).2
      have h14 := hr _ hm
      have hJo := hJ _ hm
      have hni : ord.getD i 0 ∉ ord.take i := by
        intro hin
        obtain ⟨j, hj, hje⟩ := List.mem_iff_getElem.mp hin
        rw [List.length_take] at hj
        rw [List.getElem_take] at hje
        rw [List.getD_eq_getElem?_getD, List.getElem?_eq_getElem hi'] at hje
        have := nodup_at hnd _ _ (by omega) hi' hje
        omega
      have j1 : M1.1 27 (ord.getD i 0) = (((M.1 27 (ord.getD i 0)).toNat : Nat) : Int) := by rw [hj _ hm, if_neg hni]; omega
      have j2 := hro _ p2
      have j3 := hf1 _ p2
      refine g_iload_n dX6_narrowJoined_75 rfl rfl ?_
      refine g_aload_n dX6_narrowJoined_76 rfl rfl ?_
      refine g_get dX6_narrowJoined_77 fX6_24 rfl rfl ?_
      refine g_icmp_ge (tgt := 141) dX6_narrowJoined_80 rfl (fun h80 => ?_) (fun h80 => ?_)
      · exfalso; omega
      · refine g_iload_n dX6_narrowJoined_83 rfl rfl ?_
        refine g_bipush dX6_narrowJoined_84 rfl ?_
        refine g_icmp_ge (tgt := 141) dX6_narrowJoined_86 rfl (fun h86 => ?_) (fun h86 => ?_)
        · exfalso; omega
        · refine g_aload_n dX6_narrowJoined_89 rfl rfl ?_
          refine g_getr dX6_narrowJoined_90 fX6_9 rfl rfl ?_
          refine g_iload_n dX6_narrowJoined_93 rfl rfl ?_
          refine g_iald dX6_narrowJoined_94 rfl (by decide) ?_
          try simp only [Int.toNat_natCast]
          rw [hO3]
          refine g_istore_n (ls' := [some _, some _, some _]) dX6_narrowJoined_95 rfl (by decide) rfl ?_
          refine g_iload_n dX6_narrowJoined_96 rfl rfl ?_
          refine g_callSr dX6_narrowJoined_97 lX6_97 (w_X9_isPlace (by omega) (by omega)) rfl rfl (Nat.le_of_ble_eq_true rfl) ?_
          refine g_if_eqB (tgt := 135) dX6_narrowJoined_100 rfl (fun h100 => ?_) (fun h100 => ?_)
          · exfalso; omega
          · refine g_aload_n dX6_narrowJoined_103 rfl rfl ?_
            refine g_getr dX6_narrowJoined_104 fX6_15 rfl rfl ?_
            refine g_iload_n dX6_narrowJoined_107 rfl rfl ?_
            refine g_iald dX6_narrowJoined_108 rfl (by decide) ?_
            try simp only [Int.toNat_natCast]
            rw [p1]
            refine g_callSr dX6_narrowJoined_109 lX6_97 (w_X9_isPlace (by omega) (by omega)) rfl rfl (Nat.le_of_ble_eq_true rfl) ?_
            refine g_if_eqB (tgt := 135) dX6_narrowJoined_112 rfl (fun h112 => ?_) (fun h112 => ?_)
            · exfalso; omega
            · refine g_aload_n dX6_narrowJoined_115 rfl rfl ?_
              refine g_getr dX6_narrowJoined_116 fX6_18 rfl rfl ?_
              refine g_iload_n dX6_narrowJoined_119 rfl rfl ?_
              refine g_dup2 dX6_narrowJoined_120 rfl rfl ?_
              refine g_iald dX6_narrowJoined_121 rfl (by decide) ?_
              try simp only [Int.toNat_natCast]
              rw [j1]
              refine g_aload_n dX6_narrowJoined_122 rfl rfl ?_
              refine g_getr dX6_narrowJoined_123 fX6_21 rfl rfl ?_
              refine g_aload_n dX6_narrowJoined_126 rfl rfl ?_
              refine g_getr dX6_narrowJoined_127 fX6_15 rfl rfl ?_
              refine g_iload_n dX6_narrowJoined_130 rfl rfl ?_
              refine g_iald dX6_narrowJoined_131 rfl (by decide) ?_
              try simp only [Int.toNat_natCast]
              rw [p1]
              refine g_iald dX6_narrowJoined_132 rfl (by decide) ?_
              try simp only [Int.toNat_natCast]
              rw [j2]
              refine g_iand dX6_narrowJoined_133 ?_
              rw [band_nat (by omega) (by omega)]
              refine g_iast dX6_narrowJoined_134 rfl (by decide) ?_
              try simp only [Int.toNat_natCast]
              refine g_iinc (ls' := [some _, some _, some _]) dX6_narrowJoined_135 rfl rfl ?_
              refine g_goto (tgt := 75) dX6_narrowJoined_138 rfl ?_
              refine ih (i + 1) (by omega) _ _ (hF.si _ _ _) (fun p hp1 => ?_) (fun t ht => ?_)
              · rw [sil, if_neg (by omega)]; exact hro p hp1
              · rw [sil]
                have htm := take_mem hi' t
                by_cases h1 : t = ord.getD i 0
                · rw [if_pos ⟨rfl, h1⟩, if_pos (htm.mpr (Or.inr h1)), h1]
                · rw [if_neg (fun z => h1 z.2), hj t ht]
                  by_cases h2 : t ∈ ord.take i
                  · rw [if_pos h2, if_pos (htm.mpr (Or.inl h2))]
                  · rw [if_neg h2, if_neg (fun z => (htm.mp z).elim h2 h1)]
  have loop1 : ∀ n i : Nat, i + n = ord.length → ∀ (M1 : Mem) (x2 : Option AV) (f : Nat → Nat), Fr 27 29 M M1 → M1.1 27 = M.1 27 → (∀ p, p < 14 → M1.1 28 p = f p ∧ f p < 16384) → (∀ p c, (f p).testBit c = true ↔ (c ∈ ord.take i ∧ per a c = p)) → G wdC mX6_narrowJoined (d + 1) (fun v M' => v = none ∧ Fr 27 29 M M' ∧ ∀ t ∈ ord, 0 ≤ M'.1 27 t ∧ M'.1 27 t < 16384 ∧ ∀ c ∈ ord, ((M'.1 27 t).toNat.testBit c = true ↔ ((M.1 27 t).toNat.testBit c = true ∧ per a t = per a c))) 10 [some (vr 24), some (vi i), x2] [] M1 := by
    intro n
    induction n with
    | zero =>
      intro i hi M1 x2 f hF hj hf1 hf2
      have hc1 : M1.1 24 9 = ord.length := by rw [(hF 24 (Or.inl (by decide))).1]; exact hO1
      refine g_iload_n dX6_narrowJoined_10 rfl rfl ?_
      refine g_aload_n dX6_narrowJoined_11 rfl rfl ?_
      refine g_get dX6_narrowJoined_12 fX6_24 rfl rfl ?_
      refine g_icmp_ge (tgt := 73) dX6_narrowJoined_15 rfl (fun h15 => ?_) (fun h15 => ?_)
      · refine g_iconst dX6_narrowJoined_73 ?_
        refine g_istore_n (ls' := [some _, some _, _]) dX6_narrowJoined_74 rfl (by decide) rfl ?_
        exact loop2 f (fun p hp1 => (hf1 p hp1).2) (fun p c => by rw [hf2, List.take_of_length_le (by omega)]) ord.length 0 (by omega) M1 _ hF (fun p hp1 => (hf1 p hp1).1) (fun t ht => by rw [List.take_zero, if_neg List.not_mem_nil, hj])
      · exfalso; omega
    | succ n ih =>
      intro i hi M1 x2 f hF hj hf1 hf2
      have hi' : i < ord.length := by omega
      have hm := getD_mem hi'
      have hc1 : M1.1 24 9 = ord.length := by rw [(hF 24 (Or.inl (by decide))).1]; exact hO1
      have hO3 : M1.1 25 i = (ord.getD i 0 : Nat) := by rw [(hF 25 (Or.inl (by decide))).1]; exact hO2 i hi'
      have p1 : M1.1 26 (ord.getD i 0) = (per a (ord.getD i 0) : Nat) := by rw [(hF 26 (Or.inl (by decide))).1]; exact (hp _ hm).1
      have p2 := (hp _ hm).2
      have h14 := hr _ hm
      obtain ⟨j2, j3⟩ := hf1 _ p2
      have h2 : (2 : Nat) ^ (ord.getD i 0) < 16384 := Nat.lt_of_lt_of_le (Nat.pow_lt_pow_right (by decide) h14) (by decide)
      refine g_iload_n dX6_narrowJoined_10 rfl rfl ?_
      refine g_aload_n dX6_narrowJoined_11 rfl rfl ?_
      refine g_get dX6_narrowJoined_12 fX6_24 rfl rfl ?_
      refine g_icmp_ge (tgt := 73) dX6_narrowJoined_15 rfl (fun h15 => ?_) (fun h15 => ?_)
      · exfalso; omega
      · refine g_iload_n dX6_narrowJoined_18 rfl rfl ?_
        refine g_bipush dX6_narrowJoined_19 rfl ?_
        refine g_icmp_ge (tgt := 73) dX6_narrowJoined_21 rfl (fun h21 => ?_) (fun h21 => ?_)
        · exfalso; omega
        · refine g_aload_n dX6_narrowJoined_24 rfl rfl ?_
          refine g_getr dX6_narrowJoined_25 fX6_9 rfl rfl ?_
          refine g_iload_n dX6_narrowJoined_28 rfl rfl ?_
          refine g_iald dX6_narrowJoined_29 rfl (by decide) ?_
          try simp only [Int.toNat_natCast]
          rw [hO3]
          refine g_istore_n (ls' := [some _, some _, some _]) dX6_narrowJoined_30 rfl (by decide) rfl ?_
          refine g_iload_n dX6_narrowJoined_31 rfl rfl ?_
          refine g_callSr dX6_narrowJoined_32 lX6_97 (w_X9_isPlace (by omega) (by omega)) rfl rfl (Nat.le_of_ble_eq_true rfl) ?_
          refine g_if_eqB (tgt := 67) dX6_narrowJoined_35 rfl (fun h35 => ?_) (fun h35 => ?_)
          · exfalso; omega
          · refine g_aload_n dX6_narrowJoined_38 rfl rfl ?_
            refine g_getr dX6_narrowJoined_39 fX6_15 rfl rfl ?_
            refine g_iload_n dX6_narrowJoined_42 rfl rfl ?_
            refine g_iald dX6_narrowJoined_43 rfl (by decide) ?_
            try simp only [Int.toNat_natCast]
            rw [p1]
            refine g_callSr dX6_narrowJoined_44 lX6_97 (w_X9_isPlace (by omega) (by omega)) rfl rfl (Nat.le_of_ble_eq_true rfl) ?_
            refine g_if_eqB (tgt := 67) dX6_narrowJoined_47 rfl (fun h47 => ?_) (fun h47 => ?_)
            · exfalso; omega
            · refine g_aload_n dX6_narrowJoined_50 rfl rfl ?_
              refine g_getr dX6_narrowJoined_51 fX6_21 rfl rfl ?_
              refine g_aload_n dX6_narrowJoined_54 rfl rfl ?_
              refine g_getr dX6_narrowJoined_55 fX6_15 rfl rfl ?_
              refine g_iload_n dX6_narrowJoined_58 rfl rfl ?_
              refine g_iald dX6_narrowJoined_59 rfl (by decide) ?_
              try simp only [Int.toNat_natCast]
              rw [p1]
              refine g_dup2 dX6_narrowJoined_60 rfl rfl ?_
              refine g_iald dX6_narrowJoined_61 rfl (by decide) ?_
              try simp only [Int.toNat_natCast]
              rw [j2]
              refine g_iconst dX6_narrowJoined_62 ?_
              refine g_iload_n dX6_narrowJoined_63 rfl rfl ?_
              refine g_ishl dX6_narrowJoined_64 ?_
              rw [shl_1 (by omega)]
              refine g_ior dX6_narrowJoined_65 ?_
              rw [bor_nat (by omega) (by omega)]
              refine g_iast dX6_narrowJoined_66 rfl (by decide) ?_
              try simp only [Int.toNat_natCast]
              refine g_iinc (ls' := [some _, some _, some _]) dX6_narrowJoined_67 rfl rfl ?_
              refine g_goto (tgt := 10) dX6_narrowJoined_70 rfl ?_
              refine ih (i + 1) (by omega) _ _ (fun p => if p = per a (ord.getD i 0) then f (per a (ord.getD i 0)) ||| 2 ^ (ord.getD i 0) else f p) (hF.si _ _ _) (by funext t; rw [sil, if_neg (by omega), hj]) (fun p hp1 => ?_) (fun p c => ?_)
              · rw [sil]
                by_cases h1 : p = per a (ord.getD i 0)
                · rw [if_pos ⟨rfl, h1⟩, if_pos h1]
                  exact ⟨rfl, Nat.or_lt_two_pow (n := 14) j3 h2⟩
                · rw [if_neg (fun z => h1 z.2), if_neg h1]; exact hf1 p hp1
              · have htm := take_mem hi' c
                by_cases h1 : p = per a (ord.getD i 0)
                · rw [if_pos h1, Nat.testBit_or, Bool.or_eq_true, hf2, Nat.testBit_two_pow, decide_eq_true_iff, htm]
                  constructor
                  · rintro (z | z)
                    · exact ⟨Or.inl z.1, z.2.trans h1.symm⟩
                    · exact ⟨Or.inr z.symm, by rw [← z]; exact h1.symm⟩
                  · rintro ⟨z | z, z2⟩
                    · exact Or.inl ⟨z, z2.trans h1⟩
                    · exact Or.inr z.symm
                · rw [if_neg h1, hf2, htm]
                  constructor
                  · rintro ⟨z, z2⟩; exact ⟨Or.inl z, z2⟩
                  · rintro ⟨z | z, z2⟩
                    · exact ⟨z, z2⟩
                    · rw [z] at z2; exact absurd z2.symm h1
  refine g_aload_n dX6_narrowJoined_0 rfl rfl ?_
  refine g_getr dX6_narrowJoined_1 fX6_21 rfl rfl ?_
  refine g_iconst dX6_narrowJoined_4 ?_
  refine g_callS dX6_narrowJoined_5 lX6_83 (w_fill (p := 28) (n := 14) rfl (by decide)) rfl rfl (Nat.le_of_ble_eq_true rfl) ?_
  rintro v M2 ⟨rfl, q1, q2, q3⟩
  show G _ _ _ _ _ _ [] M2
  refine g_iconst dX6_narrowJoined_8 ?_
  refine g_istore_n (ls' := [some _, some _, _]) dX6_narrowJoined_9 rfl (by decide) rfl ?_
  refine loop1 ord.length 0 (by omega) M2 _ (fun _ => 0) (fun p hp1 => ⟨q2 p (by omega), by rw [q1]⟩) (q2 _ (by decide)) (fun p hp1 => ⟨q3 p hp1, by decide⟩) (fun p c => ?_)
  simp

theorem w_X6_narrow_V {d : Nat} {M : Mem} {ord : List Nat} {a : Asg} (hO : Ord 45 M ord) (hr : ∀ o ∈ ord, o < 14) (hl : ord.length ≤ 14) (hnd : ord.Nodup) (hp : ∀ o ∈ ord, M.1 47 o = per a o ∧ per a o < 14) (hJ : ∀ t ∈ ord, 0 ≤ M.1 48 t ∧ M.1 48 t < 16384) : WP wdC (d + 1) mX6_narrowJoined [vr 45] M (fun v M' => v = none ∧ Fr 48 50 M M' ∧ ∀ t ∈ ord, 0 ≤ M'.1 48 t ∧ M'.1 48 t < 16384 ∧ ∀ c ∈ ord, ((M'.1 48 t).toNat.testBit c = true ↔ ((M.1 48 t).toNat.testBit c = true ∧ per a t = per a c))) := by
  refine wp_of (by decide +kernel) (Nat.le_of_ble_eq_true rfl) ?_
  obtain ⟨hO1, hO2⟩ := hO
  change M.1 45 9 = _ at hO1
  have loop2 : ∀ f : Nat → Nat, (∀ p, p < 14 → f p < 16384) → (∀ p c, (f p).testBit c = true ↔ (c ∈ ord ∧ per a c = p)) → ∀ n i : Nat, i + n = ord.length → ∀ (M1 : Mem) (x2 : Option AV), Fr 48 50 M M1 → (∀ p, p < 14 → M1.1 49 p = f p) → (∀ t ∈ ord, M1.1 48 t = if t ∈ ord.take i then (((M.1 48 t).toNat &&& f (per a t) : Nat) : Int) else M.1 48 t) → G wdC mX6_narrowJoined (d + 1) (fun v M' => v = none ∧ Fr 48 50 M M' ∧ ∀ t ∈ ord, 0 ≤ M'.1 48 t ∧ M'.1 48 t < 16384 ∧ ∀ c ∈ ord, ((M'.1 48 t).toNat.testBit c = true ↔ ((M.1 48 t).toNat.testBit c = true ∧ per a t = per a c))) 75 [some (vr 45), some (vi i), x2] [] M1 := by
    intro f hf1 hf2 n
    induction n with
    | zero =>
      intro i hi M1 x2 hF hro hj
      have hc1 : M1.1 45 9 = ord.length := by rw [(hF 45 (Or.inl (by decide))).1]; exact hO1
      refine g_iload_n dX6_narrowJoined_75 rfl rfl ?_
      refine g_aload_n dX6_narrowJoined_76 rfl rfl ?_
      refine g_get dX6_narrowJoined_77 fX6_24 rfl rfl ?_
      refine g_icmp_ge (tgt := 141) dX6_narrowJoined_80 rfl (fun h80 => ?_) (fun h80 => ?_)
      · refine g_vret dX6_narrowJoined_141 rfl ?_
        refine ⟨rfl, hF, fun t ht => ?_⟩
        have h1 := hj t ht
        rw [List.take_of_length_le (by omega), if_pos ht] at h1
        have h2 : (M.1 48 t).toNat &&& f (per a t) ≤ (M.1 48 t).toNat := Nat.and_le_left
        have h3 := hJ t ht
        refine ⟨by omega, by omega, fun c hc => ?_⟩
        rw [h1, Int.toNat_natCast, Nat.testBit_and, Bool.and_eq_true, hf2]
        exact ⟨fun z => ⟨z.1, z.2.2.symm⟩, fun z => ⟨z.1, hc, z.2.symm⟩⟩
      · exfalso; omega
    | succ n ih =>
      intro i hi M1 x2 hF hro hj
      have hi' : i < ord.length := by omega
      have hm := getD_mem hi'
      have hc1 : M1.1 45 9 = ord.length := by rw [(hF 45 (Or.inl (by decide))).1]; exact hO1
      have hO3 : M1.1 46 i = (ord.getD i 0 : Nat) := by rw [(hF 46 (Or.inl (by decide))).1]; exact hO2 i hi'
      have p1 : M1.1 47 (ord.getD i 0) = (per a (ord.getD i 0) : Nat) := by rw [(hF 47 (Or.inl (by decide))).1]; exact (hp _ hm).1
      have p2 := (hp _ hm).2
      have h14 := hr _ hm
      have hJo := hJ _ hm
      have hni : ord.getD i 0 ∉ ord.take i := by
        intro hin
        obtain ⟨j, hj, hje⟩ := List.mem_iff_getElem.mp hin
        rw [List.length_take] at hj
        rw [List.getElem_take] at hje
        rw [List.getD_eq_getElem?_getD, List.getElem?_eq_getElem hi'] at hje
        have := nodup_at hnd _ _ (by omega) hi' hje
        omega
      have j1 : M1.1 48 (ord.getD i 0) = (((M.1 48 (ord.getD i 0)).toNat : Nat) : Int) := by rw [hj _ hm, if_neg hni]; omega
      have j2 := hro _ p2
      have j3 := hf1 _ p2
      refine g_iload_n dX6_narrowJoined_75 rfl rfl ?_
      refine g_aload_n dX6_narrowJoined_76 rfl rfl ?_
      refine g_get dX6_narrowJoined_77 fX6_24 rfl rfl ?_
      refine g_icmp_ge (tgt := 141) dX6_narrowJoined_80 rfl (fun h80 => ?_) (fun h80 => ?_)
      · exfalso; omega
      · refine g_iload_n dX6_narrowJoined_83 rfl rfl ?_
        refine g_bipush dX6_narrowJoined_84 rfl ?_
        refine g_icmp_ge (tgt := 141) dX6_narrowJoined_86 rfl (fun h86 => ?_) (fun h86 => ?_)
        · exfalso; omega
        · refine g_aload_n dX6_narrowJoined_89 rfl rfl ?_
          refine g_getr dX6_narrowJoined_90 fX6_9 rfl rfl ?_
          refine g_iload_n dX6_narrowJoined_93 rfl rfl ?_
          refine g_iald dX6_narrowJoined_94 rfl (by decide) ?_
          try simp only [Int.toNat_natCast]
          rw [hO3]
          refine g_istore_n (ls' := [some _, some _, some _]) dX6_narrowJoined_95 rfl (by decide) rfl ?_
          refine g_iload_n dX6_narrowJoined_96 rfl rfl ?_
          refine g_callSr dX6_narrowJoined_97 lX6_97 (w_X9_isPlace (by omega) (by omega)) rfl rfl (Nat.le_of_ble_eq_true rfl) ?_
          refine g_if_eqB (tgt := 135) dX6_narrowJoined_100 rfl (fun h100 => ?_) (fun h100 => ?_)
          · exfalso; omega
          · refine g_aload_n dX6_narrowJoined_103 rfl rfl ?_
            refine g_getr dX6_narrowJoined_104 fX6_15 rfl rfl ?_
            refine g_iload_n dX6_narrowJoined_107 rfl rfl ?_
            refine g_iald dX6_narrowJoined_108 rfl (by decide) ?_
            try simp only [Int.toNat_natCast]
            rw [p1]
            refine g_callSr dX6_narrowJoined_109 lX6_97 (w_X9_isPlace (by omega) (by omega)) rfl rfl (Nat.le_of_ble_eq_true rfl) ?_
            refine g_if_eqB (tgt := 135) dX6_narrowJoined_112 rfl (fun h112 => ?_) (fun h112 => ?_)
            · exfalso; omega
            · refine g_aload_n dX6_narrowJoined_115 rfl rfl ?_
              refine g_getr dX6_narrowJoined_116 fX6_18 rfl rfl ?_
              refine g_iload_n dX6_narrowJoined_119 rfl rfl ?_
              refine g_dup2 dX6_narrowJoined_120 rfl rfl ?_
              refine g_iald dX6_narrowJoined_121 rfl (by decide) ?_
              try simp only [Int.toNat_natCast]
              rw [j1]
              refine g_aload_n dX6_narrowJoined_122 rfl rfl ?_
              refine g_getr dX6_narrowJoined_123 fX6_21 rfl rfl ?_
              refine g_aload_n dX6_narrowJoined_126 rfl rfl ?_
              refine g_getr dX6_narrowJoined_127 fX6_15 rfl rfl ?_
              refine g_iload_n dX6_narrowJoined_130 rfl rfl ?_
              refine g_iald dX6_narrowJoined_131 rfl (by decide) ?_
              try simp only [Int.toNat_natCast]
              rw [p1]
              refine g_iald dX6_narrowJoined_132 rfl (by decide) ?_
              try simp only [Int.toNat_natCast]
              rw [j2]
              refine g_iand dX6_narrowJoined_133 ?_
              rw [band_nat (by omega) (by omega)]
              refine g_iast dX6_narrowJoined_134 rfl (by decide) ?_
              try simp only [Int.toNat_natCast]
              refine g_iinc (ls' := [some _, some _, some _]) dX6_narrowJoined_135 rfl rfl ?_
              refine g_goto (tgt := 75) dX6_narrowJoined_138 rfl ?_
              refine ih (i + 1) (by omega) _ _ (hF.si _ _ _) (fun p hp1 => ?_) (fun t ht => ?_)
              · rw [sil, if_neg (by omega)]; exact hro p hp1
              · rw [sil]
                have htm := take_mem hi' t
                by_cases h1 : t = ord.getD i 0
                · rw [if_pos ⟨rfl, h1⟩, if_pos (htm.mpr (Or.inr h1)), h1]
                · rw [if_neg (fun z => h1 z.2), hj t ht]
                  by_cases h2 : t ∈ ord.take i
                  · rw [if_pos h2, if_pos (htm.mpr (Or.inl h2))]
                  · rw [if_neg h2, if_neg (fun z => (htm.mp z).elim h2 h1)]
  have loop1 : ∀ n i : Nat, i + n = ord.length → ∀ (M1 : Mem) (x2 : Option AV) (f : Nat → Nat), Fr 48 50 M M1 → M1.1 48 = M.1 48 → (∀ p, p < 14 → M1.1 49 p = f p ∧ f p < 16384) → (∀ p c, (f p).testBit c = true ↔ (c ∈ ord.take i ∧ per a c = p)) → G wdC mX6_narrowJoined (d + 1) (fun v M' => v = none ∧ Fr 48 50 M M' ∧ ∀ t ∈ ord, 0 ≤ M'.1 48 t ∧ M'.1 48 t < 16384 ∧ ∀ c ∈ ord, ((M'.1 48 t).toNat.testBit c = true ↔ ((M.1 48 t).toNat.testBit c = true ∧ per a t = per a c))) 10 [some (vr 45), some (vi i), x2] [] M1 := by
    intro n
    induction n with
    | zero =>
      intro i hi M1 x2 f hF hj hf1 hf2
      have hc1 : M1.1 45 9 = ord.length := by rw [(hF 45 (Or.inl (by decide))).1]; exact hO1
      refine g_iload_n dX6_narrowJoined_10 rfl rfl ?_
      refine g_aload_n dX6_narrowJoined_11 rfl rfl ?_
      refine g_get dX6_narrowJoined_12 fX6_24 rfl rfl ?_
      refine g_icmp_ge (tgt := 73) dX6_narrowJoined_15 rfl (fun h15 => ?_) (fun h15 => ?_)
      · refine g_iconst dX6_narrowJoined_73 ?_
        refine g_istore_n (ls' := [some _, some _, _]) dX6_narrowJoined_74 rfl (by decide) rfl ?_
        exact loop2 f (fun p hp1 => (hf1 p hp1).2) (fun p c => by rw [hf2, List.take_of_length_le (by omega)]) ord.length 0 (by omega) M1 _ hF (fun p hp1 => (hf1 p hp1).1) (fun t ht => by rw [List.take_zero, if_neg List.not_mem_nil, hj])
      · exfalso; omega
    | succ n ih =>
      intro i hi M1 x2 f hF hj hf1 hf2
      have hi' : i < ord.length := by omega
      have hm := getD_mem hi'
      have hc1 : M1.1 45 9 = ord.length := by rw [(hF 45 (Or.inl (by decide))).1]; exact hO1
      have hO3 : M1.1 46 i = (ord.getD i 0 : Nat) := by rw [(hF 46 (Or.inl (by decide))).1]; exact hO2 i hi'
      have p1 : M1.1 47 (ord.getD i 0) = (per a (ord.getD i 0) : Nat) := by rw [(hF 47 (Or.inl (by decide))).1]; exact (hp _ hm).1
      have p2 := (hp _ hm).2
      have h14 := hr _ hm
      obtain ⟨j2, j3⟩ := hf1 _ p2
      have h2 : (2 : Nat) ^ (ord.getD i 0) < 16384 := Nat.lt_of_lt_of_le (Nat.pow_lt_pow_right (by decide) h14) (by decide)
      refine g_iload_n dX6_narrowJoined_10 rfl rfl ?_
      refine g_aload_n dX6_narrowJoined_11 rfl rfl ?_
      refine g_get dX6_narrowJoined_12 fX6_24 rfl rfl ?_
      refine g_icmp_ge (tgt := 73) dX6_narrowJoined_15 rfl (fun h15 => ?_) (fun h15 => ?_)
      · exfalso; omega
      · refine g_iload_n dX6_narrowJoined_18 rfl rfl ?_
        refine g_bipush dX6_narrowJoined_19 rfl ?_
        refine g_icmp_ge (tgt := 73) dX6_narrowJoined_21 rfl (fun h21 => ?_) (fun h21 => ?_)
        · exfalso; omega
        · refine g_aload_n dX6_narrowJoined_24 rfl rfl ?_
          refine g_getr dX6_narrowJoined_25 fX6_9 rfl rfl ?_
          refine g_iload_n dX6_narrowJoined_28 rfl rfl ?_
          refine g_iald dX6_narrowJoined_29 rfl (by decide) ?_
          try simp only [Int.toNat_natCast]
          rw [hO3]
          refine g_istore_n (ls' := [some _, some _, some _]) dX6_narrowJoined_30 rfl (by decide) rfl ?_
          refine g_iload_n dX6_narrowJoined_31 rfl rfl ?_
          refine g_callSr dX6_narrowJoined_32 lX6_97 (w_X9_isPlace (by omega) (by omega)) rfl rfl (Nat.le_of_ble_eq_true rfl) ?_
          refine g_if_eqB (tgt := 67) dX6_narrowJoined_35 rfl (fun h35 => ?_) (fun h35 => ?_)
          · exfalso; omega
          · refine g_aload_n dX6_narrowJoined_38 rfl rfl ?_
            refine g_getr dX6_narrowJoined_39 fX6_15 rfl rfl ?_
            refine g_iload_n dX6_narrowJoined_42 rfl rfl ?_
            refine g_iald dX6_narrowJoined_43 rfl (by decide) ?_
            try simp only [Int.toNat_natCast]
            rw [p1]
            refine g_callSr dX6_narrowJoined_44 lX6_97 (w_X9_isPlace (by omega) (by omega)) rfl rfl (Nat.le_of_ble_eq_true rfl) ?_
            refine g_if_eqB (tgt := 67) dX6_narrowJoined_47 rfl (fun h47 => ?_) (fun h47 => ?_)
            · exfalso; omega
            · refine g_aload_n dX6_narrowJoined_50 rfl rfl ?_
              refine g_getr dX6_narrowJoined_51 fX6_21 rfl rfl ?_
              refine g_aload_n dX6_narrowJoined_54 rfl rfl ?_
              refine g_getr dX6_narrowJoined_55 fX6_15 rfl rfl ?_
              refine g_iload_n dX6_narrowJoined_58 rfl rfl ?_
              refine g_iald dX6_narrowJoined_59 rfl (by decide) ?_
              try simp only [Int.toNat_natCast]
              rw [p1]
              refine g_dup2 dX6_narrowJoined_60 rfl rfl ?_
              refine g_iald dX6_narrowJoined_61 rfl (by decide) ?_
              try simp only [Int.toNat_natCast]
              rw [j2]
              refine g_iconst dX6_narrowJoined_62 ?_
              refine g_iload_n dX6_narrowJoined_63 rfl rfl ?_
              refine g_ishl dX6_narrowJoined_64 ?_
              rw [shl_1 (by omega)]
              refine g_ior dX6_narrowJoined_65 ?_
              rw [bor_nat (by omega) (by omega)]
              refine g_iast dX6_narrowJoined_66 rfl (by decide) ?_
              try simp only [Int.toNat_natCast]
              refine g_iinc (ls' := [some _, some _, some _]) dX6_narrowJoined_67 rfl rfl ?_
              refine g_goto (tgt := 10) dX6_narrowJoined_70 rfl ?_
              refine ih (i + 1) (by omega) _ _ (fun p => if p = per a (ord.getD i 0) then f (per a (ord.getD i 0)) ||| 2 ^ (ord.getD i 0) else f p) (hF.si _ _ _) (by funext t; rw [sil, if_neg (by omega), hj]) (fun p hp1 => ?_) (fun p c => ?_)
              · rw [sil]
                by_cases h1 : p = per a (ord.getD i 0)
                · rw [if_pos ⟨rfl, h1⟩, if_pos h1]
                  exact ⟨rfl, Nat.or_lt_two_pow (n := 14) j3 h2⟩
                · rw [if_neg (fun z => h1 z.2), if_neg h1]; exact hf1 p hp1
              · have htm := take_mem hi' c
                by_cases h1 : p = per a (ord.getD i 0)
                · rw [if_pos h1, Nat.testBit_or, Bool.or_eq_true, hf2, Nat.testBit_two_pow, decide_eq_true_iff, htm]
                  constructor
                  · rintro (z | z)
                    · exact ⟨Or.inl z.1, z.2.trans h1.symm⟩
                    · exact ⟨Or.inr z.symm, by rw [← z]; exact h1.symm⟩
                  · rintro ⟨z | z, z2⟩
                    · exact Or.inl ⟨z, z2.trans h1⟩
                    · exact Or.inr z.symm
                · rw [if_neg h1, hf2, htm]
                  constructor
                  · rintro ⟨z, z2⟩; exact ⟨Or.inl z, z2⟩
                  · rintro ⟨z | z, z2⟩
                    · exact ⟨z, z2⟩
                    · rw [z] at z2; exact absurd z2.symm h1
  refine g_aload_n dX6_narrowJoined_0 rfl rfl ?_
  refine g_getr dX6_narrowJoined_1 fX6_21 rfl rfl ?_
  refine g_iconst dX6_narrowJoined_4 ?_
  refine g_callS dX6_narrowJoined_5 lX6_83 (w_fill (p := 49) (n := 14) rfl (by decide)) rfl rfl (Nat.le_of_ble_eq_true rfl) ?_
  rintro v M2 ⟨rfl, q1, q2, q3⟩
  show G _ _ _ _ _ _ [] M2
  refine g_iconst dX6_narrowJoined_8 ?_
  refine g_istore_n (ls' := [some _, some _, _]) dX6_narrowJoined_9 rfl (by decide) rfl ?_
  refine loop1 ord.length 0 (by omega) M2 _ (fun _ => 0) (fun p hp1 => ⟨q2 p (by omega), by rw [q1]⟩) (q2 _ (by decide)) (fun p hp1 => ⟨q3 p hp1, by decide⟩) (fun p c => ?_)
  simp

/-- what keeping a way leaves as it was -/
def KF (b : Nat) (M M' : Mem) : Prop := (∀ p, ¬ (p = b ∨ p = b + 3 ∨ p = b + 4 ∨ p = b + 18 ∨ p = b + 19) → M'.1 p = M.1 p ∧ M'.2 p = M.2 p) ∧ M'.1 b 9 = M.1 b 9 ∧ M'.1 b 10 = M.1 b 10
theorem getD_snoc {l : List (Asg × Int)} {k : Nat} (x : Asg × Int) : (l ++ [x]).getD k ([], 0) = if k < l.length then l.getD k ([], 0) else if k = l.length then x else ([], 0) := by
  rw [List.getD_eq_getElem?_getD, List.getD_eq_getElem?_getD]
  by_cases h : k < l.length
  · rw [if_pos h, List.getElem?_append_left h]
  · rw [if_neg h, List.getElem?_append_right (by omega)]
    by_cases h2 : k = l.length
    · subst h2; simp
    · rw [if_neg h2, List.getElem?_eq_none (by simp; omega)]; rfl

theorem w_X6_keep_W {d : Nat} {M : Mem} {ord : List Nat} {a : Asg} {c : Int} {R : Res} (hO : Ord 24 M ord) (hr : ∀ o ∈ ord, o < 14) (hl : ord.length ≤ 14) (hnd : ord.Nodup) (hp : ∀ o ∈ ord, M.1 26 o = per a o ∧ per a o < 14) (hz : ∀ o, o ∉ ord → per a o = 0) (hR : RInv 24 3000 ord M R) (hc : M.1 24 10 = c) : WP wdC (d + 2) mX6_keep [vr 24] M (fun v M' => v = none ∧ KF 24 M M' ∧ RInv 24 3000 ord M' (keepR a c R)) := by
  refine wp_of (by decide +kernel) (Nat.le_of_ble_eq_true rfl) ?_
  obtain ⟨g1, g2, g3, g4, g5, g6, g7⟩ := id hR
  change M.1 24 12 = _ at g2
  refine g_aload_n dX6_keep_0 rfl rfl ?_
  refine g_get dX6_keep_1 fX6_34 rfl rfl ?_
  refine g_sipush dX6_keep_4 rfl ?_
  rw [g2]
  refine g_icmp_lt (tgt := 16) dX6_keep_7 rfl (fun h7 => ?_) (fun h7 => ?_)
  · refine g_aload_n dX6_keep_16 rfl rfl ?_
    refine g_get dX6_keep_17 fX6_34 rfl rfl ?_
    refine g_aload_n dX6_keep_20 rfl rfl ?_
    refine g_getr dX6_keep_21 fX6_67 rfl rfl ?_
    refine g_alen dX6_keep_24 rfl (Or.inr rfl) ?_
    rw [g2]
    refine g_icmp_ge (tgt := 66) dX6_keep_25 rfl (fun h25 => ?_) (fun h25 => ?_)
    · exfalso; omega
    · refine g_aload_n dX6_keep_28 rfl rfl ?_
      refine g_get dX6_keep_29 fX6_34 rfl rfl ?_
      refine g_aload_n dX6_keep_32 rfl rfl ?_
      refine g_getr dX6_keep_33 fX6_71 rfl rfl ?_
      refine g_alen dX6_keep_36 rfl (Or.inl rfl) ?_
      rw [g2]
      refine g_icmp_ge (tgt := 66) dX6_keep_37 rfl (fun h37 => ?_) (fun h37 => ?_)
      · exfalso; omega
      · refine g_aload_n dX6_keep_40 rfl rfl ?_
        refine g_getr dX6_keep_41 fX6_67 rfl rfl ?_
        refine g_aload_n dX6_keep_44 rfl rfl ?_
        refine g_get dX6_keep_45 fX6_34 rfl rfl ?_
        refine g_aload_n dX6_keep_48 rfl rfl ?_
        refine g_callV dX6_keep_49 lX6_128 (w_X6_packed_W hO hr hl hnd hp hz) rfl rfl rfl rfl (Nat.le_of_ble_eq_true rfl) ?_
        rintro v M2 ⟨hM, x, rfl, hx⟩
        rw [hM]
        clear hM M2
        show G _ _ _ _ _ _ [vl x, vi _, vr _] M
        rw [g2]
        refine g_last dX6_keep_52 rfl (by decide) ?_
        refine g_aload_n dX6_keep_53 rfl rfl ?_
        refine g_getr dX6_keep_54 fX6_71 rfl rfl ?_
        refine g_aload_n dX6_keep_57 rfl rfl ?_
        refine g_get dX6_keep_58 fX6_34 rfl rfl ?_
        try simp only [sil, sjl, Nat.reduceAdd, Nat.reduceEqDiff, eq_self, false_and, and_false, true_and, and_true, if_false, if_true, reduceIte]
        refine g_aload_n dX6_keep_61 rfl rfl ?_
        refine g_get dX6_keep_62 fX6_28 rfl rfl ?_
        try simp only [sil, sjl, Nat.reduceAdd, Nat.reduceEqDiff, eq_self, false_and, and_false, true_and, and_true, if_false, if_true, reduceIte]
        rw [g2, hc]
        refine g_iast dX6_keep_65 rfl (by decide) ?_
        simp only [Int.toNat_natCast]
        refine g_aload_n dX6_keep_66 rfl rfl ?_
        refine g_dup dX6_keep_67 rfl ?_
        refine g_get dX6_keep_68 fX6_34 rfl rfl ?_
        try simp only [sil, sjl, Nat.reduceAdd, Nat.reduceEqDiff, eq_self, false_and, and_false, true_and, and_true, if_false, if_true, reduceIte]
        refine g_iconst dX6_keep_71 ?_
        try rw [g2]
        refine g_iadd dX6_keep_72 ?_
        refine g_puti dX6_keep_73 fX6_34 rfl rfl rfl (tyX6_ok 12 (by decide)) ?_
        try simp only [Int.toNat_natCast]
        refine g_aload_n dX6_keep_76 rfl rfl ?_
        refine g_callV dX6_keep_77 lX6_132 (w_X6_narrow_W (M := si (si (sj M 42 R.2.1.length x) 43 R.2.1.length c) 24 12 (R.2.1.length + 1)) (ord := ord) (a := a) hO hr hl hnd hp (fun t ht => ⟨(g7 t ht).1, (g7 t ht).2.1⟩)) rfl rfl rfl rfl (Nat.le_of_ble_eq_true rfl) ?_
        rintro v M3 ⟨rfl, hF, hjn⟩
        show G _ _ _ _ _ _ [] M3
        refine g_vret dX6_keep_80 rfl ?_
        have hMM : ∀ p, ¬ (p = 24 ∨ p = 24 + 3 ∨ p = 24 + 4 ∨ p = 24 + 18 ∨ p = 24 + 19) → (si (si (sj M 42 R.2.1.length x) 43 R.2.1.length c) 24 12 (R.2.1.length + 1)).1 p = M.1 p ∧ (si (si (sj M 42 R.2.1.length x) 43 R.2.1.length c) 24 12 (R.2.1.length + 1)).2 p = M.2 p := fun p hp1 => ⟨by rw [si_1 _ _ _ _ _ (by omega), si_1 _ _ _ _ _ (by omega)]; rfl, by rw [si_J, si_J, sj_2 _ _ _ _ _ (by omega)]⟩
        have hMw : ∀ k, (si (si (sj M 42 R.2.1.length x) 43 R.2.1.length c) 24 12 (R.2.1.length + 1)).2 42 k = if k = R.2.1.length then x else M.2 42 k := fun k => by simp [si, sj]
        have hMc : ∀ k, (si (si (sj M 42 R.2.1.length x) 43 R.2.1.length c) 24 12 (R.2.1.length + 1)).1 43 k = if k = R.2.1.length then c else M.1 43 k := fun k => by simp [si, sj]
        have hM9 : (si (si (sj M 42 R.2.1.length x) 43 R.2.1.length c) 24 12 (R.2.1.length + 1)).1 24 9 = M.1 24 9 := rfl
        have hM10 : (si (si (sj M 42 R.2.1.length x) 43 R.2.1.length c) 24 12 (R.2.1.length + 1)).1 24 10 = M.1 24 10 := rfl
        have hM11 : (si (si (sj M 42 R.2.1.length x) 43 R.2.1.length c) 24 12 (R.2.1.length + 1)).1 24 11 = R.1 := g1
        have hM12 : (si (si (sj M 42 R.2.1.length x) 43 R.2.1.length c) 24 12 (R.2.1.length + 1)).1 24 12 = R.2.1.length + 1 := rfl
        have hM13 : (si (si (sj M 42 R.2.1.length x) 43 R.2.1.length c) 24 12 (R.2.1.length + 1)).1 24 13 = if R.2.2 = true then 1 else 0 := g3
        have hMj : (si (si (sj M 42 R.2.1.length x) 43 R.2.1.length c) 24 12 (R.2.1.length + 1)).1 27 = M.1 27 := rfl
        generalize (si (si (sj M 42 R.2.1.length x) 43 R.2.1.length c) 24 12 (R.2.1.length + 1)) = M2 at *
        refine ⟨rfl, ⟨fun p hp1 => ?_, ?_, ?_⟩, ?_⟩
        · have g := hF p (by omega)
          rw [g.1, g.2]
          exact hMM p hp1
        · rw [(hF 24 (Or.inl (by decide))).1]; exact hM9
        · rw [(hF 24 (Or.inl (by decide))).1]; exact hM10
        · have e : keepR a c R = (R.1, R.2.1 ++ [(a, c)], R.2.2) := by unfold keepR; rw [if_neg (by omega)]
          rw [e]
          refine ⟨?_, ?_, ?_, g4, ?_, fun k hk hr1 => ?_, fun t ht => ?_⟩
          · rw [(hF 24 (Or.inl (by decide))).1]; exact hM11
          · rw [(hF 24 (Or.inl (by decide))).1, hM12]; simp
          · rw [(hF 24 (Or.inl (by decide))).1]; exact hM13
          · simp; omega
          · have hk : k < R.2.1.length + 1 := by simpa using hk
            rw [getD_snoc, (hF (24 + 18) (Or.inr (by decide))).2, (hF (24 + 19) (Or.inr (by decide))).1]
            rw [show M2.2 (24 + 18) k = _ from hMw k, show M2.1 (24 + 19) k = _ from hMc k]
            by_cases h1 : k < R.2.1.length
            · rw [if_pos h1, if_neg (by omega), if_neg (by omega)]
              exact g6 k h1 hr1
            · rw [if_neg h1, if_pos (by omega), if_pos (by omega), if_pos (by omega)]
              exact ⟨hx, rfl⟩
          · obtain ⟨z1, z2, z3⟩ := hjn t ht
            refine ⟨z1, z2, fun c' hc' => ?_⟩
            rw [show M3.1 (24 + 3) t = M3.1 27 t from rfl, z3 c' hc', hMj, (g7 t ht).2.2 c' hc']
            constructor
            · rintro ⟨y1, y2⟩ w hw
              rcases List.mem_append.mp hw with h | h
              · exact y1 w h
              · rw [List.mem_singleton] at h; subst h; exact y2
            · intro y
              exact ⟨fun w hw => y w (List.mem_append_left _ hw), y (a, c) (List.mem_append_right _ List.mem_cons_self)⟩
  · refine g_aload_n dX6_keep_10 rfl rfl ?_
    refine g_iconst dX6_keep_11 ?_
    refine g_putz dX6_keep_12 fX6_37 rfl rfl rfl (tyX6_ok 13 (by decide)) ?_
    refine g_vret dX6_keep_15 rfl ?_
    refine ⟨rfl, ⟨fun p hp1 => ⟨si_1 _ _ _ _ _ (by omega), rfl⟩, rfl, rfl⟩, ?_⟩
    have e : keepR a c R = (R.1, R.2.1, true) := by unfold keepR; rw [if_pos (by omega)]
    rw [e]
    refine ⟨g1, g2, rfl, g4, g5, fun k hk hr1 => g6 k hk hr1, fun t ht => ?_⟩
    exact g7 t ht

theorem w_X6_keep_V {d : Nat} {M : Mem} {ord : List Nat} {a : Asg} {c : Int} {R : Res} (hO : Ord 45 M ord) (hr : ∀ o ∈ ord, o < 14) (hl : ord.length ≤ 14) (hnd : ord.Nodup) (hp : ∀ o ∈ ord, M.1 47 o = per a o ∧ per a o < 14) (hz : ∀ o, o ∉ ord → per a o = 0) (hR : RInv 45 0 ord M R) (hc : M.1 45 10 = c) : WP wdC (d + 2) mX6_keep [vr 45] M (fun v M' => v = none ∧ KF 45 M M' ∧ RInv 45 0 ord M' (keepR a c R)) := by
  refine wp_of (by decide +kernel) (Nat.le_of_ble_eq_true rfl) ?_
  obtain ⟨g1, g2, g3, g4, g5, g6, g7⟩ := id hR
  change M.1 45 12 = _ at g2
  refine g_aload_n dX6_keep_0 rfl rfl ?_
  refine g_get dX6_keep_1 fX6_34 rfl rfl ?_
  refine g_sipush dX6_keep_4 rfl ?_
  rw [g2]
  refine g_icmp_lt (tgt := 16) dX6_keep_7 rfl (fun h7 => ?_) (fun h7 => ?_)
  · refine g_aload_n dX6_keep_16 rfl rfl ?_
    refine g_get dX6_keep_17 fX6_34 rfl rfl ?_
    refine g_aload_n dX6_keep_20 rfl rfl ?_
    refine g_getr dX6_keep_21 fX6_67 rfl rfl ?_
    refine g_alen dX6_keep_24 rfl (Or.inr rfl) ?_
    rw [g2]
    refine g_icmp_ge (tgt := 66) dX6_keep_25 rfl (fun h25 => ?_) (fun h25 => ?_)
    · refine g_aload_n dX6_keep_66 rfl rfl ?_
      refine g_dup dX6_keep_67 rfl ?_
      refine g_get dX6_keep_68 fX6_34 rfl rfl ?_
      refine g_iconst dX6_keep_71 ?_
      rw [g2]
      refine g_iadd dX6_keep_72 ?_
      refine g_puti dX6_keep_73 fX6_34 rfl rfl rfl (tyX6_ok 12 (by decide)) ?_
      refine g_aload_n dX6_keep_76 rfl rfl ?_
      refine g_callV dX6_keep_77 lX6_132 (w_X6_narrow_V (M := si M 45 12 (R.2.1.length + 1)) (ord := ord) (a := a) hO hr hl hnd hp (fun t ht => ⟨(g7 t ht).1, (g7 t ht).2.1⟩)) rfl rfl rfl rfl (Nat.le_of_ble_eq_true rfl) ?_
      rintro v M3 ⟨rfl, hF, hjn⟩
      show G _ _ _ _ _ _ [] M3
      refine g_vret dX6_keep_80 rfl ?_
      have hMM : ∀ p, ¬ (p = 45 ∨ p = 45 + 3 ∨ p = 45 + 4 ∨ p = 45 + 18 ∨ p = 45 + 19) → (si M 45 12 (R.2.1.length + 1)).1 p = M.1 p ∧ (si M 45 12 (R.2.1.length + 1)).2 p = M.2 p := fun p hp1 => ⟨by rw [si_1 _ _ _ _ _ (by omega)], rfl⟩
      have hM9 : (si M 45 12 (R.2.1.length + 1)).1 45 9 = M.1 45 9 := rfl
      have hM10 : (si M 45 12 (R.2.1.length + 1)).1 45 10 = M.1 45 10 := rfl
      have hM11 : (si M 45 12 (R.2.1.length + 1)).1 45 11 = R.1 := g1
      have hM12 : (si M 45 12 (R.2.1.length + 1)).1 45 12 = R.2.1.length + 1 := rfl
      have hM13 : (si M 45 12 (R.2.1.length + 1)).1 45 13 = if R.2.2 = true then 1 else 0 := g3
      have hMj : (si M 45 12 (R.2.1.length + 1)).1 48 = M.1 48 := rfl
      generalize (si M 45 12 (R.2.1.length + 1)) = M2 at *
      refine ⟨rfl, ⟨fun p hp1 => ?_, ?_, ?_⟩, ?_⟩
      · have g := hF p (by omega)
        rw [g.1, g.2]
        exact hMM p hp1
      · rw [(hF 45 (Or.inl (by decide))).1]; exact hM9
      · rw [(hF 45 (Or.inl (by decide))).1]; exact hM10
      · have e : keepR a c R = (R.1, R.2.1 ++ [(a, c)], R.2.2) := by unfold keepR; rw [if_neg (by omega)]
        rw [e]
        refine ⟨?_, ?_, ?_, g4, ?_, fun k hk hr1 => ?_, fun t ht => ?_⟩
        · rw [(hF 45 (Or.inl (by decide))).1]; exact hM11
        · rw [(hF 45 (Or.inl (by decide))).1, hM12]; simp
        · rw [(hF 45 (Or.inl (by decide))).1]; exact hM13
        · simp; omega
        · exact absurd hr1 (by omega)
        · obtain ⟨z1, z2, z3⟩ := hjn t ht
          refine ⟨z1, z2, fun c' hc' => ?_⟩
          rw [show M3.1 (45 + 3) t = M3.1 48 t from rfl, z3 c' hc', hMj, (g7 t ht).2.2 c' hc']
          constructor
          · rintro ⟨y1, y2⟩ w hw
            rcases List.mem_append.mp hw with h | h
            · exact y1 w h
            · rw [List.mem_singleton] at h; subst h; exact y2
          · intro y
            exact ⟨fun w hw => y w (List.mem_append_left _ hw), y (a, c) (List.mem_append_right _ List.mem_cons_self)⟩
    · exfalso; omega
  · refine g_aload_n dX6_keep_10 rfl rfl ?_
    refine g_iconst dX6_keep_11 ?_
    refine g_putz dX6_keep_12 fX6_37 rfl rfl rfl (tyX6_ok 13 (by decide)) ?_
    refine g_vret dX6_keep_15 rfl ?_
    refine ⟨rfl, ⟨fun p hp1 => ⟨si_1 _ _ _ _ _ (by omega), rfl⟩, rfl, rfl⟩, ?_⟩
    have e : keepR a c R = (R.1, R.2.1, true) := by unfold keepR; rw [if_pos (by omega)]
    rw [e]
    refine ⟨g1, g2, rfl, g4, g5, fun k hk hr1 => g6 k hk hr1, fun t ht => ?_⟩
    exact g7 t ht

