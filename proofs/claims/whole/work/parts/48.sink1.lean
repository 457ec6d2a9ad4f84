/-! MODULE 44: the reference asks each way for a link. -/
def lk (A : Int) : Asg → Int → Int
  | [], v => v
  | x :: r, v => lk A r (if (x.1 : Int) = A then x.2 else v)
abbrev lkd (a : Asg) (A B : Int) : Prop := 0 ≤ lk A a (-1) ∧ lk A a (-1) = lk B a (-1)
theorem w_X10_comes1 {d : Nat} {M : Mem} {a : Asg} {A B : Int} (hA : M.1 0 32 = A) (hB : M.1 0 33 = B) (hA1 : -1 ≤ A ∧ A < 14) (hB1 : -1 ≤ B ∧ B < 14) (hl : a.length ≤ 14) (hm : M.1 0 28 = a.length) (hax : ∀ x ∈ a, x.1 < 14 ∧ x.2 < 15) (hrow : RowI M 0 a) (h34 : M.1 0 34 = 0 ∨ M.1 0 34 = 1) (hf : 0 ≤ M.1 0 30 ∧ M.1 0 30 < 3000) : WP wdM d mX10_comes [vr 0, vi 1] M (Ret none (si (si M 0 34 (bi (M.1 0 34 = 1 ∧ lkd a A B))) 0 30 (M.1 0 30 + 1))) := by
  refine wp_of (by decide +kernel) (Nat.le_of_ble_eq_true rfl) ?_
  have loop : ∀ (suf : Asg) (i : Nat), i + suf.length = a.length → (∀ x ∈ suf, x.1 < 14 ∧ x.2 < 15) → RowI M i suf → ∀ u v : Int, -1 ≤ u → u < 15 → -1 ≤ v → v < 15 → lk A suf u = lk A a (-1) → lk B suf v = lk B a (-1) → G wdM mX10_comes d (Ret none (si (si M 0 34 (bi (M.1 0 34 = 1 ∧ lkd a A B))) 0 30 (M.1 0 30 + 1))) 12 [some (vr 0), some (vi 1), some (vi u), some (vi v), some (vi i)] [] M := by
    intro suf
    induction suf with
    | nil =>
      intro i hi hx hrw u v u1 u2 v1 v2 hu hv
      have hi : i = a.length := hi
      subst hi
      have hu : u = lk A a (-1) := hu
      have hv : v = lk B a (-1) := hv
      refine g_iload dX10_comes_12 rfl ?_
      refine g_aload_n dX10_comes_14 rfl rfl ?_
      refine g_get dX10_comes_15 fX10_173 rfl rfl ?_
      rw [hm]
      refine g_icmp_ge (tgt := 71) dX10_comes_18 rfl (fun h18 => ?_) (fun h18 => ?_)
      · refine g_aload_n dX10_comes_71 rfl rfl ?_
        refine g_aload_n dX10_comes_72 rfl rfl ?_
        refine g_get dX10_comes_73 fX10_182 rfl rfl ?_
        refine g_if_eq (tgt := 92) dX10_comes_76 rfl (fun h76 => ?_) (fun h76 => ?_)
        · refine g_iconst dX10_comes_92 ?_
          refine g_putz dX10_comes_93 fX10_182 rfl rfl rfl (tyX10_ok 34 (by decide)) ?_
          refine g_goto (tgt := 154) dX10_comes_96 rfl ?_
          refine g_aload_n dX10_comes_154 rfl rfl ?_
          refine g_dup dX10_comes_155 rfl ?_
          refine g_get dX10_comes_156 fX10_185 rfl rfl ?_
          try simp only [sil, sjl, Nat.reduceAdd, Nat.reduceEqDiff, eq_self, false_and, and_false, true_and, and_true, if_false, if_true, reduceIte]
          refine g_iconst dX10_comes_159 ?_
          refine g_iadd dX10_comes_160 ?_
          refine g_puti dX10_comes_161 fX10_185 rfl rfl rfl (tyX10_ok 30 (by decide)) ?_
          refine g_vret dX10_comes_164 rfl ?_
          first
          | (rw [bi_t ⟨by omega, by omega, by omega⟩]; exact ⟨rfl, rfl⟩)
          | (rw [bi_f (fun z => by have z1 := z.1; have z2 := z.2.1; have z3 := z.2.2; omega)]; exact ⟨rfl, rfl⟩)
        · refine g_iload_n dX10_comes_79 rfl rfl ?_
          refine g_if_lt (tgt := 92) dX10_comes_80 rfl (fun h80 => ?_) (fun h80 => ?_)
          · refine g_iconst dX10_comes_92 ?_
            refine g_putz dX10_comes_93 fX10_182 rfl rfl rfl (tyX10_ok 34 (by decide)) ?_
            refine g_goto (tgt := 154) dX10_comes_96 rfl ?_
            refine g_aload_n dX10_comes_154 rfl rfl ?_
            refine g_dup dX10_comes_155 rfl ?_
            refine g_get dX10_comes_156 fX10_185 rfl rfl ?_
            try simp only [sil, sjl, Nat.reduceAdd, Nat.reduceEqDiff, eq_self, false_and, and_false, true_and, and_true, if_false, if_true, reduceIte]
            refine g_iconst dX10_comes_159 ?_
            refine g_iadd dX10_comes_160 ?_
            refine g_puti dX10_comes_161 fX10_185 rfl rfl rfl (tyX10_ok 30 (by decide)) ?_
            refine g_vret dX10_comes_164 rfl ?_
            first
            | (rw [bi_t ⟨by omega, by omega, by omega⟩]; exact ⟨rfl, rfl⟩)
            | (rw [bi_f (fun z => by have z1 := z.1; have z2 := z.2.1; have z3 := z.2.2; omega)]; exact ⟨rfl, rfl⟩)
          · refine g_iload_n dX10_comes_83 rfl rfl ?_
            refine g_iload_n dX10_comes_84 rfl rfl ?_
            refine g_icmp_ne (tgt := 92) dX10_comes_85 rfl (fun h85 => ?_) (fun h85 => ?_)
            · refine g_iconst dX10_comes_92 ?_
              refine g_putz dX10_comes_93 fX10_182 rfl rfl rfl (tyX10_ok 34 (by decide)) ?_
              refine g_goto (tgt := 154) dX10_comes_96 rfl ?_
              refine g_aload_n dX10_comes_154 rfl rfl ?_
              refine g_dup dX10_comes_155 rfl ?_
              refine g_get dX10_comes_156 fX10_185 rfl rfl ?_
              try simp only [sil, sjl, Nat.reduceAdd, Nat.reduceEqDiff, eq_self, false_and, and_false, true_and, and_true, if_false, if_true, reduceIte]
              refine g_iconst dX10_comes_159 ?_
              refine g_iadd dX10_comes_160 ?_
              refine g_puti dX10_comes_161 fX10_185 rfl rfl rfl (tyX10_ok 30 (by decide)) ?_
              refine g_vret dX10_comes_164 rfl ?_
              first
              | (rw [bi_t ⟨by omega, by omega, by omega⟩]; exact ⟨rfl, rfl⟩)
              | (rw [bi_f (fun z => by have z1 := z.1; have z2 := z.2.1; have z3 := z.2.2; omega)]; exact ⟨rfl, rfl⟩)
            · refine g_iconst dX10_comes_88 ?_
              refine g_goto (tgt := 93) dX10_comes_89 rfl ?_
              refine g_putz dX10_comes_93 fX10_182 rfl rfl rfl (tyX10_ok 34 (by decide)) ?_
              refine g_goto (tgt := 154) dX10_comes_96 rfl ?_
              refine g_aload_n dX10_comes_154 rfl rfl ?_
              refine g_dup dX10_comes_155 rfl ?_
              refine g_get dX10_comes_156 fX10_185 rfl rfl ?_
              try simp only [sil, sjl, Nat.reduceAdd, Nat.reduceEqDiff, eq_self, false_and, and_false, true_and, and_true, if_false, if_true, reduceIte]
              refine g_iconst dX10_comes_159 ?_
              refine g_iadd dX10_comes_160 ?_
              refine g_puti dX10_comes_161 fX10_185 rfl rfl rfl (tyX10_ok 30 (by decide)) ?_
              refine g_vret dX10_comes_164 rfl ?_
              first
              | (rw [bi_t ⟨by omega, by omega, by omega⟩]; exact ⟨rfl, rfl⟩)
              | (rw [bi_f (fun z => by have z1 := z.1; have z2 := z.2.1; have z3 := z.2.2; omega)]; exact ⟨rfl, rfl⟩)
      · exfalso; omega
    | cons x suf ih =>
      intro i hi hx hrw u v u1 u2 v1 v2 hu hv
      obtain ⟨p, qq⟩ := x
      obtain ⟨hp1, hqq⟩ := hx _ List.mem_cons_self
      have hx' := fun y hy => hx y (List.mem_cons_of_mem _ hy)
      obtain ⟨r1, r2, r3⟩ := hrw
      have hp1 : p < 14 := hp1
      have hqq : qq < 15 := hqq
      have r1 : M.1 15 i = p := r1
      have r2 : M.1 16 i = qq := r2
      have hil : i + (suf.length + 1) = a.length := hi
      have hu : lk A suf (if (p : Int) = A then (qq : Int) else u) = lk A a (-1) := hu
      have hv : lk B suf (if (p : Int) = B then (qq : Int) else v) = lk B a (-1) := hv
      refine g_iload dX10_comes_12 rfl ?_
      refine g_aload_n dX10_comes_14 rfl rfl ?_
      refine g_get dX10_comes_15 fX10_173 rfl rfl ?_
      rw [hm]
      refine g_icmp_ge (tgt := 71) dX10_comes_18 rfl (fun h18 => ?_) (fun h18 => ?_)
      · exfalso; omega
      · refine g_aload_n dX10_comes_21 rfl rfl ?_
        refine g_getr dX10_comes_22 fX10_70 rfl rfl ?_
        refine g_iload dX10_comes_25 rfl ?_
        refine g_iald dX10_comes_27 rfl (by decide) ?_
        try simp only [Int.toNat_natCast]
        rw [r1]
        refine g_aload_n dX10_comes_28 rfl rfl ?_
        refine g_get dX10_comes_29 fX10_176 rfl rfl ?_
        rw [hA]
        refine g_icmp_ne (tgt := 43) dX10_comes_32 rfl (fun h32 => ?_) (fun h32 => ?_)
        · refine g_aload_n dX10_comes_43 rfl rfl ?_
          refine g_getr dX10_comes_44 fX10_70 rfl rfl ?_
          refine g_iload dX10_comes_47 rfl ?_
          refine g_iald dX10_comes_49 rfl (by decide) ?_
          try simp only [Int.toNat_natCast]
          rw [r1]
          refine g_aload_n dX10_comes_50 rfl rfl ?_
          refine g_get dX10_comes_51 fX10_179 rfl rfl ?_
          rw [hB]
          refine g_icmp_ne (tgt := 65) dX10_comes_54 rfl (fun h54 => ?_) (fun h54 => ?_)
          · refine g_iinc (ls' := [some _, some _, some _, some _, some _]) dX10_comes_65 rfl rfl ?_
            refine g_goto (tgt := 12) dX10_comes_68 rfl ?_
            first
            | (rw [if_neg (by omega)] at hu
               first
               | (rw [if_neg (by omega)] at hv; exact ih (i + 1) (by omega) hx' r3 _ _ u1 u2 v1 v2 hu hv)
               | (rw [if_pos (by omega)] at hv; exact ih (i + 1) (by omega) hx' r3 _ _ u1 u2 (by omega) (by omega) hu hv))
            | (rw [if_pos (by omega)] at hu
               first
               | (rw [if_neg (by omega)] at hv; exact ih (i + 1) (by omega) hx' r3 _ _ (by omega) (by omega) v1 v2 hu hv)
               | (rw [if_pos (by omega)] at hv; exact ih (i + 1) (by omega) hx' r3 _ _ (by omega) (by omega) (by omega) (by omega) hu hv))
          · refine g_aload_n dX10_comes_57 rfl rfl ?_
            refine g_getr dX10_comes_58 fX10_73 rfl rfl ?_
            refine g_iload dX10_comes_61 rfl ?_
            refine g_iald dX10_comes_63 rfl (by decide) ?_
            try simp only [Int.toNat_natCast]
            rw [r2]
            refine g_istore_n (ls' := [some _, some _, some _, some _, some _]) dX10_comes_64 rfl (by decide) rfl ?_
            refine g_iinc (ls' := [some _, some _, some _, some _, some _]) dX10_comes_65 rfl rfl ?_
            refine g_goto (tgt := 12) dX10_comes_68 rfl ?_
            first
            | (rw [if_neg (by omega)] at hu
               first
               | (rw [if_neg (by omega)] at hv; exact ih (i + 1) (by omega) hx' r3 _ _ u1 u2 v1 v2 hu hv)
               | (rw [if_pos (by omega)] at hv; exact ih (i + 1) (by omega) hx' r3 _ _ u1 u2 (by omega) (by omega) hu hv))
            | (rw [if_pos (by omega)] at hu
               first
               | (rw [if_neg (by omega)] at hv; exact ih (i + 1) (by omega) hx' r3 _ _ (by omega) (by omega) v1 v2 hu hv)
               | (rw [if_pos (by omega)] at hv; exact ih (i + 1) (by omega) hx' r3 _ _ (by omega) (by omega) (by omega) (by omega) hu hv))
        · refine g_aload_n dX10_comes_35 rfl rfl ?_
          refine g_getr dX10_comes_36 fX10_73 rfl rfl ?_
          refine g_iload dX10_comes_39 rfl ?_
          refine g_iald dX10_comes_41 rfl (by decide) ?_
          try simp only [Int.toNat_natCast]
          rw [r2]
          refine g_istore_n (ls' := [some _, some _, some _, some _, some _]) dX10_comes_42 rfl (by decide) rfl ?_
          refine g_aload_n dX10_comes_43 rfl rfl ?_
          refine g_getr dX10_comes_44 fX10_70 rfl rfl ?_
          refine g_iload dX10_comes_47 rfl ?_
          refine g_iald dX10_comes_49 rfl (by decide) ?_
          try simp only [Int.toNat_natCast]
          rw [r1]
          refine g_aload_n dX10_comes_50 rfl rfl ?_
          refine g_get dX10_comes_51 fX10_179 rfl rfl ?_
          rw [hB]
          refine g_icmp_ne (tgt := 65) dX10_comes_54 rfl (fun h54 => ?_) (fun h54 => ?_)
          · refine g_iinc (ls' := [some _, some _, some _, some _, some _]) dX10_comes_65 rfl rfl ?_
            refine g_goto (tgt := 12) dX10_comes_68 rfl ?_
            first
            | (rw [if_neg (by omega)] at hu
               first
               | (rw [if_neg (by omega)] at hv; exact ih (i + 1) (by omega) hx' r3 _ _ u1 u2 v1 v2 hu hv)
               | (rw [if_pos (by omega)] at hv; exact ih (i + 1) (by omega) hx' r3 _ _ u1 u2 (by omega) (by omega) hu hv))
            | (rw [if_pos (by omega)] at hu
               first
               | (rw [if_neg (by omega)] at hv; exact ih (i + 1) (by omega) hx' r3 _ _ (by omega) (by omega) v1 v2 hu hv)
               | (rw [if_pos (by omega)] at hv; exact ih (i + 1) (by omega) hx' r3 _ _ (by omega) (by omega) (by omega) (by omega) hu hv))
          · refine g_aload_n dX10_comes_57 rfl rfl ?_
            refine g_getr dX10_comes_58 fX10_73 rfl rfl ?_
            refine g_iload dX10_comes_61 rfl ?_
            refine g_iald dX10_comes_63 rfl (by decide) ?_
            try simp only [Int.toNat_natCast]
            rw [r2]
            refine g_istore_n (ls' := [some _, some _, some _, some _, some _]) dX10_comes_64 rfl (by decide) rfl ?_
            refine g_iinc (ls' := [some _, some _, some _, some _, some _]) dX10_comes_65 rfl rfl ?_
            refine g_goto (tgt := 12) dX10_comes_68 rfl ?_
            first
            | (rw [if_neg (by omega)] at hu
               first
               | (rw [if_neg (by omega)] at hv; exact ih (i + 1) (by omega) hx' r3 _ _ u1 u2 v1 v2 hu hv)
               | (rw [if_pos (by omega)] at hv; exact ih (i + 1) (by omega) hx' r3 _ _ u1 u2 (by omega) (by omega) hu hv))
            | (rw [if_pos (by omega)] at hu
               first
               | (rw [if_neg (by omega)] at hv; exact ih (i + 1) (by omega) hx' r3 _ _ (by omega) (by omega) v1 v2 hu hv)
               | (rw [if_pos (by omega)] at hv; exact ih (i + 1) (by omega) hx' r3 _ _ (by omega) (by omega) (by omega) (by omega) hu hv))
  refine g_iload_n dX10_comes_0 rfl rfl ?_
  refine g_iconst dX10_comes_1 ?_
  refine g_icmp_ne (tgt := 99) dX10_comes_2 rfl (fun h2 => absurd (by decide) h2) (fun _ => ?_)
  refine g_iconst dX10_comes_5 ?_
  refine g_istore_n (ls' := [some _, some _, some _, _, _]) dX10_comes_6 rfl (by decide) rfl ?_
  refine g_iconst dX10_comes_7 ?_
  refine g_istore_n (ls' := [some _, some _, some _, some _, _]) dX10_comes_8 rfl (by decide) rfl ?_
  refine g_iconst dX10_comes_9 ?_
  refine g_istore (ls' := [some _, some _, some _, some _, some _]) dX10_comes_10 (by decide) rfl ?_
  exact loop a 0 (by omega) hax hrow _ _ (by omega) (by omega) (by omega) (by omega) rfl rfl

def SK1 (A B : Int) (M : Mem) (R : Res) : Prop := SKb M R ∧ M.1 0 32 = A ∧ M.1 0 33 = B ∧ (M.1 0 34 = 0 ∨ M.1 0 34 = 1) ∧ (M.1 0 34 = 1 ↔ ∀ w ∈ R.2.1, lkd w.1 A B)
theorem sink1 {D : Mem} (hw : Wf D) {ord : List Nat} (hO : OrdOK D ord) {A B : Int} (hA1 : -1 ≤ A ∧ A < 14) (hB1 : -1 ≤ B ∧ B < 14) : SinkOK 1 ord (SK1 A B) := by
  refine ⟨fun M R h => ⟨h.1.1, h.1.2.1, h.1.2.2.1, h.1.2.2.2.1⟩, fun M M1 R h h0 h1 h2 => ⟨h.1.eq h0, ?_⟩, fun M R h hl => ⟨h.1.try hl, ?_⟩, fun M R h => ⟨h.1.spent, ?_⟩, fun d M R a c h hlt hrow hao hax hm hca hc0 hc1 => ?_⟩
  · rw [h0]; exact h.2
  · rw [sil, if_neg (by omega), sil, if_neg (by omega), sil, if_neg (by omega)]; exact h.2
  · rw [sil, if_neg (by omega), sil, if_neg (by omega), sil, if_neg (by omega)]; exact h.2
  · have hl := ord_len hw hO
    have hla : a.length = ord.length := by rw [← hao]; simp
    have hN := hw.1.2.2.2
    obtain ⟨⟨h1, h2, h3, h4, h5⟩, h6, h7, h8, h9⟩ := id h
    refine wp_mono ?_ (w_X10_comes1 (a := a) h6 h7 hA1 hB1 (by omega) hm (fun x hx => ⟨?_, hax x hx⟩) hrow h8 (by omega))
    · rintro v M' ⟨rfl, rfl⟩
      refine ⟨rfl, ⟨⟨?_, ?_, h3, ?_, ?_⟩, ?_, ?_, ?_, ?_⟩, (SFr.rf.si _ _ _).si _ _ _, (OldS.rf.si _ _ _).si _ _ _, ?_⟩
      · rw [sil, if_neg (by omega), sil, if_neg (by omega)]; exact h1
      · rw [sil, if_pos ⟨rfl, rfl⟩, h2]; simp
      · simp; omega
      · rw [sil, if_neg (by omega), sil, if_neg (by omega)]; exact h5
      · rw [sil, if_neg (by omega), sil, if_neg (by omega)]; exact h6
      · rw [sil, if_neg (by omega), sil, if_neg (by omega)]; exact h7
      · rw [sil, if_neg (by omega), sil, if_pos ⟨rfl, rfl⟩]; exact bi_01 _
      · rw [sil, if_neg (by omega), sil, if_pos ⟨rfl, rfl⟩]
        have e : (bi (M.1 0 34 = 1 ∧ lkd a A B) = 1) ↔ (M.1 0 34 = 1 ∧ lkd a A B) := by
          by_cases hz : M.1 0 34 = 1 ∧ lkd a A B
          · rw [bi_t hz]; exact ⟨fun _ => hz, fun _ => rfl⟩
          · rw [bi_f hz]; exact ⟨fun q => absurd q (by decide), fun q => absurd q hz⟩
        rw [e, h9]
        show _ ↔ ∀ w ∈ R.2.1 ++ [(a, c)], lkd w.1 A B
        constructor
        · rintro ⟨z1, z2⟩ w hw2
          rcases List.mem_append.mp hw2 with hw2 | hw2
          · exact z1 w hw2
          · rw [List.mem_singleton] at hw2
            rw [hw2]; exact z2
        · intro z
          exact ⟨fun w hw2 => z w (List.mem_append.mpr (Or.inl hw2)), z (a, c) (List.mem_append.mpr (Or.inr (List.mem_singleton.mpr rfl)))⟩
      · rw [si_1 _ _ _ _ _ (by decide), si_1 _ _ _ _ _ (by decide)]
    · have hxo : x.1 ∈ ord := by rw [← hao]; exact List.mem_map.mpr ⟨x, hx, rfl⟩
      have := hO.1 _ hxo
      omega

