/-! MODULE 30: whether a role can be a person's (reference). -/
def canM (D : Mem) (o q : Nat) : Asg → Int × Int × Int → Option (Int × Int × Int)
  | [], s => some s
  | x :: r, s => if x.2 = q then (if oneF D o x.1 then canM D o q r (max (eF D x.1) s.1, min (lF D x.1) s.2.1, if D.1 10 o < 0 ∧ D.1 10 x.1 < 0 then s.2.2 + apF D o x.1 else s.2.2) else none) else canM D o q r s
def RowI (M : Mem) : Nat → Asg → Prop
  | _, [] => True
  | i, x :: r => M.1 15 i = x.1 ∧ M.1 16 i = x.2 ∧ RowI M (i + 1) r
def canPost (bud : Int) (M : Mem) (k : Nat) (R : Option (Int × Int × Int)) (v : Option AV) (M' : Mem) : Prop := match R with
  | none => v = some (vi 0) ∧ M' = M
  | some s => v = some (vi (bi (s.1 ≤ s.2.1 ∧ s.2.2 ≤ bud))) ∧ M' = si M 17 (k + 1) s.2.2
def FarD (D M : Mem) : Prop := ∀ a b : Nat, (a : Int) < D.1 1 11 → (b : Int) < D.1 1 11 → M.1 10 (14 * a + b) = apF D a b
theorem eF_r {D : Mem} (hw : Wf D) {o : Nat} (ho : (o : Int) < D.1 1 11) : -10000 ≤ eF D o ∧ eF D o ≤ 10000 ∧ -10000 ≤ lF D o ∧ lF D o ≤ 10000 := by
  obtain ⟨⟨m1, m2, m3, m4, m5, m6, m7, m8, m9, m10⟩, m11, m12⟩ := hw.2.2.2.2.2.2
  obtain ⟨v1, v2, v3, v4, v5, v6, v7, v8, v9⟩ := hw.2.2.2.2.2.1 o ho
  have h1 : -10000 ≤ eF D o ∧ eF D o ≤ 10000 := by
    unfold eF ebF
    split
    · omega
    · split
      · omega
      · split
        · omega
        · split
          · split <;> omega
          · split
            · split <;> omega
            · omega
  have h2 : -10000 ≤ lF D o ∧ lF D o ≤ 10000 := by
    unfold lF lbF
    split
    · omega
    · split
      · split <;> omega
      · split
        · split <;> omega
        · omega
  exact ⟨h1.1, h1.2, h2.1, h2.2⟩

theorem w_X10_can {d : Nat} {D M : Mem} (hw : Wf D) (hr : DR D M) (hfar : FarD D M) {a : Asg} {o q ppl : Nat} {c : Int} (ha : ∀ x ∈ a, (x.1 : Int) < D.1 1 11 ∧ x.2 < 15) (hlen : a.length < 14) (ho : (o : Int) < D.1 1 11) (hq : q < 15) (hpp : ppl < 15) (hc0 : 0 ≤ c) (hc1 : c ≤ 10000) (hto : M.1 15 a.length = o) (hca : M.1 17 a.length = c) (hpe : M.1 18 a.length = ppl) (hrow : RowI M 0 a) : WP wdM (d + 2) mX10_can [vr 0, vi a.length, vi q] M (canPost (D.1 12 5) M a.length (canM D o q a (eF D o, lF D o, c + (if q = ppl then D.1 12 6 else 0)))) := by
  refine wp_of (by decide +kernel) (Nat.le_of_ble_eq_true rfl) ?_
  obtain ⟨l1, l2, l3, l4, l5, l6, l7, l8⟩ := id hr.2.2
  obtain ⟨⟨m1, m2, m3, m4, m5, m6, m7, m8, m9, m10⟩, m11, m12⟩ := id hw.2.2.2.2.2.2
  obtain ⟨b1, b2, b3, b4⟩ := id hw.1
  have g1 := eF_r hw ho
  have co := copy_r hw ho
  have o5 := (hr.2.1 o ho).2.2.2.2.1
  generalize hR : canM D o q a (eF D o, lF D o, c + (if q = ppl then D.1 12 6 else 0)) = R
  have loop : ∀ (suf : Asg) (i : Nat), i + suf.length = a.length → (∀ x ∈ suf, (x.1 : Int) < D.1 1 11 ∧ x.2 < 15) → RowI M i suf → ∀ (l h c1 : Int) (x8 : Option AV), -10000 ≤ l → l ≤ 10000 → -10000 ≤ h → h ≤ 10000 → 0 ≤ c1 → c1 ≤ 10020 + 16 * i → canM D o q suf (l, h, c1) = R → G wdM mX10_can (d + 2) (canPost (D.1 12 5) M a.length R) 51 [some (vr 0), some (vi a.length), some (vi q), some (vi o), some (vi l), some (vi h), some (vi c1), some (vi i), x8] [] M := by
    intro suf
    induction suf with
    | nil =>
      intro i hi hx hrw l h c1 x8 q1 q2 q3 q4 q5 q6 hres
      have hi : i = a.length := hi
      subst hi
      have ek : ((a.length : Int) + 1).toNat = a.length + 1 := by omega
      refine g_iload dX10_can_51 rfl ?_
      refine g_iload_n dX10_can_53 rfl rfl ?_
      refine g_icmp_ge (tgt := 182) dX10_can_54 rfl (fun h54 => ?_) (fun h54 => ?_)
      · refine g_aload_n dX10_can_182 rfl rfl ?_
        refine g_getr dX10_can_183 fX10_76 rfl rfl ?_
        refine g_iload_n dX10_can_186 rfl rfl ?_
        refine g_iconst dX10_can_187 ?_
        refine g_iadd dX10_can_188 ?_
        refine g_iload dX10_can_189 rfl ?_
        refine g_iast dX10_can_191 rfl (by decide) ?_
        try simp only [Int.toNat_natCast]
        refine g_iload dX10_can_192 rfl ?_
        refine g_iload dX10_can_194 rfl ?_
        refine g_icmp_gt (tgt := 212) dX10_can_196 rfl (fun h196 => ?_) (fun h196 => ?_)
        · refine g_iconst dX10_can_212 ?_
          refine g_zret dX10_can_213 rfl ?_
          rw [← hres]
          first
          | exact ⟨by rw [bi_t ⟨by show l ≤ h; omega, by show c1 ≤ _; omega⟩], by rw [ek]⟩
          | exact ⟨by rw [bi_f (fun z => by have z1 : l ≤ h := z.1; have z2 : c1 ≤ D.1 12 5 := z.2; omega)], by rw [ek]⟩
        · refine g_iload dX10_can_199 rfl ?_
          refine g_aload_n dX10_can_201 rfl rfl ?_
          refine g_get dX10_can_202 fX10_147 rfl rfl ?_
          try simp only [sil, sjl, Nat.reduceAdd, Nat.reduceEqDiff, eq_self, false_and, and_false, true_and, and_true, if_false, if_true, reduceIte]
          rw [l6]
          refine g_icmp_gt (tgt := 212) dX10_can_205 rfl (fun h205 => ?_) (fun h205 => ?_)
          · refine g_iconst dX10_can_212 ?_
            refine g_zret dX10_can_213 rfl ?_
            rw [← hres]
            first
            | exact ⟨by rw [bi_t ⟨by show l ≤ h; omega, by show c1 ≤ _; omega⟩], by rw [ek]⟩
            | exact ⟨by rw [bi_f (fun z => by have z1 : l ≤ h := z.1; have z2 : c1 ≤ D.1 12 5 := z.2; omega)], by rw [ek]⟩
          · refine g_iconst dX10_can_208 ?_
            refine g_goto (tgt := 213) dX10_can_209 rfl ?_
            refine g_zret dX10_can_213 rfl ?_
            rw [← hres]
            first
            | exact ⟨by rw [bi_t ⟨by show l ≤ h; omega, by show c1 ≤ _; omega⟩], by rw [ek]⟩
            | exact ⟨by rw [bi_f (fun z => by have z1 : l ≤ h := z.1; have z2 : c1 ≤ D.1 12 5 := z.2; omega)], by rw [ek]⟩
      · exfalso; omega
    | cons x suf ih =>
      intro i hi hx hrw l h c1 x8 q1 q2 q3 q4 q5 q6 hres
      obtain ⟨p, qq⟩ := x
      obtain ⟨hp, hqq⟩ := hx _ List.mem_cons_self
      have hx' := fun y hy => hx y (List.mem_cons_of_mem _ hy)
      obtain ⟨r1, r2, r3⟩ := hrw
      have hp : (p : Int) < D.1 1 11 := hp
      have hqq : qq < 15 := hqq
      have r1 : M.1 15 i = p := r1
      have r2 : M.1 16 i = qq := r2
      have hil : i + (suf.length + 1) = a.length := hi
      have g2 := eF_r hw hp
      have cp := copy_r hw hp
      have p5 := (hr.2.1 p hp).2.2.2.2.1
      have ef : (14 * (o : Int) + (p : Int)).toNat = 14 * o + p := by omega
      have hf := hfar o p ho hp
      have hd := distC_r (D.1 14) (D.2 11 o) (D.2 11 p)
      have hd1 : 0 ≤ apF D o p ∧ apF D o p ≤ 16 := hd
      simp only [canM] at hres
      refine g_iload dX10_can_51 rfl ?_
      refine g_iload_n dX10_can_53 rfl rfl ?_
      refine g_icmp_ge (tgt := 182) dX10_can_54 rfl (fun h54 => ?_) (fun h54 => ?_)
      · exfalso; omega
      · refine g_aload_n dX10_can_57 rfl rfl ?_
        refine g_getr dX10_can_58 fX10_70 rfl rfl ?_
        refine g_iload dX10_can_61 rfl ?_
        refine g_iald dX10_can_63 rfl (by decide) ?_
        try simp only [Int.toNat_natCast]
        rw [r1]
        refine g_istore (ls' := [some _, some _, some _, some _, some _, some _, some _, some _, some _]) dX10_can_64 (by decide) rfl ?_
        refine g_aload_n dX10_can_66 rfl rfl ?_
        refine g_getr dX10_can_67 fX10_73 rfl rfl ?_
        refine g_iload dX10_can_70 rfl ?_
        refine g_iald dX10_can_72 rfl (by decide) ?_
        try simp only [Int.toNat_natCast]
        rw [r2]
        refine g_iload_n dX10_can_73 rfl rfl ?_
        refine g_icmp_eq (tgt := 80) dX10_can_74 rfl (fun h74 => ?_) (fun h74 => ?_)
        · refine g_aload_n dX10_can_80 rfl rfl ?_
          refine g_iload_n dX10_can_81 rfl rfl ?_
          refine g_iload dX10_can_82 rfl ?_
          refine g_callVr dX10_can_84 lX10_170 (u_X10_canBeOne hw hr ho hp) rfl rfl rfl rfl (Nat.le_of_ble_eq_true rfl) ?_
          refine g_if_neB (tgt := 92) dX10_can_87 rfl (fun h87 => ?_) (fun h87 => ?_)
          · refine g_aload_n dX10_can_92 rfl rfl ?_
            refine g_iload dX10_can_93 rfl ?_
            refine g_callVr dX10_can_95 lX10_163 (u_X10_earliest hw hr hp) rfl rfl rfl rfl (Nat.le_of_ble_eq_true rfl) ?_
            refine g_iload dX10_can_98 rfl ?_
            refine g_icmp_le (tgt := 112) dX10_can_100 rfl (fun h100 => ?_) (fun h100 => ?_)
            · refine g_iload dX10_can_112 rfl ?_
              refine g_istore (ls' := [some _, some _, some _, some _, some _, some _, some _, some _, some _]) dX10_can_114 (by decide) rfl ?_
              refine g_aload_n dX10_can_116 rfl rfl ?_
              refine g_iload dX10_can_117 rfl ?_
              refine g_callVr dX10_can_119 lX10_167 (u_X10_latest hw hr hp) rfl rfl rfl rfl (Nat.le_of_ble_eq_true rfl) ?_
              refine g_iload dX10_can_122 rfl ?_
              refine g_icmp_ge (tgt := 136) dX10_can_124 rfl (fun h124 => ?_) (fun h124 => ?_)
              · refine g_iload dX10_can_136 rfl ?_
                refine g_istore (ls' := [some _, some _, some _, some _, some _, some _, some _, some _, some _]) dX10_can_138 (by decide) rfl ?_
                refine g_aload_n dX10_can_140 rfl rfl ?_
                refine g_getr dX10_can_141 fX10_34 rfl rfl ?_
                refine g_iload_n dX10_can_144 rfl rfl ?_
                refine g_iald dX10_can_145 rfl (by decide) ?_
                try simp only [Int.toNat_natCast]
                rw [o5]
                refine g_if_ge (tgt := 176) dX10_can_146 rfl (fun h146 => ?_) (fun h146 => ?_)
                · refine g_iinc (ls' := [some _, some _, some _, some _, some _, some _, some _, some _, some _]) dX10_can_176 rfl rfl ?_
                  refine g_goto (tgt := 51) dX10_can_179 rfl ?_
                  first
                  | (rw [if_neg (by omega)] at hres
                     exact ih (i + 1) (by omega) hx' r3 _ _ _ _ q1 q2 q3 q4 q5 (by omega) hres)
                  | (rw [if_pos (by omega), if_pos h87] at hres
                     refine ih (i + 1) (by omega) hx' r3 _ _ _ _ (by omega) (by omega) (by omega) (by omega) (by omega) (by omega) ?_
                     rw [← hres]
                     refine congrArg (canM D o q suf) ?_
                     have e1 : ∀ x : Int, max (eF D p) l = x → max (eF D p) l = x := fun _ h => h
                     simp only [Prod.mk.injEq]
                     refine ⟨by omega, by omega, ?_⟩
                     first
                     | rw [if_pos (by omega)]
                     | rw [if_neg (by omega)])
                · refine g_aload_n dX10_can_149 rfl rfl ?_
                  refine g_getr dX10_can_150 fX10_34 rfl rfl ?_
                  refine g_iload dX10_can_153 rfl ?_
                  refine g_iald dX10_can_155 rfl (by decide) ?_
                  try simp only [Int.toNat_natCast]
                  rw [p5]
                  refine g_if_ge (tgt := 176) dX10_can_156 rfl (fun h156 => ?_) (fun h156 => ?_)
                  · refine g_iinc (ls' := [some _, some _, some _, some _, some _, some _, some _, some _, some _]) dX10_can_176 rfl rfl ?_
                    refine g_goto (tgt := 51) dX10_can_179 rfl ?_
                    first
                    | (rw [if_neg (by omega)] at hres
                       exact ih (i + 1) (by omega) hx' r3 _ _ _ _ q1 q2 q3 q4 q5 (by omega) hres)
                    | (rw [if_pos (by omega), if_pos h87] at hres
                       refine ih (i + 1) (by omega) hx' r3 _ _ _ _ (by omega) (by omega) (by omega) (by omega) (by omega) (by omega) ?_
                       rw [← hres]
                       refine congrArg (canM D o q suf) ?_
                       have e1 : ∀ x : Int, max (eF D p) l = x → max (eF D p) l = x := fun _ h => h
                       simp only [Prod.mk.injEq]
                       refine ⟨by omega, by omega, ?_⟩
                       first
                       | rw [if_pos (by omega)]
                       | rw [if_neg (by omega)])
                  · refine g_iload dX10_can_159 rfl ?_
                    refine g_aload_n dX10_can_161 rfl rfl ?_
                    refine g_getr dX10_can_162 fX10_37 rfl rfl ?_
                    refine g_bipush dX10_can_165 rfl ?_
                    refine g_iload_n dX10_can_167 rfl rfl ?_
                    refine g_imul dX10_can_168 ?_
                    refine g_iload dX10_can_169 rfl ?_
                    refine g_iadd dX10_can_171 ?_
                    refine g_iald dX10_can_172 rfl (by decide) ?_
                    try simp only [Int.toNat_natCast]
                    rw [ef, hf]
                    refine g_iadd dX10_can_173 ?_
                    refine g_istore (ls' := [some _, some _, some _, some _, some _, some _, some _, some _, some _]) dX10_can_174 (by decide) rfl ?_
                    refine g_iinc (ls' := [some _, some _, some _, some _, some _, some _, some _, some _, some _]) dX10_can_176 rfl rfl ?_
                    refine g_goto (tgt := 51) dX10_can_179 rfl ?_
                    first
                    | (rw [if_neg (by omega)] at hres
                       exact ih (i + 1) (by omega) hx' r3 _ _ _ _ q1 q2 q3 q4 q5 (by omega) hres)
                    | (rw [if_pos (by omega), if_pos h87] at hres
                       refine ih (i + 1) (by omega) hx' r3 _ _ _ _ (by omega) (by omega) (by omega) (by omega) (by omega) (by omega) ?_
                       rw [← hres]
                       refine congrArg (canM D o q suf) ?_
                       have e1 : ∀ x : Int, max (eF D p) l = x → max (eF D p) l = x := fun _ h => h
                       simp only [Prod.mk.injEq]
                       refine ⟨by omega, by omega, ?_⟩
                       first
                       | rw [if_pos (by omega)]
                       | rw [if_neg (by omega)])
              · refine g_aload_n dX10_can_127 rfl rfl ?_
                refine g_iload dX10_can_128 rfl ?_
                refine g_callVr dX10_can_130 lX10_167 (u_X10_latest hw hr hp) rfl rfl rfl rfl (Nat.le_of_ble_eq_true rfl) ?_
                refine g_goto (tgt := 138) dX10_can_133 rfl ?_
                refine g_istore (ls' := [some _, some _, some _, some _, some _, some _, some _, some _, some _]) dX10_can_138 (by decide) rfl ?_
                refine g_aload_n dX10_can_140 rfl rfl ?_
                refine g_getr dX10_can_141 fX10_34 rfl rfl ?_
                refine g_iload_n dX10_can_144 rfl rfl ?_
                refine g_iald dX10_can_145 rfl (by decide) ?_
                try simp only [Int.toNat_natCast]
                rw [o5]
                refine g_if_ge (tgt := 176) dX10_can_146 rfl (fun h146 => ?_) (fun h146 => ?_)
                · refine g_iinc (ls' := [some _, some _, some _, some _, some _, some _, some _, some _, some _]) dX10_can_176 rfl rfl ?_
                  refine g_goto (tgt := 51) dX10_can_179 rfl ?_
                  first
                  | (rw [if_neg (by omega)] at hres
                     exact ih (i + 1) (by omega) hx' r3 _ _ _ _ q1 q2 q3 q4 q5 (by omega) hres)
                  | (rw [if_pos (by omega), if_pos h87] at hres
                     refine ih (i + 1) (by omega) hx' r3 _ _ _ _ (by omega) (by omega) (by omega) (by omega) (by omega) (by omega) ?_
                     rw [← hres]
                     refine congrArg (canM D o q suf) ?_
                     have e1 : ∀ x : Int, max (eF D p) l = x → max (eF D p) l = x := fun _ h => h
                     simp only [Prod.mk.injEq]
                     refine ⟨by omega, by omega, ?_⟩
                     first
                     | rw [if_pos (by omega)]
                     | rw [if_neg (by omega)])
                · refine g_aload_n dX10_can_149 rfl rfl ?_
                  refine g_getr dX10_can_150 fX10_34 rfl rfl ?_
                  refine g_iload dX10_can_153 rfl ?_
                  refine g_iald dX10_can_155 rfl (by decide) ?_
                  try simp only [Int.toNat_natCast]
                  rw [p5]
                  refine g_if_ge (tgt := 176) dX10_can_156 rfl (fun h156 => ?_) (fun h156 => ?_)
                  · refine g_iinc (ls' := [some _, some _, some _, some _, some _, some _, some _, some _, some _]) dX10_can_176 rfl rfl ?_
                    refine g_goto (tgt := 51) dX10_can_179 rfl ?_
                    first
                    | (rw [if_neg (by omega)] at hres
                       exact ih (i + 1) (by omega) hx' r3 _ _ _ _ q1 q2 q3 q4 q5 (by omega) hres)
                    | (rw [if_pos (by omega), if_pos h87] at hres
                       refine ih (i + 1) (by omega) hx' r3 _ _ _ _ (by omega) (by omega) (by omega) (by omega) (by omega) (by omega) ?_
                       rw [← hres]
                       refine congrArg (canM D o q suf) ?_
                       have e1 : ∀ x : Int, max (eF D p) l = x → max (eF D p) l = x := fun _ h => h
                       simp only [Prod.mk.injEq]
                       refine ⟨by omega, by omega, ?_⟩
                       first
                       | rw [if_pos (by omega)]
                       | rw [if_neg (by omega)])
                  · refine g_iload dX10_can_159 rfl ?_
                    refine g_aload_n dX10_can_161 rfl rfl ?_
                    refine g_getr dX10_can_162 fX10_37 rfl rfl ?_
                    refine g_bipush dX10_can_165 rfl ?_
                    refine g_iload_n dX10_can_167 rfl rfl ?_
                    refine g_imul dX10_can_168 ?_
                    refine g_iload dX10_can_169 rfl ?_
                    refine g_iadd dX10_can_171 ?_
                    refine g_iald dX10_can_172 rfl (by decide) ?_
                    try simp only [Int.toNat_natCast]
                    rw [ef, hf]
                    refine g_iadd dX10_can_173 ?_
                    refine g_istore (ls' := [some _, some _, some _, some _, some _, some _, some _, some _, some _]) dX10_can_174 (by decide) rfl ?_
                    refine g_iinc (ls' := [some _, some _, some _, some _, some _, some _, some _, some _, some _]) dX10_can_176 rfl rfl ?_
                    refine g_goto (tgt := 51) dX10_can_179 rfl ?_
                    first
                    | (rw [if_neg (by omega)] at hres
                       exact ih (i + 1) (by omega) hx' r3 _ _ _ _ q1 q2 q3 q4 q5 (by omega) hres)
                    | (rw [if_pos (by omega), if_pos h87] at hres
                       refine ih (i + 1) (by omega) hx' r3 _ _ _ _ (by omega) (by omega) (by omega) (by omega) (by omega) (by omega) ?_
                       rw [← hres]
                       refine congrArg (canM D o q suf) ?_
                       have e1 : ∀ x : Int, max (eF D p) l = x → max (eF D p) l = x := fun _ h => h
                       simp only [Prod.mk.injEq]
                       refine ⟨by omega, by omega, ?_⟩
                       first
                       | rw [if_pos (by omega)]
                       | rw [if_neg (by omega)])
            · refine g_aload_n dX10_can_103 rfl rfl ?_
              refine g_iload dX10_can_104 rfl ?_
              refine g_callVr dX10_can_106 lX10_163 (u_X10_earliest hw hr hp) rfl rfl rfl rfl (Nat.le_of_ble_eq_true rfl) ?_
              refine g_goto (tgt := 114) dX10_can_109 rfl ?_
              refine g_istore (ls' := [some _, some _, some _, some _, some _, some _, some _, some _, some _]) dX10_can_114 (by decide) rfl ?_
              refine g_aload_n dX10_can_116 rfl rfl ?_
              refine g_iload dX10_can_117 rfl ?_
              refine g_callVr dX10_can_119 lX10_167 (u_X10_latest hw hr hp) rfl rfl rfl rfl (Nat.le_of_ble_eq_true rfl) ?_
              refine g_iload dX10_can_122 rfl ?_
              refine g_icmp_ge (tgt := 136) dX10_can_124 rfl (fun h124 => ?_) (fun h124 => ?_)
              · refine g_iload dX10_can_136 rfl ?_
                refine g_istore (ls' := [some _, some _, some _, some _, some _, some _, some _, some _, some _]) dX10_can_138 (by decide) rfl ?_
                refine g_aload_n dX10_can_140 rfl rfl ?_
                refine g_getr dX10_can_141 fX10_34 rfl rfl ?_
                refine g_iload_n dX10_can_144 rfl rfl ?_
                refine g_iald dX10_can_145 rfl (by decide) ?_
                try simp only [Int.toNat_natCast]
                rw [o5]
                refine g_if_ge (tgt := 176) dX10_can_146 rfl (fun h146 => ?_) (fun h146 => ?_)
                · refine g_iinc (ls' := [some _, some _, some _, some _, some _, some _, some _, some _, some _]) dX10_can_176 rfl rfl ?_
                  refine g_goto (tgt := 51) dX10_can_179 rfl ?_
                  first
                  | (rw [if_neg (by omega)] at hres
                     exact ih (i + 1) (by omega) hx' r3 _ _ _ _ q1 q2 q3 q4 q5 (by omega) hres)
                  | (rw [if_pos (by omega), if_pos h87] at hres
                     refine ih (i + 1) (by omega) hx' r3 _ _ _ _ (by omega) (by omega) (by omega) (by omega) (by omega) (by omega) ?_
                     rw [← hres]
                     refine congrArg (canM D o q suf) ?_
                     have e1 : ∀ x : Int, max (eF D p) l = x → max (eF D p) l = x := fun _ h => h
                     simp only [Prod.mk.injEq]
                     refine ⟨by omega, by omega, ?_⟩
                     first
                     | rw [if_pos (by omega)]
                     | rw [if_neg (by omega)])
                · refine g_aload_n dX10_can_149 rfl rfl ?_
                  refine g_getr dX10_can_150 fX10_34 rfl rfl ?_
                  refine g_iload dX10_can_153 rfl ?_
                  refine g_iald dX10_can_155 rfl (by decide) ?_
                  try simp only [Int.toNat_natCast]
                  rw [p5]
                  refine g_if_ge (tgt := 176) dX10_can_156 rfl (fun h156 => ?_) (fun h156 => ?_)
                  · refine g_iinc (ls' := [some _, some _, some _, some _, some _, some _, some _, some _, some _]) dX10_can_176 rfl rfl ?_
                    refine g_goto (tgt := 51) dX10_can_179 rfl ?_
                    first
                    | (rw [if_neg (by omega)] at hres
                       exact ih (i + 1) (by omega) hx' r3 _ _ _ _ q1 q2 q3 q4 q5 (by omega) hres)
                    | (rw [if_pos (by omega), if_pos h87] at hres
                       refine ih (i + 1) (by omega) hx' r3 _ _ _ _ (by omega) (by omega) (by omega) (by omega) (by omega) (by omega) ?_
                       rw [← hres]
                       refine congrArg (canM D o q suf) ?_
                       have e1 : ∀ x : Int, max (eF D p) l = x → max (eF D p) l = x := fun _ h => h
                       simp only [Prod.mk.injEq]
                       refine ⟨by omega, by omega, ?_⟩
                       first
                       | rw [if_pos (by omega)]
                       | rw [if_neg (by omega)])
                  · refine g_iload dX10_can_159 rfl ?_
                    refine g_aload_n dX10_can_161 rfl rfl ?_
                    refine g_getr dX10_can_162 fX10_37 rfl rfl ?_
                    refine g_bipush dX10_can_165 rfl ?_
                    refine g_iload_n dX10_can_167 rfl rfl ?_
                    refine g_imul dX10_can_168 ?_
                    refine g_iload dX10_can_169 rfl ?_
                    refine g_iadd dX10_can_171 ?_
                    refine g_iald dX10_can_172 rfl (by decide) ?_
                    try simp only [Int.toNat_natCast]
                    rw [ef, hf]
                    refine g_iadd dX10_can_173 ?_
                    refine g_istore (ls' := [some _, some _, some _, some _, some _, some _, some _, some _, some _]) dX10_can_174 (by decide) rfl ?_
                    refine g_iinc (ls' := [some _, some _, some _, some _, some _, some _, some _, some _, some _]) dX10_can_176 rfl rfl ?_
                    refine g_goto (tgt := 51) dX10_can_179 rfl ?_
                    first
                    | (rw [if_neg (by omega)] at hres
                       exact ih (i + 1) (by omega) hx' r3 _ _ _ _ q1 q2 q3 q4 q5 (by omega) hres)
                    | (rw [if_pos (by omega), if_pos h87] at hres
                       refine ih (i + 1) (by omega) hx' r3 _ _ _ _ (by omega) (by omega) (by omega) (by omega) (by omega) (by omega) ?_
                       rw [← hres]
                       refine congrArg (canM D o q suf) ?_
                       have e1 : ∀ x : Int, max (eF D p) l = x → max (eF D p) l = x := fun _ h => h
                       simp only [Prod.mk.injEq]
                       refine ⟨by omega, by omega, ?_⟩
                       first
                       | rw [if_pos (by omega)]
                       | rw [if_neg (by omega)])
              · refine g_aload_n dX10_can_127 rfl rfl ?_
                refine g_iload dX10_can_128 rfl ?_
                refine g_callVr dX10_can_130 lX10_167 (u_X10_latest hw hr hp) rfl rfl rfl rfl (Nat.le_of_ble_eq_true rfl) ?_
                refine g_goto (tgt := 138) dX10_can_133 rfl ?_
                refine g_istore (ls' := [some _, some _, some _, some _, some _, some _, some _, some _, some _]) dX10_can_138 (by decide) rfl ?_
                refine g_aload_n dX10_can_140 rfl rfl ?_
                refine g_getr dX10_can_141 fX10_34 rfl rfl ?_
                refine g_iload_n dX10_can_144 rfl rfl ?_
                refine g_iald dX10_can_145 rfl (by decide) ?_
                try simp only [Int.toNat_natCast]
                rw [o5]
                refine g_if_ge (tgt := 176) dX10_can_146 rfl (fun h146 => ?_) (fun h146 => ?_)
                · refine g_iinc (ls' := [some _, some _, some _, some _, some _, some _, some _, some _, some _]) dX10_can_176 rfl rfl ?_
                  refine g_goto (tgt := 51) dX10_can_179 rfl ?_
                  first
                  | (rw [if_neg (by omega)] at hres
                     exact ih (i + 1) (by omega) hx' r3 _ _ _ _ q1 q2 q3 q4 q5 (by omega) hres)
                  | (rw [if_pos (by omega), if_pos h87] at hres
                     refine ih (i + 1) (by omega) hx' r3 _ _ _ _ (by omega) (by omega) (by omega) (by omega) (by omega) (by omega) ?_
                     rw [← hres]
                     refine congrArg (canM D o q suf) ?_
                     have e1 : ∀ x : Int, max (eF D p) l = x → max (eF D p) l = x := fun _ h => h
                     simp only [Prod.mk.injEq]
                     refine ⟨by omega, by omega, ?_⟩
                     first
                     | rw [if_pos (by omega)]
                     | rw [if_neg (by omega)])
                · refine g_aload_n dX10_can_149 rfl rfl ?_
                  refine g_getr dX10_can_150 fX10_34 rfl rfl ?_
                  refine g_iload dX10_can_153 rfl ?_
                  refine g_iald dX10_can_155 rfl (by decide) ?_
                  try simp only [Int.toNat_natCast]
                  rw [p5]
                  refine g_if_ge (tgt := 176) dX10_can_156 rfl (fun h156 => ?_) (fun h156 => ?_)
                  · refine g_iinc (ls' := [some _, some _, some _, some _, some _, some _, some _, some _, some _]) dX10_can_176 rfl rfl ?_
                    refine g_goto (tgt := 51) dX10_can_179 rfl ?_
                    first
                    | (rw [if_neg (by omega)] at hres
                       exact ih (i + 1) (by omega) hx' r3 _ _ _ _ q1 q2 q3 q4 q5 (by omega) hres)
                    | (rw [if_pos (by omega), if_pos h87] at hres
                       refine ih (i + 1) (by omega) hx' r3 _ _ _ _ (by omega) (by omega) (by omega) (by omega) (by omega) (by omega) ?_
                       rw [← hres]
                       refine congrArg (canM D o q suf) ?_
                       have e1 : ∀ x : Int, max (eF D p) l = x → max (eF D p) l = x := fun _ h => h
                       simp only [Prod.mk.injEq]
                       refine ⟨by omega, by omega, ?_⟩
                       first
                       | rw [if_pos (by omega)]
                       | rw [if_neg (by omega)])
                  · refine g_iload dX10_can_159 rfl ?_
                    refine g_aload_n dX10_can_161 rfl rfl ?_
                    refine g_getr dX10_can_162 fX10_37 rfl rfl ?_
                    refine g_bipush dX10_can_165 rfl ?_
                    refine g_iload_n dX10_can_167 rfl rfl ?_
                    refine g_imul dX10_can_168 ?_
                    refine g_iload dX10_can_169 rfl ?_
                    refine g_iadd dX10_can_171 ?_
                    refine g_iald dX10_can_172 rfl (by decide) ?_
                    try simp only [Int.toNat_natCast]
                    rw [ef, hf]
                    refine g_iadd dX10_can_173 ?_
                    refine g_istore (ls' := [some _, some _, some _, some _, some _, some _, some _, some _, some _]) dX10_can_174 (by decide) rfl ?_
                    refine g_iinc (ls' := [some _, some _, some _, some _, some _, some _, some _, some _, some _]) dX10_can_176 rfl rfl ?_
                    refine g_goto (tgt := 51) dX10_can_179 rfl ?_
                    first
                    | (rw [if_neg (by omega)] at hres
                       exact ih (i + 1) (by omega) hx' r3 _ _ _ _ q1 q2 q3 q4 q5 (by omega) hres)
                    | (rw [if_pos (by omega), if_pos h87] at hres
                       refine ih (i + 1) (by omega) hx' r3 _ _ _ _ (by omega) (by omega) (by omega) (by omega) (by omega) (by omega) ?_
                       rw [← hres]
                       refine congrArg (canM D o q suf) ?_
                       have e1 : ∀ x : Int, max (eF D p) l = x → max (eF D p) l = x := fun _ h => h
                       simp only [Prod.mk.injEq]
                       refine ⟨by omega, by omega, ?_⟩
                       first
                       | rw [if_pos (by omega)]
                       | rw [if_neg (by omega)])
          · refine g_iconst dX10_can_90 ?_
            refine g_zret dX10_can_91 rfl ?_
            rw [if_pos (by omega), if_neg h87] at hres
            rw [← hres]
            exact ⟨rfl, rfl⟩
        · refine g_goto (tgt := 176) dX10_can_77 rfl ?_
          refine g_iinc (ls' := [some _, some _, some _, some _, some _, some _, some _, some _, some _]) dX10_can_176 rfl rfl ?_
          refine g_goto (tgt := 51) dX10_can_179 rfl ?_
          first
          | (rw [if_neg (by omega)] at hres
             exact ih (i + 1) (by omega) hx' r3 _ _ _ _ q1 q2 q3 q4 q5 (by omega) hres)
          | (rw [if_pos (by omega), if_pos h87] at hres
             refine ih (i + 1) (by omega) hx' r3 _ _ _ _ (by omega) (by omega) (by omega) (by omega) (by omega) (by omega) ?_
             rw [← hres]
             refine congrArg (canM D o q suf) ?_
             have e1 : ∀ x : Int, max (eF D p) l = x → max (eF D p) l = x := fun _ h => h
             simp only [Prod.mk.injEq]
             refine ⟨by omega, by omega, ?_⟩
             first
             | rw [if_pos (by omega)]
             | rw [if_neg (by omega)])
  refine g_aload_n dX10_can_0 rfl rfl ?_
  refine g_getr dX10_can_1 fX10_70 rfl rfl ?_
  refine g_iload_n dX10_can_4 rfl rfl ?_
  refine g_iald dX10_can_5 rfl (by decide) ?_
  try simp only [Int.toNat_natCast]
  rw [hto]
  refine g_istore_n (ls' := [some _, some _, some _, some _, _, _, _, _, _]) dX10_can_6 rfl (by decide) rfl ?_
  refine g_aload_n dX10_can_7 rfl rfl ?_
  refine g_iload_n dX10_can_8 rfl rfl ?_
  refine g_callVr dX10_can_9 lX10_163 (u_X10_earliest hw hr ho) rfl rfl rfl rfl (Nat.le_of_ble_eq_true rfl) ?_
  refine g_istore (ls' := [some _, some _, some _, some _, some _, _, _, _, _]) dX10_can_12 (by decide) rfl ?_
  refine g_aload_n dX10_can_14 rfl rfl ?_
  refine g_iload_n dX10_can_15 rfl rfl ?_
  refine g_callVr dX10_can_16 lX10_167 (u_X10_latest hw hr ho) rfl rfl rfl rfl (Nat.le_of_ble_eq_true rfl) ?_
  refine g_istore (ls' := [some _, some _, some _, some _, some _, some _, _, _, _]) dX10_can_19 (by decide) rfl ?_
  refine g_aload_n dX10_can_21 rfl rfl ?_
  refine g_getr dX10_can_22 fX10_76 rfl rfl ?_
  refine g_iload_n dX10_can_25 rfl rfl ?_
  refine g_iald dX10_can_26 rfl (by decide) ?_
  try simp only [Int.toNat_natCast]
  rw [hca]
  refine g_iload_n dX10_can_27 rfl rfl ?_
  refine g_aload_n dX10_can_28 rfl rfl ?_
  refine g_getr dX10_can_29 fX10_79 rfl rfl ?_
  refine g_iload_n dX10_can_32 rfl rfl ?_
  refine g_iald dX10_can_33 rfl (by decide) ?_
  try simp only [Int.toNat_natCast]
  rw [hpe]
  refine g_icmp_ne (tgt := 44) dX10_can_34 rfl (fun h34 => ?_) (fun h34 => ?_)
  · refine g_iconst dX10_can_44 ?_
    refine g_iadd dX10_can_45 ?_
    refine g_istore (ls' := [some _, some _, some _, some _, some _, some _, some _, _, _]) dX10_can_46 (by decide) rfl ?_
    refine g_iconst dX10_can_48 ?_
    refine g_istore (ls' := [some _, some _, some _, some _, some _, some _, some _, some _, _]) dX10_can_49 (by decide) rfl ?_
    refine loop a 0 (by omega) ha hrow _ _ _ _ (by omega) (by omega) (by omega) (by omega) (by omega) (by omega) ?_
    rw [← hR]
    first | rw [if_pos (by omega)] | rw [if_neg (by omega)]
  · refine g_aload_n dX10_can_37 rfl rfl ?_
    refine g_get dX10_can_38 fX10_150 rfl rfl ?_
    rw [l7]
    refine g_goto (tgt := 45) dX10_can_41 rfl ?_
    refine g_iadd dX10_can_45 ?_
    refine g_istore (ls' := [some _, some _, some _, some _, some _, some _, some _, _, _]) dX10_can_46 (by decide) rfl ?_
    refine g_iconst dX10_can_48 ?_
    refine g_istore (ls' := [some _, some _, some _, some _, some _, some _, some _, some _, _]) dX10_can_49 (by decide) rfl ?_
    refine loop a 0 (by omega) ha hrow _ _ _ _ (by omega) (by omega) (by omega) (by omega) (by omega) (by omega) ?_
    rw [← hR]
    first | rw [if_pos (by omega)] | rw [if_neg (by omega)]

