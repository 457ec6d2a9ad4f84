/-! MODULE 36: the reference's search, the loop. -/
def EnvR (D : Mem) (ord : List Nat) (M : Mem) : Prop := DR D M ∧ FarD D M ∧ M.1 0 28 = ord.length ∧ ∀ j, j < ord.length → M.1 15 j = (ord.getD j 0 : Nat)
theorem EnvR.fr {D : Mem} {ord : List Nat} {M M1 : Mem} (h : EnvR D ord M) (hS : SFr M M1) : EnvR D ord M1 := by
  obtain ⟨h1, h2, h3, h4⟩ := h
  refine ⟨h1.dat hS.mdat, fun a b ha hb => ?_, ?_, fun j hj => ?_⟩
  · rw [(hS.2 10 (by decide) (by decide) (by decide) (by decide) (by decide) (by decide)).1]; exact h2 a b ha hb
  · rw [hS.1 28 (by decide) (by decide) (by decide) (by decide)]; exact h3
  · rw [(hS.2 15 (by decide) (by decide) (by decide) (by decide) (by decide) (by decide)).1]; exact h4 j hj
theorem stepP_go {D : Mem} {rem : List Nat} {o : Nat} {a : Asg} {ppl : Nat} {c : Int} {q : Nat} {R : Res} (h1 : R.2.2 = false) (h2 : R.1 < 300000) : stepP D rem o a ppl c q R = if feC D o (mems D a q) = true ∧ c + addC D o (mems D a q) ≤ D.1 12 5 then placeP D rem (a ++ [(o, q)]) (if q < ppl then ppl else ppl + 1) (c + addC D o (mems D a q)) (R.1 + 1, R.2.1, R.2.2) else (R.1 + 1, R.2.1, R.2.2) := by
  have hm : mayT R = (true, (R.1 + 1, R.2.1, R.2.2)) := by
    unfold mayT
    rw [if_neg (by rw [h1]; decide), if_neg (by omega)]
  unfold stepP
  rw [hm, if_pos rfl]
theorem mayT_go {R : Res} (h1 : R.2.2 = false) (h2 : R.1 < 300000) : mayT R = (true, (R.1 + 1, R.2.1, R.2.2)) := by
  unfold mayT
  rw [if_neg (by rw [h1]; decide), if_neg (by omega)]
theorem mayT_no {R : Res} (h1 : R.2.2 = false) (h2 : R.1 = 300000) : mayT R = (false, (R.1, R.2.1, true)) := by
  unfold mayT
  rw [if_neg (by rw [h1]; decide), if_pos (by omega)]
theorem addC_0 {D : Mem} (hw : Wf D) (o : Nat) (ms : List Nat) : 0 ≤ addC D o ms := by
  obtain ⟨m, m1, m2⟩ := hw.2.2.2.2.2.2
  have hs : ∀ l : List Nat, 0 ≤ sumI (l.map (apF D o)) := fun l => by
    induction l with
    | nil => exact Int.le_refl _
    | cons x r ih =>
      have := (distC_r (D.1 14) (D.2 11 o) (D.2 11 x)).1
      have h2 : 0 ≤ apF D o x := this
      show 0 ≤ apF D o x + sumI (r.map (apF D o))
      omega
  cases ms with
  | nil => exact m1.2.2.1
  | cons p r => exact hs (p :: r)

theorem Lv.fr1 {M0 M M1 : Mem} {D : Mem} {ord : List Nat} {a : Asg} {ppl : Nat} {c : Int} (h : Lv M a ppl c) (_ : EnvR D ord M0) (hS : SFr M0 M) (hS1 : SFr M0 M1) (hO : OldS a.length M M1) : Lv M1 a ppl c := by
  refine ⟨h.1.fr (fun j hj => ⟨?_, hO.1 j (by omega)⟩), ?_, ?_⟩
  · rw [(hS1.2 15 (by decide) (by decide) (by decide) (by decide) (by decide) (by decide)).1, (hS.2 15 (by decide) (by decide) (by decide) (by decide) (by decide) (by decide)).1]
  · rw [(hO.2 _ (Nat.le_refl _)).1]; exact h.2.1
  · rw [(hO.2 _ (Nat.le_refl _)).2]; exact h.2.2

theorem w_dfs {d : Nat} {D M0 : Mem} {ord : List Nat} {pz : Int} {SK : Mem → Res → Prop} {Post : Option AV → Mem → Prop} (hw : Wf D) (hE : EnvR D ord M0) (hO : OrdOK D ord) (hSK : SinkOK pz ord SK) (hpz : 0 ≤ pz ∧ pz ≤ 1) : ∀ (rem : List Nat) (a : Asg) (ppl : Nat) (c : Int), ord = a.map (fun x => x.1) ++ rem → rem ≠ [] → Good D a ppl c → 0 ≤ c → ppl ≤ a.length → ∀ (M : Mem) (R : Res) (x3 : Option AV), SFr M0 M → Lv M a ppl c → M.1 16 a.length = -1 → SK M R → R.2.2 = false → (∀ (M' : Mem) (x : Option AV), SFr M0 M' → OldS a.length M M' → SK M' (placeP D rem a ppl c R) → (placeP D rem a ppl c R).2.2 = false → G wdM mX10_seek (d + 3) Post 112 [some (vr 0), some (vi pz), some (vi ((a.length : Int) + -1)), x] [] M') → (∀ M' : Mem, SFr M0 M' → SK M' (placeP D rem a ppl c R) → (placeP D rem a ppl c R).2.2 = true → Post none M') → G wdM mX10_seek (d + 3) Post 112 [some (vr 0), some (vi pz), some (vi a.length), x3] [] M := by
  intro rem
  induction rem with
  | nil => intro a ppl c h1 h2; exact absurd rfl h2
  | cons o rem ih =>
    intro a ppl c hord hne hG hc0 hppl M R x3 hS hL hch hK hR hcont hstop
    have hlen : ord.length = a.length + (rem.length + 1) := by rw [hord]; simp
    have hl14 := ord_len hw hO
    have hoin : o ∈ ord := by rw [hord]; simp
    have ho := hO.1 o hoin
    have hN := hw.1.2.2.2
    have hget : ord.getD a.length 0 = o := by rw [hord]; simp [List.getD_eq_getElem?_getD]
    have hno : o ∉ a.map (fun x => x.1) := fun z => by
      have hnd := hO.nd
      rw [hord, List.nodup_append] at hnd
      exact hnd.2.2 o z o List.mem_cons_self rfl
    have ek : ((a.length : Int) + 1).toNat = a.length + 1 := by omega
    have co := copy_r hw ho
    have hax : ∀ x ∈ a, x.1 < 14 ∧ x.2 < 15 := fun x hx => by
      have := hG.g1 x hx
      exact ⟨by omega, by omega⟩
    have hord2 : ∀ q : Nat, ord = (a ++ [(o, q)]).map (fun x => x.1) ++ rem := fun q => by rw [hord]; simp
    have to125 : ∀ (M1 : Mem) (x : Option AV), SFr M0 M1 → G wdM mX10_seek (d + 3) Post 125 [some (vr 0), some (vi pz), some (vi a.length), some (vi 0)] [] M1 → G wdM mX10_seek (d + 3) Post 112 [some (vr 0), some (vi pz), some (vi a.length), x] [] M1 := by
      intro M1 x hS1 hg
      have hm1 := (hE.fr hS1).2.2.1
      refine g_iload_n dX10_seek_112 rfl rfl ?_
      refine g_if_lt (tgt := 321) dX10_seek_113 rfl (fun h113 => ?_) (fun h113 => ?_)
      · exfalso; omega
      · refine g_aload_n dX10_seek_116 rfl rfl ?_
        refine g_get dX10_seek_117 fX10_173 rfl rfl ?_
        rw [hm1]
        refine g_if_le (tgt := 321) dX10_seek_120 rfl (fun h120 => ?_) (fun h120 => ?_)
        · exfalso; omega
        · refine g_iconst dX10_seek_123 ?_
          refine g_istore_n (ls' := [some _, some _, some _, some _]) dX10_seek_124 rfl (by decide) rfl ?_
          exact hg
    by_cases hn : nC D o
    · rw [placeP_o hn] at hcont hstop
      generalize hF : loopP (stepP D rem o a ppl c) (ppl + 1) 0 R = F at hcont hstop
      have hneg : D.1 10 o < 0 := (copy_neg hw ho).mpr hn
      have inner : ∀ n q : Nat, q + n = ppl + 1 → ∀ (M1 : Mem) (R1 : Res), SFr M0 M1 → OldS a.length M M1 → M1.1 16 a.length = (q : Int) - 1 → SK M1 R1 → R1.2.2 = false → loopP (stepP D rem o a ppl c) n q R1 = F → G wdM mX10_seek (d + 3) Post 125 [some (vr 0), some (vi pz), some (vi a.length), some (vi 0)] [] M1 := by
        intro n
        induction n with
        | zero =>
          intro q hq M1 R1 hS1 hO1 hc1 hK1 hR1 hF1
          have hE1 := hE.fr hS1
          have hto1 : M1.1 15 a.length = o := by rw [hE1.2.2.2 _ (by omega), hget]
          have hL1 := hL.fr1 hE hS hS1 hO1
          have hof1 := (hE1.1.2.1 o ho).2.2.2.2.1
          refine g_iload_n dX10_seek_125 rfl rfl ?_
          refine g_if_ne (tgt := 224) dX10_seek_126 rfl (fun h126 => absurd (by decide) h126) (fun _ => ?_)
          refine g_aload_n dX10_seek_129 rfl rfl ?_
          refine g_iload_n dX10_seek_130 rfl rfl ?_
          refine g_callVr dX10_seek_131 lX10_198 (w_X10_hasMore (k := a.length) (o := o) (by omega) (by omega) hto1 hc1 hL1.2.2 hof1 (by omega) (by omega) (by omega)) rfl rfl rfl rfl (Nat.le_of_ble_eq_true rfl) ?_
          refine g_if_eqB (tgt := 224) dX10_seek_134 rfl (fun h134 => ?_) (fun h134 => ?_)
          · refine g_iload_n dX10_seek_224 rfl rfl ?_
            refine g_if_ne (tgt := 234) dX10_seek_225 rfl (fun h225 => absurd (by decide) h225) (fun _ => ?_)
            refine g_iinc (ls' := [some _, some _, some _, some _]) dX10_seek_228 rfl rfl ?_
            refine g_goto (tgt := 112) dX10_seek_231 rfl ?_
            exact hcont M1 _ hS1 hO1 (by rw [← hF1]; exact hK1) (by rw [← hF1]; exact hR1)
          · exfalso; omega
        | succ n ihn =>
          intro q hq M1 R1 hS1 hO1 hc1 hK1 hR1 hF1
          have hE1 := hE.fr hS1
          have hto1 : M1.1 15 a.length = o := by rw [hE1.2.2.2 _ (by omega), hget]
          have hL1 := hL.fr1 hE hS hS1 hO1
          have hof1 := (hE1.1.2.1 o ho).2.2.2.2.1
          obtain ⟨hk1, hk2, hk3, hk4⟩ := hSK.1 _ _ hK1
          obtain ⟨c', hc'⟩ : ∃ c', c' = c + addC D o (mems D a q) := ⟨_, rfl⟩
          obtain ⟨p', hp'⟩ : ∃ p', p' = (if q < ppl then ppl else ppl + 1) := ⟨_, rfl⟩
          have hc'0 : 0 ≤ c' := by have := addC_0 hw o (mems D a q); omega
          have hbud : D.1 12 5 ≤ 300 := hw.2.2.2.2.2.2.2.1.2.1
          rw [loopP_s] at hF1
          refine g_iload_n dX10_seek_125 rfl rfl ?_
          refine g_if_ne (tgt := 224) dX10_seek_126 rfl (fun h126 => absurd (by decide) h126) (fun _ => ?_)
          refine g_aload_n dX10_seek_129 rfl rfl ?_
          refine g_iload_n dX10_seek_130 rfl rfl ?_
          refine g_callVr dX10_seek_131 lX10_198 (w_X10_hasMore (k := a.length) (o := o) (by omega) (by omega) hto1 hc1 hL1.2.2 hof1 (by omega) (by omega) (by omega)) rfl rfl rfl rfl (Nat.le_of_ble_eq_true rfl) ?_
          refine g_if_eqB (tgt := 224) dX10_seek_134 rfl (fun h134 => ?_) (fun h134 => ?_)
          · exfalso; omega
          · refine g_aload_n dX10_seek_137 rfl rfl ?_
            refine g_get dX10_seek_138 fX10_188 rfl rfl ?_
            rw [hk1]
            refine g_ldc (z := 300000) dX10_seek_141 kX10_201 rfl ?_
            refine g_icmp_ne (tgt := 152) dX10_seek_143 rfl (fun h143 => ?_) (fun h143 => ?_)
            · refine g_aload_n dX10_seek_152 rfl rfl ?_
              refine g_dup dX10_seek_153 rfl ?_
              refine g_get dX10_seek_154 fX10_188 rfl rfl ?_
              try rw [hk1]
              refine g_iconst dX10_seek_157 ?_
              
              refine g_iadd dX10_seek_158 ?_
              refine g_puti dX10_seek_159 fX10_188 rfl rfl rfl (tyX10_ok 29 (by decide)) ?_
              refine g_aload_n dX10_seek_162 rfl rfl ?_
              refine g_getr dX10_seek_163 fX10_73 rfl rfl ?_
              refine g_iload_n dX10_seek_166 rfl rfl ?_
              refine g_aload_n dX10_seek_167 rfl rfl ?_
              refine g_getr dX10_seek_168 fX10_34 rfl rfl ?_
              refine g_aload_n dX10_seek_171 rfl rfl ?_
              refine g_getr dX10_seek_172 fX10_70 rfl rfl ?_
              refine g_iload_n dX10_seek_175 rfl rfl ?_
              
              refine g_iald dX10_seek_176 rfl (by decide) ?_
              try simp only [sil, sjl, Nat.reduceAdd, Nat.reduceEqDiff, eq_self, false_and, and_false, true_and, and_true, if_false, if_true, reduceIte]
              try simp only [Int.toNat_natCast]
              rw [hto1]
              refine g_iald dX10_seek_177 rfl (by decide) ?_
              try simp only [sil, sjl, Nat.reduceAdd, Nat.reduceEqDiff, eq_self, false_and, and_false, true_and, and_true, if_false, if_true, reduceIte]
              try simp only [Int.toNat_natCast]
              rw [hof1]
              refine g_if_ge (tgt := 192) dX10_seek_178 rfl (fun h178 => ?_) (fun h178 => ?_)
              · exfalso; omega
              · refine g_aload_n dX10_seek_181 rfl rfl ?_
                refine g_getr dX10_seek_182 fX10_73 rfl rfl ?_
                refine g_iload_n dX10_seek_185 rfl rfl ?_
                
                refine g_iald dX10_seek_186 rfl (by decide) ?_
                try simp only [sil, sjl, Nat.reduceAdd, Nat.reduceEqDiff, eq_self, false_and, and_false, true_and, and_true, if_false, if_true, reduceIte]
                try simp only [Int.toNat_natCast]
                rw [hc1]
                refine g_iconst dX10_seek_187 ?_
                refine g_iadd dX10_seek_188 ?_
                refine g_goto (tgt := 208) dX10_seek_189 rfl ?_
                rw [show (q : Int) - 1 + 1 = (q : Int) by omega]
                refine g_iast dX10_seek_208 rfl (by decide) ?_
                try simp only [Int.toNat_natCast]
                obtain ⟨M2, hM2⟩ : ∃ M2, M2 = si (si M1 0 29 ((R1.1 : Int) + 1)) 16 a.length (q : Int) := ⟨_, rfl⟩
                rw [← hM2]
                have hlt : R1.1 < 300000 := by omega
                have hS2 : SFr M0 M2 := by rw [hM2]; exact (hS1.si _ _ _).si _ _ _
                have hO2 : OldS a.length M M2 := by rw [hM2]; exact (hO1.si _ _ _).si _ _ _
                have hK2 : SK M2 (R1.1 + 1, R1.2.1, R1.2.2) := hSK.2.1 _ M2 _ (hSK.2.2.1 _ _ hK1 hlt) (by rw [hM2, si_1 _ _ _ _ _ (by decide)]) (by rw [hM2, si_1 _ _ _ _ _ (by decide)]) (by rw [hM2, si_1 _ _ _ _ _ (by decide)])
                have hc2 : M2.1 16 a.length = q := by rw [hM2, sil, if_pos ⟨rfl, rfl⟩]
                have hE2 := hE.fr hS2
                have hL2 := hL.fr1 hE hS hS2 hO2
                have hto2 : M2.1 15 a.length = o := by rw [hE2.2.2.2 _ (by omega), hget]
                by_cases hf : feC D o (mems D a q) = true ∧ c + addC D o (mems D a q) ≤ D.1 12 5
                · have hcy := can_iff hw hG ho hn hno (show q ≤ ppl by omega)
                  obtain ⟨s', y1, y2, y3⟩ := hcy.1 hf.1
                  have hG' : Good D (a ++ [(o, q)]) p' c' := by rw [hp', hc']; exact good_o hw hG ho hn hno (by omega) hf.1 hf.2
                  have hst := stepP_go (D := D) (rem := rem) (o := o) (a := a) (ppl := ppl) (c := c) (q := q) (R := R1) hR1 (by omega)
                  rw [if_pos hf, ← hc', ← hp'] at hst
                  rw [hst] at hF1
                  have hb' : c' ≤ D.1 12 5 := by rw [hc']; exact hf.2
                  obtain ⟨M3, hM3⟩ : ∃ M3, M3 = si M2 17 (a.length + 1) c' := ⟨_, rfl⟩
                  have hS3 : SFr M0 M3 := by rw [hM3]; exact hS2.si _ _ _
                  have hO3 : OldS a.length M M3 := by rw [hM3]; exact hO2.si _ _ _
                  have hK3 : SK M3 (R1.1 + 1, R1.2.1, R1.2.2) := hSK.2.1 M2 M3 _ hK2 (by rw [hM3, si_1 _ _ _ _ _ (by decide)]) (by rw [hM3, si_1 _ _ _ _ _ (by decide)]) (by rw [hM3, si_1 _ _ _ _ _ (by decide)])
                  have hc3 : M3.1 16 a.length = q := by rw [hM3, si_1 _ _ _ _ _ (by decide), hc2]
                  have hca3 : M3.1 17 (a.length + 1) = c' := by rw [hM3, sil, if_pos ⟨rfl, rfl⟩]
                  have hE3 := hE.fr hS3
                  have hL3 := hL.fr1 hE hS hS3 hO3
                  have hp3 : M3.1 18 a.length = ppl := hL3.2.2
                  have hto3 : M3.1 15 a.length = o := by rw [hE3.2.2.2 _ (by omega), hget]
                  have hm3 := hE3.2.2.1
                  have hf3 : M3.1 0 30 = ((R1.2.1.length : Nat) : Int) := (hSK.1 _ _ hK3).2.1
                  have hp15 : p' ≤ 14 := by rw [hp']; split <;> omega
                  refine g_aload_n dX10_seek_209 rfl rfl ?_
                  refine g_iload_n dX10_seek_210 rfl rfl ?_
                  refine g_aload_n dX10_seek_211 rfl rfl ?_
                  refine g_getr dX10_seek_212 fX10_73 rfl rfl ?_
                  refine g_iload_n dX10_seek_215 rfl rfl ?_
                  refine g_iald dX10_seek_216 rfl (by decide) ?_
                  try simp only [Int.toNat_natCast]
                  rw [hc2]
                  refine g_callVr dX10_seek_217 lX10_205 (can_yes (d := d) (c' := c') hw hE2.1 hE2.2.1 hG (by omega) (by omega) (by omega) ho hc0 hto2 hL2 ⟨s', y1, y2, by rw [y3, hc']⟩ hb') rfl rfl rfl rfl (Nat.le_of_ble_eq_true rfl) ?_
                  rw [← hM3]
                  refine g_istore_n (ls' := [some _, some _, some _, some _]) dX10_seek_220 rfl (by decide) rfl ?_
                  refine g_goto (tgt := 125) dX10_seek_221 rfl ?_
                  refine g_iload_n dX10_seek_125 rfl rfl ?_
                  refine g_if_ne (tgt := 224) dX10_seek_126 rfl (fun _ => ?_) (fun h126 => absurd h126 (by decide))
                  refine g_iload_n dX10_seek_224 rfl rfl ?_
                  refine g_if_ne (tgt := 234) dX10_seek_225 rfl (fun _ => ?_) (fun h225 => absurd h225 (by decide))
                  refine g_iload_n dX10_seek_234 rfl rfl ?_
                  refine g_iconst dX10_seek_235 ?_
                  refine g_iadd dX10_seek_236 ?_
                  refine g_aload_n dX10_seek_237 rfl rfl ?_
                  refine g_get dX10_seek_238 fX10_173 rfl rfl ?_
                  rw [hm3]
                  refine g_icmp_ne (tgt := 268) dX10_seek_241 rfl (fun h241 => ?_) (fun h241 => ?_)
                  · cases rem with
                    | nil => exfalso; have : ord.length = a.length + 1 := hlen; omega
                    | cons o2 rem2 =>
                      refine g_aload_n dX10_seek_268 rfl rfl ?_
                      refine g_getr dX10_seek_269 fX10_79 rfl rfl ?_
                      refine g_iload_n dX10_seek_272 rfl rfl ?_
                      refine g_iconst dX10_seek_273 ?_
                      refine g_iadd dX10_seek_274 ?_
                      refine g_aload_n dX10_seek_275 rfl rfl ?_
                      refine g_getr dX10_seek_276 fX10_73 rfl rfl ?_
                      refine g_iload_n dX10_seek_279 rfl rfl ?_
                      refine g_iald dX10_seek_280 rfl (by decide) ?_
                      try simp only [Int.toNat_natCast]
                      rw [hc3]
                      refine g_aload_n dX10_seek_281 rfl rfl ?_
                      refine g_getr dX10_seek_282 fX10_79 rfl rfl ?_
                      refine g_iload_n dX10_seek_285 rfl rfl ?_
                      refine g_iald dX10_seek_286 rfl (by decide) ?_
                      try simp only [Int.toNat_natCast]
                      rw [hp3]
                      refine g_icmp_ne (tgt := 301) dX10_seek_287 rfl (fun h287 => ?_) (fun h287 => ?_)
                      · refine g_aload_n dX10_seek_301 rfl rfl ?_
                        refine g_getr dX10_seek_302 fX10_79 rfl rfl ?_
                        refine g_iload_n dX10_seek_305 rfl rfl ?_
                        refine g_iald dX10_seek_306 rfl (by decide) ?_
                        try simp only [Int.toNat_natCast]
                        try rw [hp3]
                        refine g_iast dX10_seek_307 rfl (by decide) ?_
                        try simp only [Int.toNat_natCast]
                        rw [ek]
                        refine g_iinc (ls' := [some _, some _, some _, some _]) dX10_seek_308 rfl rfl ?_
                        refine g_aload_n dX10_seek_311 rfl rfl ?_
                        refine g_getr dX10_seek_312 fX10_73 rfl rfl ?_
                        refine g_iload_n dX10_seek_315 rfl rfl ?_
                        refine g_iconst dX10_seek_316 ?_
                        refine g_iast dX10_seek_317 rfl (by decide) ?_
                        try simp only [Int.toNat_natCast]
                        rw [ek]
                        refine g_goto (tgt := 112) dX10_seek_318 rfl ?_
                        obtain ⟨M4, hM4⟩ : ∃ M4, M4 = si (si M3 18 (a.length + 1) p') 16 (a.length + 1) (-1) := ⟨_, rfl⟩
                        have hpe : si (si M3 18 (a.length + 1) _) 16 (a.length + 1) (-1) = M4 := hM4.symm
                        have hpp' : (p' : Int) = (if q < ppl then (ppl : Int) else ppl + 1) := by rw [hp']; split <;> simp
                        first
                        | rw [show (ppl : Int) = p' by rw [hpp', if_pos (by omega)], ← hM4]
                        | rw [show (ppl : Int) + 1 = p' by rw [hpp', if_neg (by omega)], ← hM4]
                        have hS4 : SFr M0 M4 := by rw [hM4]; exact (hS3.si _ _ _).si _ _ _
                        have hO4 : OldS a.length M M4 := by rw [hM4]; exact (hO3.si _ _ _).si _ _ _
                        have hL4 := hL.fr1 hE hS hS4 hO4
                        have hK4 : SK M4 (R1.1 + 1, R1.2.1, R1.2.2) := hSK.2.1 M3 M4 _ hK3 (by rw [hM4, si_1 _ _ _ _ _ (by decide), si_1 _ _ _ _ _ (by decide)]) (by rw [hM4, si_1 _ _ _ _ _ (by decide), si_1 _ _ _ _ _ (by decide)]) (by rw [hM4, si_1 _ _ _ _ _ (by decide), si_1 _ _ _ _ _ (by decide)])
                        have el : (a ++ [(o, q)]).length = a.length + 1 := by simp
                        have hE4 := hE.fr hS4
                        have hto4 : M4.1 15 a.length = o := by rw [hE4.2.2.2 _ (by omega), hget]
                        have hc4 : M4.1 16 a.length = q := by rw [hM4, sil, if_neg (by omega), sil, if_neg (by omega), hc3]
                        have hca4 : M4.1 17 (a.length + 1) = c' := by rw [hM4, sil, if_neg (by omega), sil, if_neg (by omega), hca3]
                        have hpe4 : M4.1 18 (a.length + 1) = p' := by rw [hM4, sil, if_neg (by omega), sil, if_pos ⟨rfl, rfl⟩]
                        have hch4 : M4.1 16 (a.length + 1) = -1 := by rw [hM4, sil, if_pos ⟨rfl, rfl⟩]
                        have hgo := ih (a ++ [(o, q)]) p' c' (hord2 q) (List.cons_ne_nil _ _) hG' hc'0 (by rw [el, hp']; split <;> omega) M4 (R1.1 + 1, R1.2.1, R1.2.2) (some (vi 1)) hS4 ⟨hL4.1.snoc (by rw [Nat.zero_add]; exact hto4) (by rw [Nat.zero_add]; exact hc4), by rw [el]; exact hca4, by rw [el]; exact hpe4⟩ (by rw [el]; exact hch4) hK4 hR1
                          (fun M' x s1 s2 s3 s4 => by
                            rw [el] at s2 ⊢
                            rw [show (((a.length + 1 : Nat) : Int) + -1) = (a.length : Int) by omega]
                            refine to125 M' _ s1 (ihn (q + 1) (by omega) M' _ s1 (hO4.tr (s2.mono (by omega))) ?_ s3 s4 hF1)
                            rw [s2.1 _ (by omega), hc4]; omega)
                          (fun M' s1 s3 s4 => by
                            rw [loopP_id (fun k R h => stepP_spent h) _ _ _ s4] at hF1
                            rw [← hF1] at hstop
                            exact hstop M' s1 s3 s4)
                        rw [el] at hgo
                        exact hgo
                      · refine g_aload_n dX10_seek_290 rfl rfl ?_
                        refine g_getr dX10_seek_291 fX10_79 rfl rfl ?_
                        refine g_iload_n dX10_seek_294 rfl rfl ?_
                        refine g_iald dX10_seek_295 rfl (by decide) ?_
                        try simp only [Int.toNat_natCast]
                        rw [hp3]
                        refine g_iconst dX10_seek_296 ?_
                        refine g_iadd dX10_seek_297 ?_
                        refine g_goto (tgt := 307) dX10_seek_298 rfl ?_
                        try rw [hp3]
                        refine g_iast dX10_seek_307 rfl (by decide) ?_
                        try simp only [Int.toNat_natCast]
                        rw [ek]
                        refine g_iinc (ls' := [some _, some _, some _, some _]) dX10_seek_308 rfl rfl ?_
                        refine g_aload_n dX10_seek_311 rfl rfl ?_
                        refine g_getr dX10_seek_312 fX10_73 rfl rfl ?_
                        refine g_iload_n dX10_seek_315 rfl rfl ?_
                        refine g_iconst dX10_seek_316 ?_
                        refine g_iast dX10_seek_317 rfl (by decide) ?_
                        try simp only [Int.toNat_natCast]
                        rw [ek]
                        refine g_goto (tgt := 112) dX10_seek_318 rfl ?_
                        obtain ⟨M4, hM4⟩ : ∃ M4, M4 = si (si M3 18 (a.length + 1) p') 16 (a.length + 1) (-1) := ⟨_, rfl⟩
                        have hpe : si (si M3 18 (a.length + 1) _) 16 (a.length + 1) (-1) = M4 := hM4.symm
                        have hpp' : (p' : Int) = (if q < ppl then (ppl : Int) else ppl + 1) := by rw [hp']; split <;> simp
                        first
                        | rw [show (ppl : Int) = p' by rw [hpp', if_pos (by omega)], ← hM4]
                        | rw [show (ppl : Int) + 1 = p' by rw [hpp', if_neg (by omega)], ← hM4]
                        have hS4 : SFr M0 M4 := by rw [hM4]; exact (hS3.si _ _ _).si _ _ _
                        have hO4 : OldS a.length M M4 := by rw [hM4]; exact (hO3.si _ _ _).si _ _ _
                        have hL4 := hL.fr1 hE hS hS4 hO4
                        have hK4 : SK M4 (R1.1 + 1, R1.2.1, R1.2.2) := hSK.2.1 M3 M4 _ hK3 (by rw [hM4, si_1 _ _ _ _ _ (by decide), si_1 _ _ _ _ _ (by decide)]) (by rw [hM4, si_1 _ _ _ _ _ (by decide), si_1 _ _ _ _ _ (by decide)]) (by rw [hM4, si_1 _ _ _ _ _ (by decide), si_1 _ _ _ _ _ (by decide)])
                        have el : (a ++ [(o, q)]).length = a.length + 1 := by simp
                        have hE4 := hE.fr hS4
                        have hto4 : M4.1 15 a.length = o := by rw [hE4.2.2.2 _ (by omega), hget]
                        have hc4 : M4.1 16 a.length = q := by rw [hM4, sil, if_neg (by omega), sil, if_neg (by omega), hc3]
                        have hca4 : M4.1 17 (a.length + 1) = c' := by rw [hM4, sil, if_neg (by omega), sil, if_neg (by omega), hca3]
                        have hpe4 : M4.1 18 (a.length + 1) = p' := by rw [hM4, sil, if_neg (by omega), sil, if_pos ⟨rfl, rfl⟩]
                        have hch4 : M4.1 16 (a.length + 1) = -1 := by rw [hM4, sil, if_pos ⟨rfl, rfl⟩]
                        have hgo := ih (a ++ [(o, q)]) p' c' (hord2 q) (List.cons_ne_nil _ _) hG' hc'0 (by rw [el, hp']; split <;> omega) M4 (R1.1 + 1, R1.2.1, R1.2.2) (some (vi 1)) hS4 ⟨hL4.1.snoc (by rw [Nat.zero_add]; exact hto4) (by rw [Nat.zero_add]; exact hc4), by rw [el]; exact hca4, by rw [el]; exact hpe4⟩ (by rw [el]; exact hch4) hK4 hR1
                          (fun M' x s1 s2 s3 s4 => by
                            rw [el] at s2 ⊢
                            rw [show (((a.length + 1 : Nat) : Int) + -1) = (a.length : Int) by omega]
                            refine to125 M' _ s1 (ihn (q + 1) (by omega) M' _ s1 (hO4.tr (s2.mono (by omega))) ?_ s3 s4 hF1)
                            rw [s2.1 _ (by omega), hc4]; omega)
                          (fun M' s1 s3 s4 => by
                            rw [loopP_id (fun k R h => stepP_spent h) _ _ _ s4] at hF1
                            rw [← hF1] at hstop
                            exact hstop M' s1 s3 s4)
                        rw [el] at hgo
                        exact hgo
                  · cases rem with
                    | cons o2 rem2 => exfalso; have : ord.length = a.length + (rem2.length + 1 + 1) := hlen; omega
                    | nil =>
                      have el : (a ++ [(o, q)]).length = a.length + 1 := by simp
                      have hlen2 : ord.length = a.length + 1 := hlen
                      have hcom := hSK.2.2.2.2 (d + 2) M3 (R1.1 + 1, R1.2.1, R1.2.2) (a ++ [(o, q)]) c' hK3
                      refine g_aload_n dX10_seek_244 rfl rfl ?_
                      refine g_get dX10_seek_245 fX10_185 rfl rfl ?_
                      rw [hf3]
                      refine g_sipush dX10_seek_248 rfl ?_
                      refine g_icmp_ne (tgt := 260) dX10_seek_251 rfl (fun h251 => ?_) (fun h251 => ?_)
                      · refine g_aload_n dX10_seek_260 rfl rfl ?_
                        refine g_iload_n dX10_seek_261 rfl rfl ?_
                        refine g_callV dX10_seek_262 lX10_194 (hcom (show R1.2.1.length < 3000 by omega) (hL3.1.snoc (by rw [Nat.zero_add]; exact hto3) (by rw [Nat.zero_add]; exact hc3)) (by rw [hord2 q, List.append_nil]) (fun x hx => by have := (hG'.g1 x hx).2; omega) (by rw [hm3, el, hlen2]) (by rw [el]; exact hca3) hc'0 (by omega)) rfl rfl rfl rfl (Nat.le_of_ble_eq_true rfl) ?_
                        rintro v M4 ⟨rfl, k2, k3, k4, k5⟩
                        show G _ _ _ _ _ _ [] M4
                        refine g_goto (tgt := 112) dX10_seek_265 rfl ?_
                        have hsp : placeP D [] (a ++ [(o, q)]) p' c' (R1.1 + 1, R1.2.1, R1.2.2) = (R1.1 + 1, R1.2.1 ++ [(a ++ [(o, q)], c')], R1.2.2) := by
                          show keepR _ _ _ = _
                          unfold keepR
                          rw [if_neg (show ¬ 3000 ≤ R1.2.1.length by omega)]
                        rw [hsp] at hF1
                        exact to125 M4 _ (hS3.tr k3) (ihn (q + 1) (by omega) M4 _ (hS3.tr k3) (hO3.tr (k4.mono (by simp))) (by rw [k5, hc3]; omega) k2 hR1 hF1)
                      · refine g_aload_n dX10_seek_254 rfl rfl ?_
                        refine g_iconst dX10_seek_255 ?_
                        refine g_putz dX10_seek_256 fX10_191 rfl rfl rfl (tyX10_ok 31 (by decide)) ?_
                        refine g_vret dX10_seek_259 rfl ?_
                        have hsp : placeP D [] (a ++ [(o, q)]) p' c' (R1.1 + 1, R1.2.1, R1.2.2) = (R1.1 + 1, R1.2.1, true) := by
                          show keepR _ _ _ = _
                          unfold keepR
                          rw [if_pos (show 3000 ≤ R1.2.1.length by omega)]
                        rw [hsp, loopP_id (fun k R h => stepP_spent h) _ _ _ rfl] at hF1
                        rw [← hF1] at hstop
                        exact hstop _ (hS3.si _ _ _) (hSK.2.2.2.1 _ _ hK3) rfl
                · have hcy := can_iff hw hG ho hn hno (show q ≤ ppl by omega)
                  have hst := stepP_go (D := D) (rem := rem) (o := o) (a := a) (ppl := ppl) (c := c) (q := q) (R := R1) hR1 (by omega)
                  rw [if_neg hf] at hst
                  rw [hst] at hF1
                  refine g_aload_n dX10_seek_209 rfl rfl ?_
                  refine g_iload_n dX10_seek_210 rfl rfl ?_
                  refine g_aload_n dX10_seek_211 rfl rfl ?_
                  refine g_getr dX10_seek_212 fX10_73 rfl rfl ?_
                  refine g_iload_n dX10_seek_215 rfl rfl ?_
                  refine g_iald dX10_seek_216 rfl (by decide) ?_
                  try simp only [Int.toNat_natCast]
                  rw [hc2]
                  refine g_callV dX10_seek_217 lX10_205 (can_no (d := d) hw hE2.1 hE2.2.1 hG (by omega) (by omega) (show q ≤ ppl by omega) ho hc0 hto2 hL2 (fun s' z1 z2 => by have := hcy.2 s' z1 z2.1; exact hf ⟨this.1, by rw [← this.2]; exact z2.2⟩)) rfl rfl rfl rfl (Nat.le_of_ble_eq_true rfl) ?_
                  rintro v M3 ⟨rfl, k1, k2, k3, k4, k5, k6⟩
                  show G _ _ _ _ _ _ [vi 0] M3
                  refine g_istore_n (ls' := [some _, some _, some _, some _]) dX10_seek_220 rfl (by decide) rfl ?_
                  refine g_goto (tgt := 125) dX10_seek_221 rfl ?_
                  exact ihn (q + 1) (by omega) M3 _ (hS2.tr k1) (hO2.tr k2) (by rw [k6, hc2]; omega) (hSK.2.1 _ _ _ hK2 k3 k4 k5) hR1 hF1
            · refine g_aload_n dX10_seek_146 rfl rfl ?_
              refine g_iconst dX10_seek_147 ?_
              refine g_putz dX10_seek_148 fX10_191 rfl rfl rfl (tyX10_ok 31 (by decide)) ?_
              refine g_vret dX10_seek_151 rfl ?_
              have hst : stepP D rem o a ppl c q R1 = (R1.1, R1.2.1, true) := by
                unfold stepP
                rw [mayT_no hR1 (by omega)]
                rfl
              rw [hst, loopP_id (fun k R h => stepP_spent h) _ _ _ rfl] at hF1
              rw [← hF1] at hstop
              exact hstop _ (hS1.si _ _ _) (hSK.2.2.2.1 _ _ hK1) rfl
      exact to125 M _ hS (inner (ppl + 1) 0 (by omega) M R hS OldS.rf (by rw [hch]; rfl) hK hR hF)
    · rw [placeP_c hn] at hcont hstop
      obtain ⟨u1, u2, u3, u4⟩ := hO.2.2 o hoin hn
      obtain ⟨src, hsrc⟩ : ∃ src : Nat, D.1 10 o = src := ⟨(D.1 10 o).toNat, by omega⟩
      rw [hsrc, Int.toNat_natCast] at u2 u4
      have hsl : src < o := by omega
      have hin : src ∈ a.map (fun x => x.1) := by
        rw [hord] at u2
        rcases List.mem_append.mp u2 with u2 | u2
        · exact u2
        · exfalso
          have hpw := hO.2.1
          rw [hord, List.pairwise_append] at hpw
          rcases List.mem_cons.mp u2 with u2 | u2
          · omega
          · have := (List.pairwise_cons.mp hpw.2.1).1 _ u2
            omega
      obtain ⟨⟨y1, q⟩, hya, hy1⟩ := List.mem_map.mp hin
      have hy1 : y1 = src := hy1
      subst hy1
      have hqp : q < ppl := (hG.g1 _ hya).2
      have hper : per a y1 = q := per_in hya hG.g2
      have hyo : ((y1, q).1 : Int) = D.1 10 o := hsrc.symm
      rw [hsrc, Int.toNat_natCast, hper] at hcont hstop
      generalize hF : (if (mayT R).1 = true then placeP D rem (a ++ [(o, q)]) ppl c (mayT R).2 else (mayT R).2) = F at hcont hstop
      have fin : ∀ (M1 : Mem) (R1 : Res), SFr M0 M1 → OldS a.length M M1 → M1.1 16 a.length = (q : Int) → SK M1 R1 → R1.2.2 = false → R1 = F → G wdM mX10_seek (d + 3) Post 125 [some (vr 0), some (vi pz), some (vi a.length), some (vi 0)] [] M1 := by
        intro M1 R1 hS1 hO1 hc1 hK1 hR1 hF1
        have hE1 := hE.fr hS1
        have hto1 : M1.1 15 a.length = o := by rw [hE1.2.2.2 _ (by omega), hget]
        have hL1 := hL.fr1 hE hS hS1 hO1
        have hof1 := (hE1.1.2.1 o ho).2.2.2.2.1
        refine g_iload_n dX10_seek_125 rfl rfl ?_
        refine g_if_ne (tgt := 224) dX10_seek_126 rfl (fun h126 => absurd (by decide) h126) (fun _ => ?_)
        refine g_aload_n dX10_seek_129 rfl rfl ?_
        refine g_iload_n dX10_seek_130 rfl rfl ?_
        refine g_callVr dX10_seek_131 lX10_198 (w_X10_hasMore (k := a.length) (o := o) (by omega) (by omega) hto1 hc1 hL1.2.2 hof1 (by omega) (by omega) (by omega)) rfl rfl rfl rfl (Nat.le_of_ble_eq_true rfl) ?_
        refine g_if_eqB (tgt := 224) dX10_seek_134 rfl (fun h134 => ?_) (fun h134 => ?_)
        · refine g_iload_n dX10_seek_224 rfl rfl ?_
          refine g_if_ne (tgt := 234) dX10_seek_225 rfl (fun h225 => absurd (by decide) h225) (fun _ => ?_)
          refine g_iinc (ls' := [some _, some _, some _, some _]) dX10_seek_228 rfl rfl ?_
          refine g_goto (tgt := 112) dX10_seek_231 rfl ?_
          exact hcont M1 _ hS1 hO1 (by rw [← hF1]; exact hK1) (by rw [← hF1]; exact hR1)
        · exfalso; omega
      have start : ∀ (M1 : Mem) (R1 : Res), SFr M0 M1 → OldS a.length M M1 → M1.1 16 a.length = -1 → SK M1 R1 → R1.2.2 = false → (if (mayT R1).1 = true then placeP D rem (a ++ [(o, q)]) ppl c (mayT R1).2 else (mayT R1).2) = F → G wdM mX10_seek (d + 3) Post 125 [some (vr 0), some (vi pz), some (vi a.length), some (vi 0)] [] M1 := by
        intro M1 R1 hS1 hO1 hc1 hK1 hR1 hF1
        have hE1 := hE.fr hS1
        have hto1 : M1.1 15 a.length = o := by rw [hE1.2.2.2 _ (by omega), hget]
        have hL1 := hL.fr1 hE hS hS1 hO1
        have hof1 := (hE1.1.2.1 o ho).2.2.2.2.1
        have hof2 : M1.1 9 o = (y1 : Int) := by rw [hof1, hsrc]
        obtain ⟨hk1, hk2, hk3, hk4⟩ := hSK.1 _ _ hK1
        obtain ⟨c', hc'⟩ : ∃ c', c' = c := ⟨_, rfl⟩
        obtain ⟨p', hp'⟩ : ∃ p', p' = (if q < ppl then ppl else ppl + 1) := ⟨_, rfl⟩
        have hpq : p' = ppl := by rw [hp', if_pos hqp]
        have hc'0 : 0 ≤ c' := by omega
        have hbud : D.1 12 5 ≤ 300 := hw.2.2.2.2.2.2.2.1.2.1
        refine g_iload_n dX10_seek_125 rfl rfl ?_
        refine g_if_ne (tgt := 224) dX10_seek_126 rfl (fun h126 => absurd (by decide) h126) (fun _ => ?_)
        refine g_aload_n dX10_seek_129 rfl rfl ?_
        refine g_iload_n dX10_seek_130 rfl rfl ?_
        refine g_callVr dX10_seek_131 lX10_198 (w_X10_hasMore (k := a.length) (o := o) (by omega) (by omega) hto1 hc1 hL1.2.2 hof1 (by omega) (by omega) (by omega)) rfl rfl rfl rfl (Nat.le_of_ble_eq_true rfl) ?_
        refine g_if_eqB (tgt := 224) dX10_seek_134 rfl (fun h134 => ?_) (fun h134 => ?_)
        · exfalso; omega
        · refine g_aload_n dX10_seek_137 rfl rfl ?_
          refine g_get dX10_seek_138 fX10_188 rfl rfl ?_
          rw [hk1]
          refine g_ldc (z := 300000) dX10_seek_141 kX10_201 rfl ?_
          refine g_icmp_ne (tgt := 152) dX10_seek_143 rfl (fun h143 => ?_) (fun h143 => ?_)
          · refine g_aload_n dX10_seek_152 rfl rfl ?_
            refine g_dup dX10_seek_153 rfl ?_
            refine g_get dX10_seek_154 fX10_188 rfl rfl ?_
            try rw [hk1]
            refine g_iconst dX10_seek_157 ?_
            refine g_iadd dX10_seek_158 ?_
            refine g_puti dX10_seek_159 fX10_188 rfl rfl rfl (tyX10_ok 29 (by decide)) ?_
            refine g_aload_n dX10_seek_162 rfl rfl ?_
            refine g_getr dX10_seek_163 fX10_73 rfl rfl ?_
            refine g_iload_n dX10_seek_166 rfl rfl ?_
            refine g_aload_n dX10_seek_167 rfl rfl ?_
            refine g_getr dX10_seek_168 fX10_34 rfl rfl ?_
            refine g_aload_n dX10_seek_171 rfl rfl ?_
            refine g_getr dX10_seek_172 fX10_70 rfl rfl ?_
            refine g_iload_n dX10_seek_175 rfl rfl ?_
            refine g_iald dX10_seek_176 rfl (by decide) ?_
            try simp only [sil, sjl, Nat.reduceAdd, Nat.reduceEqDiff, eq_self, false_and, and_false, true_and, and_true, if_false, if_true, reduceIte]
            try simp only [Int.toNat_natCast]
            rw [hto1]
            refine g_iald dX10_seek_177 rfl (by decide) ?_
            try simp only [sil, sjl, Nat.reduceAdd, Nat.reduceEqDiff, eq_self, false_and, and_false, true_and, and_true, if_false, if_true, reduceIte]
            try simp only [Int.toNat_natCast]
            rw [hof1]
            refine g_if_ge (tgt := 192) dX10_seek_178 rfl (fun h178 => ?_) (fun h178 => ?_)
            · refine g_aload_n dX10_seek_192 rfl rfl ?_
              refine g_aload_n dX10_seek_193 rfl rfl ?_
              refine g_getr dX10_seek_194 fX10_34 rfl rfl ?_
              refine g_aload_n dX10_seek_197 rfl rfl ?_
              refine g_getr dX10_seek_198 fX10_70 rfl rfl ?_
              refine g_iload_n dX10_seek_201 rfl rfl ?_
              refine g_iald dX10_seek_202 rfl (by decide) ?_
              try simp only [sil, sjl, Nat.reduceAdd, Nat.reduceEqDiff, eq_self, false_and, and_false, true_and, and_true, if_false, if_true, reduceIte]
              try simp only [Int.toNat_natCast]
              rw [hto1]
              refine g_iald dX10_seek_203 rfl (by decide) ?_
              try simp only [sil, sjl, Nat.reduceAdd, Nat.reduceEqDiff, eq_self, false_and, and_false, true_and, and_true, if_false, if_true, reduceIte]
              try simp only [Int.toNat_natCast]
              rw [hof2]
              refine g_iload_n dX10_seek_204 rfl rfl ?_
              refine g_callVr dX10_seek_205 lX10_202 (w_X10_personOf (a := a) (o := y1) hax (by omega) (by omega) (hL1.1.fr (fun j _ => ⟨by rw [si_1 _ _ _ _ _ (by decide)], by rw [si_1 _ _ _ _ _ (by decide)]⟩))) rfl rfl rfl rfl (Nat.le_of_ble_eq_true rfl) ?_
              rw [hper]
              refine g_iast dX10_seek_208 rfl (by decide) ?_
              try simp only [Int.toNat_natCast]
              obtain ⟨M2, hM2⟩ : ∃ M2, M2 = si (si M1 0 29 ((R1.1 : Int) + 1)) 16 a.length (q : Int) := ⟨_, rfl⟩
              rw [← hM2]
              have hlt : R1.1 < 300000 := by omega
              have hS2 : SFr M0 M2 := by rw [hM2]; exact (hS1.si _ _ _).si _ _ _
              have hO2 : OldS a.length M M2 := by rw [hM2]; exact (hO1.si _ _ _).si _ _ _
              have hK2 : SK M2 (R1.1 + 1, R1.2.1, R1.2.2) := hSK.2.1 _ M2 _ (hSK.2.2.1 _ _ hK1 hlt) (by rw [hM2, si_1 _ _ _ _ _ (by decide)]) (by rw [hM2, si_1 _ _ _ _ _ (by decide)]) (by rw [hM2, si_1 _ _ _ _ _ (by decide)])
              have hc2 : M2.1 16 a.length = q := by rw [hM2, sil, if_pos ⟨rfl, rfl⟩]
              have hE2 := hE.fr hS2
              have hL2 := hL.fr1 hE hS hS2 hO2
              have hto2 : M2.1 15 a.length = o := by rw [hE2.2.2.2 _ (by omega), hget]
              obtain ⟨s', y1', y2', y3'⟩ := can_copy hw hG ho hno hya hyo u4
              have hG' : Good D (a ++ [(o, q)]) p' c' := by rw [hpq, hc']; exact good_c hw hG ho hno hya hyo u4
              rw [mayT_go hR1 (by omega), if_pos rfl, ← hc', ← hpq] at hF1
              have hb' : c' ≤ D.1 12 5 := by rw [hc']; exact hG.g7
              obtain ⟨M3, hM3⟩ : ∃ M3, M3 = si M2 17 (a.length + 1) c' := ⟨_, rfl⟩
              have hS3 : SFr M0 M3 := by rw [hM3]; exact hS2.si _ _ _
              have hO3 : OldS a.length M M3 := by rw [hM3]; exact hO2.si _ _ _
              have hK3 : SK M3 (R1.1 + 1, R1.2.1, R1.2.2) := hSK.2.1 M2 M3 _ hK2 (by rw [hM3, si_1 _ _ _ _ _ (by decide)]) (by rw [hM3, si_1 _ _ _ _ _ (by decide)]) (by rw [hM3, si_1 _ _ _ _ _ (by decide)])
              have hc3 : M3.1 16 a.length = q := by rw [hM3, si_1 _ _ _ _ _ (by decide), hc2]
              have hca3 : M3.1 17 (a.length + 1) = c' := by rw [hM3, sil, if_pos ⟨rfl, rfl⟩]
              have hE3 := hE.fr hS3
              have hL3 := hL.fr1 hE hS hS3 hO3
              have hp3 : M3.1 18 a.length = ppl := hL3.2.2
              have hto3 : M3.1 15 a.length = o := by rw [hE3.2.2.2 _ (by omega), hget]
              have hm3 := hE3.2.2.1
              have hf3 : M3.1 0 30 = ((R1.2.1.length : Nat) : Int) := (hSK.1 _ _ hK3).2.1
              have hp15 : p' ≤ 14 := by rw [hp']; split <;> omega
              refine g_aload_n dX10_seek_209 rfl rfl ?_
              refine g_iload_n dX10_seek_210 rfl rfl ?_
              refine g_aload_n dX10_seek_211 rfl rfl ?_
              refine g_getr dX10_seek_212 fX10_73 rfl rfl ?_
              refine g_iload_n dX10_seek_215 rfl rfl ?_
              refine g_iald dX10_seek_216 rfl (by decide) ?_
              try simp only [Int.toNat_natCast]
              rw [hc2]
              refine g_callVr dX10_seek_217 lX10_205 (can_yes (d := d) (c' := c') hw hE2.1 hE2.2.1 hG (by omega) (by omega) (by omega) ho hc0 hto2 hL2 ⟨s', y1', y2', by rw [y3', hc']⟩ hb') rfl rfl rfl rfl (Nat.le_of_ble_eq_true rfl) ?_
              rw [← hM3]
              refine g_istore_n (ls' := [some _, some _, some _, some _]) dX10_seek_220 rfl (by decide) rfl ?_
              refine g_goto (tgt := 125) dX10_seek_221 rfl ?_
              refine g_iload_n dX10_seek_125 rfl rfl ?_
              refine g_if_ne (tgt := 224) dX10_seek_126 rfl (fun _ => ?_) (fun h126 => absurd h126 (by decide))
              refine g_iload_n dX10_seek_224 rfl rfl ?_
              refine g_if_ne (tgt := 234) dX10_seek_225 rfl (fun _ => ?_) (fun h225 => absurd h225 (by decide))
              refine g_iload_n dX10_seek_234 rfl rfl ?_
              refine g_iconst dX10_seek_235 ?_
              refine g_iadd dX10_seek_236 ?_
              refine g_aload_n dX10_seek_237 rfl rfl ?_
              refine g_get dX10_seek_238 fX10_173 rfl rfl ?_
              rw [hm3]
              refine g_icmp_ne (tgt := 268) dX10_seek_241 rfl (fun h241 => ?_) (fun h241 => ?_)
              · cases rem with
                | nil => exfalso; have : ord.length = a.length + 1 := hlen; omega
                | cons o2 rem2 =>
                  refine g_aload_n dX10_seek_268 rfl rfl ?_
                  refine g_getr dX10_seek_269 fX10_79 rfl rfl ?_
                  refine g_iload_n dX10_seek_272 rfl rfl ?_
                  refine g_iconst dX10_seek_273 ?_
                  refine g_iadd dX10_seek_274 ?_
                  refine g_aload_n dX10_seek_275 rfl rfl ?_
                  refine g_getr dX10_seek_276 fX10_73 rfl rfl ?_
                  refine g_iload_n dX10_seek_279 rfl rfl ?_
                  refine g_iald dX10_seek_280 rfl (by decide) ?_
                  try simp only [Int.toNat_natCast]
                  rw [hc3]
                  refine g_aload_n dX10_seek_281 rfl rfl ?_
                  refine g_getr dX10_seek_282 fX10_79 rfl rfl ?_
                  refine g_iload_n dX10_seek_285 rfl rfl ?_
                  refine g_iald dX10_seek_286 rfl (by decide) ?_
                  try simp only [Int.toNat_natCast]
                  rw [hp3]
                  refine g_icmp_ne (tgt := 301) dX10_seek_287 rfl (fun h287 => ?_) (fun h287 => ?_)
                  · refine g_aload_n dX10_seek_301 rfl rfl ?_
                    refine g_getr dX10_seek_302 fX10_79 rfl rfl ?_
                    refine g_iload_n dX10_seek_305 rfl rfl ?_
                    refine g_iald dX10_seek_306 rfl (by decide) ?_
                    try simp only [Int.toNat_natCast]
                    try rw [hp3]
                    refine g_iast dX10_seek_307 rfl (by decide) ?_
                    try simp only [Int.toNat_natCast]
                    rw [ek]
                    refine g_iinc (ls' := [some _, some _, some _, some _]) dX10_seek_308 rfl rfl ?_
                    refine g_aload_n dX10_seek_311 rfl rfl ?_
                    refine g_getr dX10_seek_312 fX10_73 rfl rfl ?_
                    refine g_iload_n dX10_seek_315 rfl rfl ?_
                    refine g_iconst dX10_seek_316 ?_
                    refine g_iast dX10_seek_317 rfl (by decide) ?_
                    try simp only [Int.toNat_natCast]
                    rw [ek]
                    refine g_goto (tgt := 112) dX10_seek_318 rfl ?_
                    obtain ⟨M4, hM4⟩ : ∃ M4, M4 = si (si M3 18 (a.length + 1) p') 16 (a.length + 1) (-1) := ⟨_, rfl⟩
                    have hpe : si (si M3 18 (a.length + 1) _) 16 (a.length + 1) (-1) = M4 := hM4.symm
                    have hpp' : (p' : Int) = (if q < ppl then (ppl : Int) else ppl + 1) := by rw [hp']; split <;> simp
                    first
                    | rw [show (ppl : Int) = p' by rw [hpp', if_pos (by omega)], ← hM4]
                    | rw [show (ppl : Int) + 1 = p' by rw [hpp', if_neg (by omega)], ← hM4]
                    have hS4 : SFr M0 M4 := by rw [hM4]; exact (hS3.si _ _ _).si _ _ _
                    have hO4 : OldS a.length M M4 := by rw [hM4]; exact (hO3.si _ _ _).si _ _ _
                    have hL4 := hL.fr1 hE hS hS4 hO4
                    have hK4 : SK M4 (R1.1 + 1, R1.2.1, R1.2.2) := hSK.2.1 M3 M4 _ hK3 (by rw [hM4, si_1 _ _ _ _ _ (by decide), si_1 _ _ _ _ _ (by decide)]) (by rw [hM4, si_1 _ _ _ _ _ (by decide), si_1 _ _ _ _ _ (by decide)]) (by rw [hM4, si_1 _ _ _ _ _ (by decide), si_1 _ _ _ _ _ (by decide)])
                    have el : (a ++ [(o, q)]).length = a.length + 1 := by simp
                    have hE4 := hE.fr hS4
                    have hto4 : M4.1 15 a.length = o := by rw [hE4.2.2.2 _ (by omega), hget]
                    have hc4 : M4.1 16 a.length = q := by rw [hM4, sil, if_neg (by omega), sil, if_neg (by omega), hc3]
                    have hca4 : M4.1 17 (a.length + 1) = c' := by rw [hM4, sil, if_neg (by omega), sil, if_neg (by omega), hca3]
                    have hpe4 : M4.1 18 (a.length + 1) = p' := by rw [hM4, sil, if_neg (by omega), sil, if_pos ⟨rfl, rfl⟩]
                    have hch4 : M4.1 16 (a.length + 1) = -1 := by rw [hM4, sil, if_pos ⟨rfl, rfl⟩]
                    have hgo := ih (a ++ [(o, q)]) p' c' (hord2 q) (List.cons_ne_nil _ _) hG' hc'0 (by rw [el, hp']; split <;> omega) M4 (R1.1 + 1, R1.2.1, R1.2.2) (some (vi 1)) hS4 ⟨hL4.1.snoc (by rw [Nat.zero_add]; exact hto4) (by rw [Nat.zero_add]; exact hc4), by rw [el]; exact hca4, by rw [el]; exact hpe4⟩ (by rw [el]; exact hch4) hK4 hR1
                      (fun M' x s1 s2 s3 s4 => by
                        rw [el] at s2 ⊢
                        rw [show (((a.length + 1 : Nat) : Int) + -1) = (a.length : Int) by omega]
                        refine to125 M' _ s1 (fin M' _ s1 (hO4.tr (s2.mono (by omega))) ?_ s3 s4 hF1)
                        rw [s2.1 _ (by omega), hc4])
                      (fun M' s1 s3 s4 => by
                        rw [← hF1] at hstop
                        exact hstop M' s1 s3 s4)
                    rw [el] at hgo
                    exact hgo
                  · refine g_aload_n dX10_seek_290 rfl rfl ?_
                    refine g_getr dX10_seek_291 fX10_79 rfl rfl ?_
                    refine g_iload_n dX10_seek_294 rfl rfl ?_
                    refine g_iald dX10_seek_295 rfl (by decide) ?_
                    try simp only [Int.toNat_natCast]
                    rw [hp3]
                    refine g_iconst dX10_seek_296 ?_
                    refine g_iadd dX10_seek_297 ?_
                    refine g_goto (tgt := 307) dX10_seek_298 rfl ?_
                    try rw [hp3]
                    refine g_iast dX10_seek_307 rfl (by decide) ?_
                    try simp only [Int.toNat_natCast]
                    rw [ek]
                    refine g_iinc (ls' := [some _, some _, some _, some _]) dX10_seek_308 rfl rfl ?_
                    refine g_aload_n dX10_seek_311 rfl rfl ?_
                    refine g_getr dX10_seek_312 fX10_73 rfl rfl ?_
                    refine g_iload_n dX10_seek_315 rfl rfl ?_
                    refine g_iconst dX10_seek_316 ?_
                    refine g_iast dX10_seek_317 rfl (by decide) ?_
                    try simp only [Int.toNat_natCast]
                    rw [ek]
                    refine g_goto (tgt := 112) dX10_seek_318 rfl ?_
                    obtain ⟨M4, hM4⟩ : ∃ M4, M4 = si (si M3 18 (a.length + 1) p') 16 (a.length + 1) (-1) := ⟨_, rfl⟩
                    have hpe : si (si M3 18 (a.length + 1) _) 16 (a.length + 1) (-1) = M4 := hM4.symm
                    have hpp' : (p' : Int) = (if q < ppl then (ppl : Int) else ppl + 1) := by rw [hp']; split <;> simp
                    first
                    | rw [show (ppl : Int) = p' by rw [hpp', if_pos (by omega)], ← hM4]
                    | rw [show (ppl : Int) + 1 = p' by rw [hpp', if_neg (by omega)], ← hM4]
                    have hS4 : SFr M0 M4 := by rw [hM4]; exact (hS3.si _ _ _).si _ _ _
                    have hO4 : OldS a.length M M4 := by rw [hM4]; exact (hO3.si _ _ _).si _ _ _
                    have hL4 := hL.fr1 hE hS hS4 hO4
                    have hK4 : SK M4 (R1.1 + 1, R1.2.1, R1.2.2) := hSK.2.1 M3 M4 _ hK3 (by rw [hM4, si_1 _ _ _ _ _ (by decide), si_1 _ _ _ _ _ (by decide)]) (by rw [hM4, si_1 _ _ _ _ _ (by decide), si_1 _ _ _ _ _ (by decide)]) (by rw [hM4, si_1 _ _ _ _ _ (by decide), si_1 _ _ _ _ _ (by decide)])
                    have el : (a ++ [(o, q)]).length = a.length + 1 := by simp
                    have hE4 := hE.fr hS4
                    have hto4 : M4.1 15 a.length = o := by rw [hE4.2.2.2 _ (by omega), hget]
                    have hc4 : M4.1 16 a.length = q := by rw [hM4, sil, if_neg (by omega), sil, if_neg (by omega), hc3]
                    have hca4 : M4.1 17 (a.length + 1) = c' := by rw [hM4, sil, if_neg (by omega), sil, if_neg (by omega), hca3]
                    have hpe4 : M4.1 18 (a.length + 1) = p' := by rw [hM4, sil, if_neg (by omega), sil, if_pos ⟨rfl, rfl⟩]
                    have hch4 : M4.1 16 (a.length + 1) = -1 := by rw [hM4, sil, if_pos ⟨rfl, rfl⟩]
                    have hgo := ih (a ++ [(o, q)]) p' c' (hord2 q) (List.cons_ne_nil _ _) hG' hc'0 (by rw [el, hp']; split <;> omega) M4 (R1.1 + 1, R1.2.1, R1.2.2) (some (vi 1)) hS4 ⟨hL4.1.snoc (by rw [Nat.zero_add]; exact hto4) (by rw [Nat.zero_add]; exact hc4), by rw [el]; exact hca4, by rw [el]; exact hpe4⟩ (by rw [el]; exact hch4) hK4 hR1
                      (fun M' x s1 s2 s3 s4 => by
                        rw [el] at s2 ⊢
                        rw [show (((a.length + 1 : Nat) : Int) + -1) = (a.length : Int) by omega]
                        refine to125 M' _ s1 (fin M' _ s1 (hO4.tr (s2.mono (by omega))) ?_ s3 s4 hF1)
                        rw [s2.1 _ (by omega), hc4])
                      (fun M' s1 s3 s4 => by
                        rw [← hF1] at hstop
                        exact hstop M' s1 s3 s4)
                    rw [el] at hgo
                    exact hgo
              · cases rem with
                | cons o2 rem2 => exfalso; have : ord.length = a.length + (rem2.length + 1 + 1) := hlen; omega
                | nil =>
                  have el : (a ++ [(o, q)]).length = a.length + 1 := by simp
                  have hlen2 : ord.length = a.length + 1 := hlen
                  have hcom := hSK.2.2.2.2 (d + 2) M3 (R1.1 + 1, R1.2.1, R1.2.2) (a ++ [(o, q)]) c' hK3
                  refine g_aload_n dX10_seek_244 rfl rfl ?_
                  refine g_get dX10_seek_245 fX10_185 rfl rfl ?_
                  rw [hf3]
                  refine g_sipush dX10_seek_248 rfl ?_
                  refine g_icmp_ne (tgt := 260) dX10_seek_251 rfl (fun h251 => ?_) (fun h251 => ?_)
                  · refine g_aload_n dX10_seek_260 rfl rfl ?_
                    refine g_iload_n dX10_seek_261 rfl rfl ?_
                    refine g_callV dX10_seek_262 lX10_194 (hcom (show R1.2.1.length < 3000 by omega) (hL3.1.snoc (by rw [Nat.zero_add]; exact hto3) (by rw [Nat.zero_add]; exact hc3)) (by rw [hord2 q, List.append_nil]) (fun x hx => by have := (hG'.g1 x hx).2; omega) (by rw [hm3, el, hlen2]) (by rw [el]; exact hca3) hc'0 (by omega)) rfl rfl rfl rfl (Nat.le_of_ble_eq_true rfl) ?_
                    rintro v M4 ⟨rfl, k2, k3, k4, k5⟩
                    show G _ _ _ _ _ _ [] M4
                    refine g_goto (tgt := 112) dX10_seek_265 rfl ?_
                    have hsp : placeP D [] (a ++ [(o, q)]) p' c' (R1.1 + 1, R1.2.1, R1.2.2) = (R1.1 + 1, R1.2.1 ++ [(a ++ [(o, q)], c')], R1.2.2) := by
                      show keepR _ _ _ = _
                      unfold keepR
                      rw [if_neg (show ¬ 3000 ≤ R1.2.1.length by omega)]
                    rw [hsp] at hF1
                    exact to125 M4 _ (hS3.tr k3) (fin M4 _ (hS3.tr k3) (hO3.tr (k4.mono (by simp))) (by rw [k5, hc3]) k2 hR1 hF1)
                  · refine g_aload_n dX10_seek_254 rfl rfl ?_
                    refine g_iconst dX10_seek_255 ?_
                    refine g_putz dX10_seek_256 fX10_191 rfl rfl rfl (tyX10_ok 31 (by decide)) ?_
                    refine g_vret dX10_seek_259 rfl ?_
                    have hsp : placeP D [] (a ++ [(o, q)]) p' c' (R1.1 + 1, R1.2.1, R1.2.2) = (R1.1 + 1, R1.2.1, true) := by
                      show keepR _ _ _ = _
                      unfold keepR
                      rw [if_pos (show 3000 ≤ R1.2.1.length by omega)]
                    rw [hsp] at hF1
                    rw [← hF1] at hstop
                    exact hstop _ (hS3.si _ _ _) (hSK.2.2.2.1 _ _ hK3) rfl
            · exfalso; omega
          · refine g_aload_n dX10_seek_146 rfl rfl ?_
            refine g_iconst dX10_seek_147 ?_
            refine g_putz dX10_seek_148 fX10_191 rfl rfl rfl (tyX10_ok 31 (by decide)) ?_
            refine g_vret dX10_seek_151 rfl ?_
            have hF2 : (R1.1, R1.2.1, true) = F := by
              rw [← hF1, mayT_no hR1 (by omega)]
              rfl
            rw [← hF2] at hstop
            exact hstop _ (hS1.si _ _ _) (hSK.2.2.2.1 _ _ hK1) rfl
      exact to125 M _ hS (start M R hS OldS.rf hch hK hR hF)

