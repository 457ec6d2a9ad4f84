/-! MODULE 15: tries, and what is kept of a way that is found. -/
theorem un_or (x y : Int64) : un (x ||| y) = un x ||| un y := by
  show (x.toBitVec ||| y.toBitVec).toNat = _
  rw [BitVec.toNat_or]; rfl
theorem i2l_16 : ∀ p : Fin 16, un ((Int32.ofInt ((p.val : Nat) : Int)).toInt64) = p.val := by decide +kernel
theorem un_lshl {y : Int64} {k : Nat} (hk : k < 64) : un (lshl y k) = un y <<< k % 2 ^ 64 := by
  unfold lshl un
  show (y.toBitVec <<< (((Int32.ofInt (k : Int)).toInt64 &&& 63).toBitVec.smod 64)).toNat = _
  rw [lsh_amount2 ⟨k, hk⟩]
  show (y.toBitVec <<< (BitVec.ofNat 64 k).toNat).toNat = _
  rw [BitVec.toNat_shiftLeft, BitVec.toNat_ofNat, Nat.mod_eq_of_lt (show k < 2 ^ 64 by omega)]
theorem dig_or {x : Int64} {p r r' : Nat} (hp : p < 16) (hr : r < 14) (hr' : r' < 14) (hz : dig x r = 0) : dig (x ||| lshl ((Int32.ofInt (p : Int)).toInt64) ((4 * r : Nat) : Int)) r' = if r' = r then p else dig x r' := by
  have hb : ∀ j, 4 ≤ j → p.testBit j = false := fun j hj => Nat.testBit_lt_two_pow (Nat.lt_of_lt_of_le hp (Nat.pow_le_pow_right (n := 2) (i := 4) (by decide) hj))
  have hs : p <<< (4 * r) % 2 ^ 64 = p <<< (4 * r) := by
    apply Nat.mod_eq_of_lt
    rw [Nat.shiftLeft_eq]
    calc p * 2 ^ (4 * r) < 16 * 2 ^ (4 * r) := Nat.mul_lt_mul_of_pos_right hp (Nat.two_pow_pos _)
      _ ≤ 16 * 2 ^ 52 := Nat.mul_le_mul_left _ (Nat.pow_le_pow_right (by decide) (by omega))
      _ ≤ 2 ^ 64 := by decide
  have hdig : ∀ (y : Int64) (t j : Nat), (dig y t).testBit j = (decide (j < 4) && (un y).testBit (4 * t + j)) := by
    intro y t j
    unfold dig
    rw [show (16 : Nat) = 2 ^ 4 from rfl, Nat.testBit_mod_two_pow, Nat.testBit_shiftRight]
  have hx : ∀ j, j < 4 → (un x).testBit (4 * r + j) = false := fun j hj => by
    have := hdig x r j
    rw [hz, Nat.zero_testBit] at this
    simpa [hj] using this.symm
  apply Nat.eq_of_testBit_eq
  intro j
  rw [hdig, un_or, un_lshl (by omega), i2l_16 ⟨p, hp⟩, hs, Nat.testBit_or, Nat.testBit_shiftLeft]
  by_cases hj : j < 4
  · by_cases h : r' = r
    · subst h
      rw [if_pos rfl, hx j hj]
      simp [hj]
    · rw [if_neg h, hdig]
      by_cases hlt : r' < r
      · simp [hj, show ¬ 4 * r ≤ 4 * r' + j by omega]
      · have := hb (4 * r' + j - 4 * r) (by omega)
        simp [hj, this]
  · have h4 : ∀ z : Nat, z < 16 → z.testBit j = false := fun z hz => Nat.testBit_lt_two_pow (Nat.lt_of_lt_of_le hz (Nat.pow_le_pow_right (n := 2) (i := 4) (by decide) (by omega)))
    have h5 : (if r' = r then p else dig x r') < 16 := by split; exact hp; exact Nat.mod_lt _ (by decide)
    rw [h4 _ h5]
    simp [hj]
theorem nodup_at {l : List Nat} (h : l.Nodup) (i j : Nat) (hi : i < l.length) (hj : j < l.length) (he : l[i] = l[j]) : i = j := by
  have hp := List.pairwise_iff_getElem.mp h
  rcases Nat.lt_trichotomy i j with h1 | h1 | h1
  · exact absurd he (hp i j hi hj h1)
  · exact h1
  · exact absurd he.symm (hp j i hj hi h1)
def tryM (b : Nat) (M : Mem) : Mem := if M.1 b 13 = 0 then (if 300000 ≤ M.1 b 11 then si M b 13 1 else si M b 11 (M.1 b 11 + 1)) else M
def Ord (b : Nat) (M : Mem) (ord : List Nat) : Prop := M.1 b 9 = ord.length ∧ ∀ i, i < ord.length → M.1 (b + 1) i = (ord.getD i 0 : Nat)
theorem getD_mem {l : List Nat} {i : Nat} (h : i < l.length) : l.getD i 0 ∈ l := by
  rw [List.getD_eq_getElem?_getD, List.getElem?_eq_getElem h]
  exact List.getElem_mem _
theorem take_mem {l : List Nat} {i : Nat} (h : i < l.length) (b : Nat) : b ∈ l.take (i + 1) ↔ b ∈ l.take i ∨ b = l.getD i 0 := by
  have : l.take (i + 1) = l.take i ++ [l.getD i 0] := by
    rw [List.take_add_one, List.getElem?_eq_getElem h, List.getD_eq_getElem?_getD, List.getElem?_eq_getElem h]; rfl
  rw [this, List.mem_append, List.mem_singleton]
/-- the results of the seeker at b, with room for so many ways -/
def RInv (b room : Nat) (ord : List Nat) (M : Mem) (R : Res) : Prop :=
  M.1 b 11 = R.1 ∧ M.1 b 12 = R.2.1.length ∧ M.1 b 13 = (if R.2.2 = true then 1 else 0) ∧ R.1 ≤ 300000 ∧ R.2.1.length ≤ 3000 ∧
  (∀ k, k < R.2.1.length → k < room → (∀ r, r < 14 → dig (M.2 (b + 18) k) r = per (R.2.1.getD k ([], 0)).1 r) ∧ M.1 (b + 19) k = (R.2.1.getD k ([], 0)).2) ∧
  ∀ a ∈ ord, 0 ≤ M.1 (b + 3) a ∧ M.1 (b + 3) a < 16384 ∧ ∀ c ∈ ord, ((M.1 (b + 3) a).toNat.testBit c = true ↔ ∀ w ∈ R.2.1, per w.1 a = per w.1 c)
theorem RInv.try {b room : Nat} {ord : List Nat} {M : Mem} {R : Res} (h : RInv b room ord M R) : RInv b room ord (tryM b M) (mayT R).2 ∧ ((M.1 b 13 = 0 ∧ M.1 b 11 < 300000) ↔ (mayT R).1 = true) := by
  obtain ⟨h1, h2, h3, h4, h5, h6, h7⟩ := h
  by_cases hs : R.2.2 = true
  · rw [if_pos hs] at h3
    have e1 : tryM b M = M := by unfold tryM; rw [if_neg (by omega)]
    have e2 : mayT R = (false, R) := mayT_spent hs
    rw [e1, e2]
    exact ⟨⟨h1, h2, by rw [if_pos hs]; exact h3, h4, h5, h6, h7⟩, ⟨fun z => by omega, fun z => by cases z⟩⟩
  · rw [if_neg hs] at h3
    by_cases ht : 300000 ≤ R.1
    · have e1 : tryM b M = si M b 13 1 := by unfold tryM; rw [if_pos h3, if_pos (by omega)]
      have e2 : mayT R = (false, (R.1, R.2.1, true)) := by unfold mayT; rw [if_neg hs, if_pos ht]
      rw [e1, e2]
      refine ⟨⟨by rw [← h1]; simp [sil], by rw [← h2]; simp [sil], by simp [sil], h4, h5, fun k hk hr => ?_, fun a ha => ?_⟩, ⟨fun z => by omega, fun z => by cases z⟩⟩
      · have := h6 k hk hr
        refine ⟨this.1, ?_⟩
        rw [← this.2]; simp [sil]
      · have := h7 a ha
        rw [show (si M b 13 1).1 (b + 3) a = M.1 (b + 3) a by simp [sil]]
        exact this
    · have e1 : tryM b M = si M b 11 (M.1 b 11 + 1) := by unfold tryM; rw [if_pos h3, if_neg (by omega)]
      have e2 : mayT R = (true, (R.1 + 1, R.2.1, R.2.2)) := by unfold mayT; rw [if_neg hs, if_neg ht]
      rw [e1, e2]
      refine ⟨⟨by simp [sil, h1], by rw [← h2]; simp [sil], by rw [if_neg hs, ← h3]; simp [sil], by show R.1 + 1 ≤ 300000; omega, h5, fun k hk hr => ?_, fun a ha => ?_⟩, ⟨fun z => rfl, fun z => by omega⟩⟩
      · have := h6 k hk hr
        refine ⟨this.1, ?_⟩
        rw [← this.2]; simp [sil]
      · have := h7 a ha
        rw [show (si M b 11 (M.1 b 11 + 1)).1 (b + 3) a = M.1 (b + 3) a by simp [sil]]
        exact this

theorem w_X6_mayTry_W {d : Nat} {M : Mem} (hs : M.1 24 13 = 0 ∨ M.1 24 13 = 1) (ht0 : 0 ≤ M.1 24 11) (ht1 : M.1 24 11 ≤ 300000) : WP wdC d mX6_mayTry [vr 24] M (Ret (some (vi (bi (M.1 24 13 = 0 ∧ M.1 24 11 < 300000)))) (tryM 24 M)) := by
  refine wp_of (by decide +kernel) (Nat.le_of_ble_eq_true rfl) ?_
  refine g_aload_n dX6_mayTry_0 rfl rfl ?_
  refine g_get dX6_mayTry_1 fX6_37 rfl rfl ?_
  refine g_if_ne (tgt := 21) dX6_mayTry_4 rfl (fun h4 => ?_) (fun h4 => ?_)
  · refine g_aload_n dX6_mayTry_21 rfl rfl ?_
    refine g_get dX6_mayTry_22 fX6_37 rfl rfl ?_
    refine g_if_eq (tgt := 30) dX6_mayTry_25 rfl (fun h25 => ?_) (fun h25 => ?_)
    · refine g_aload_n dX6_mayTry_30 rfl rfl ?_
      refine g_dup dX6_mayTry_31 rfl ?_
      refine g_get dX6_mayTry_32 fX6_31 rfl rfl ?_
      refine g_iconst dX6_mayTry_35 ?_
      refine g_iadd dX6_mayTry_36 ?_
      refine g_puti dX6_mayTry_37 fX6_31 rfl rfl rfl (tyX6_ok 11 (by decide)) ?_
      refine g_iconst dX6_mayTry_40 ?_
      refine g_zret dX6_mayTry_41 rfl ?_
      first
        | (exfalso; omega)
        | exact ⟨by rw [bi_t (by omega)], by unfold tryM; rw [if_pos (by omega), if_neg (by omega)]⟩
        | exact ⟨by rw [bi_f (by omega)], by unfold tryM; rw [if_pos (by omega), if_pos (by omega)]⟩
        | exact ⟨by rw [bi_f (by omega)], by unfold tryM; rw [if_neg (by omega)]⟩
        | (exfalso; omega)
    · refine g_iconst dX6_mayTry_28 ?_
      refine g_zret dX6_mayTry_29 rfl ?_
      first
        | (exfalso; omega)
        | exact ⟨by rw [bi_t (by omega)], by unfold tryM; rw [if_pos (by omega), if_neg (by omega)]⟩
        | exact ⟨by rw [bi_f (by omega)], by unfold tryM; rw [if_pos (by omega), if_pos (by omega)]⟩
        | exact ⟨by rw [bi_f (by omega)], by unfold tryM; rw [if_neg (by omega)]⟩
        | (exfalso; omega)
  · refine g_aload_n dX6_mayTry_7 rfl rfl ?_
    refine g_get dX6_mayTry_8 fX6_31 rfl rfl ?_
    refine g_ldc (z := 300000) dX6_mayTry_11 kX6_127 rfl ?_
    refine g_icmp_lt (tgt := 21) dX6_mayTry_13 rfl (fun h13 => ?_) (fun h13 => ?_)
    · refine g_aload_n dX6_mayTry_21 rfl rfl ?_
      refine g_get dX6_mayTry_22 fX6_37 rfl rfl ?_
      refine g_if_eq (tgt := 30) dX6_mayTry_25 rfl (fun h25 => ?_) (fun h25 => ?_)
      · refine g_aload_n dX6_mayTry_30 rfl rfl ?_
        refine g_dup dX6_mayTry_31 rfl ?_
        refine g_get dX6_mayTry_32 fX6_31 rfl rfl ?_
        refine g_iconst dX6_mayTry_35 ?_
        refine g_iadd dX6_mayTry_36 ?_
        refine g_puti dX6_mayTry_37 fX6_31 rfl rfl rfl (tyX6_ok 11 (by decide)) ?_
        refine g_iconst dX6_mayTry_40 ?_
        refine g_zret dX6_mayTry_41 rfl ?_
        first
          | (exfalso; omega)
          | exact ⟨by rw [bi_t (by omega)], by unfold tryM; rw [if_pos (by omega), if_neg (by omega)]⟩
          | exact ⟨by rw [bi_f (by omega)], by unfold tryM; rw [if_pos (by omega), if_pos (by omega)]⟩
          | exact ⟨by rw [bi_f (by omega)], by unfold tryM; rw [if_neg (by omega)]⟩
          | (exfalso; omega)
      · refine g_iconst dX6_mayTry_28 ?_
        refine g_zret dX6_mayTry_29 rfl ?_
        first
          | (exfalso; omega)
          | exact ⟨by rw [bi_t (by omega)], by unfold tryM; rw [if_pos (by omega), if_neg (by omega)]⟩
          | exact ⟨by rw [bi_f (by omega)], by unfold tryM; rw [if_pos (by omega), if_pos (by omega)]⟩
          | exact ⟨by rw [bi_f (by omega)], by unfold tryM; rw [if_neg (by omega)]⟩
          | (exfalso; omega)
    · refine g_aload_n dX6_mayTry_16 rfl rfl ?_
      refine g_iconst dX6_mayTry_17 ?_
      refine g_putz dX6_mayTry_18 fX6_37 rfl rfl rfl (tyX6_ok 13 (by decide)) ?_
      refine g_aload_n dX6_mayTry_21 rfl rfl ?_
      refine g_get dX6_mayTry_22 fX6_37 rfl rfl ?_
      try simp only [sil, sjl, Nat.reduceAdd, Nat.reduceEqDiff, eq_self, false_and, and_false, true_and, and_true, if_false, if_true, reduceIte]
      refine g_if_eq (tgt := 30) dX6_mayTry_25 rfl (fun h25 => ?_) (fun h25 => ?_)
      · refine g_aload_n dX6_mayTry_30 rfl rfl ?_
        refine g_dup dX6_mayTry_31 rfl ?_
        refine g_get dX6_mayTry_32 fX6_31 rfl rfl ?_
        try simp only [sil, sjl, Nat.reduceAdd, Nat.reduceEqDiff, eq_self, false_and, and_false, true_and, and_true, if_false, if_true, reduceIte]
        refine g_iconst dX6_mayTry_35 ?_
        refine g_iadd dX6_mayTry_36 ?_
        refine g_puti dX6_mayTry_37 fX6_31 rfl rfl rfl (tyX6_ok 11 (by decide)) ?_
        refine g_iconst dX6_mayTry_40 ?_
        refine g_zret dX6_mayTry_41 rfl ?_
        first
          | (exfalso; omega)
          | exact ⟨by rw [bi_t (by omega)], by unfold tryM; rw [if_pos (by omega), if_neg (by omega)]⟩
          | exact ⟨by rw [bi_f (by omega)], by unfold tryM; rw [if_pos (by omega), if_pos (by omega)]⟩
          | exact ⟨by rw [bi_f (by omega)], by unfold tryM; rw [if_neg (by omega)]⟩
          | (exfalso; omega)
      · refine g_iconst dX6_mayTry_28 ?_
        refine g_zret dX6_mayTry_29 rfl ?_
        first
          | (exfalso; omega)
          | exact ⟨by rw [bi_t (by omega)], by unfold tryM; rw [if_pos (by omega), if_neg (by omega)]⟩
          | exact ⟨by rw [bi_f (by omega)], by unfold tryM; rw [if_pos (by omega), if_pos (by omega)]⟩
          | exact ⟨by rw [bi_f (by omega)], by unfold tryM; rw [if_neg (by omega)]⟩
          | (exfalso; omega)

theorem w_X6_packed_W {d : Nat} {M : Mem} {ord : List Nat} {a : Asg} (hO : Ord 24 M ord) (hr : ∀ o ∈ ord, o < 14) (hl : ord.length ≤ 14) (hnd : ord.Nodup) (hp : ∀ o ∈ ord, M.1 26 o = per a o ∧ per a o < 14) (hz : ∀ o, o ∉ ord → per a o = 0) : WP wdC (d + 1) mX6_packed [vr 24] M (fun v M' => M' = M ∧ ∃ x, v = some (vl x) ∧ ∀ r, r < 14 → dig x r = per a r) := by
  refine wp_of (by decide +kernel) (Nat.le_of_ble_eq_true rfl) ?_
  obtain ⟨hO1, hO2⟩ := hO
  change M.1 24 9 = _ at hO1
  have loop : ∀ n i : Nat, i + n = ord.length → ∀ (x : Int64) (x4 : Option AV), (∀ r, r < 14 → dig x r = if r ∈ ord.take i then per a r else 0) → G wdC mX6_packed (d + 1) (fun v M' => M' = M ∧ ∃ x, v = some (vl x) ∧ ∀ r, r < 14 → dig x r = per a r) 4 [some (vr 24), some (vl x), none, some (vi i), x4] [] M := by
    intro n
    induction n with
    | zero =>
      intro i hi x x4 hx
      refine g_iload_n dX6_packed_4 rfl rfl ?_
      refine g_aload_n dX6_packed_5 rfl rfl ?_
      refine g_get dX6_packed_6 fX6_24 rfl rfl ?_
      refine g_icmp_ge (tgt := 56) dX6_packed_9 rfl (fun h9 => ?_) (fun h9 => ?_)
      · refine g_lload_n dX6_packed_56 rfl rfl ?_
        refine g_lret dX6_packed_57 rfl ?_
        refine ⟨rfl, x, rfl, fun r hr1 => ?_⟩
        rw [hx r hr1, List.take_of_length_le (by omega)]
        split
        · rfl
        · next h => exact (hz r h).symm
      · exfalso; omega
    | succ n ih =>
      intro i hi x x4 hx
      have hi' : i < ord.length := by omega
      have hm := getD_mem hi'
      have hO3 : M.1 25 i = _ := hO2 i hi'
      obtain ⟨p1, p2⟩ := hp _ hm
      have h14 := hr _ hm
      have e4 : (4 : Int) * ((ord.getD i 0 : Nat) : Int) = ((4 * ord.getD i 0 : Nat) : Int) := by push_cast; rfl
      refine g_iload_n dX6_packed_4 rfl rfl ?_
      refine g_aload_n dX6_packed_5 rfl rfl ?_
      refine g_get dX6_packed_6 fX6_24 rfl rfl ?_
      refine g_icmp_ge (tgt := 56) dX6_packed_9 rfl (fun h9 => ?_) (fun h9 => ?_)
      · exfalso; omega
      · refine g_iload_n dX6_packed_12 rfl rfl ?_
        refine g_bipush dX6_packed_13 rfl ?_
        refine g_icmp_ge (tgt := 56) dX6_packed_15 rfl (fun h15 => ?_) (fun h15 => ?_)
        · exfalso; omega
        · refine g_aload_n dX6_packed_18 rfl rfl ?_
          refine g_getr dX6_packed_19 fX6_9 rfl rfl ?_
          refine g_iload_n dX6_packed_22 rfl rfl ?_
          refine g_iald dX6_packed_23 rfl (by decide) ?_
          try simp only [Int.toNat_natCast]
          rw [hO3]
          refine g_istore (ls' := [some _, some _, _, some _, some _]) dX6_packed_24 (by decide) rfl ?_
          refine g_iload dX6_packed_26 rfl ?_
          refine g_callSr dX6_packed_28 lX6_97 (w_X9_isPlace (by omega) (by omega)) rfl rfl (Nat.le_of_ble_eq_true rfl) ?_
          refine g_if_eqB (tgt := 50) dX6_packed_31 rfl (fun h31 => ?_) (fun h31 => ?_)
          · exfalso; omega
          · refine g_lload_n dX6_packed_34 rfl rfl ?_
            refine g_aload_n dX6_packed_35 rfl rfl ?_
            refine g_getr dX6_packed_36 fX6_15 rfl rfl ?_
            refine g_iload dX6_packed_39 rfl ?_
            refine g_iald dX6_packed_41 rfl (by decide) ?_
            try simp only [Int.toNat_natCast]
            rw [p1]
            refine g_i2l dX6_packed_42 rfl ?_
            refine g_iconst dX6_packed_43 ?_
            refine g_iload dX6_packed_44 rfl ?_
            refine g_imul dX6_packed_46 ?_
            rw [e4]
            refine g_lshl dX6_packed_47 ?_
            refine g_lor dX6_packed_48 ?_
            refine g_lstore_n (ls' := [some _, some _, _, some _, some _]) dX6_packed_49 rfl (by decide) rfl ?_
            refine g_iinc (ls' := [some _, some _, _, some _, some _]) dX6_packed_50 rfl rfl ?_
            refine g_goto (tgt := 4) dX6_packed_53 rfl ?_
            have hzr : dig x (ord.getD i 0) = 0 := by
              rw [hx _ h14, if_neg]
              intro hin
              obtain ⟨j, hj, hje⟩ := List.mem_iff_getElem.mp hin
              rw [List.length_take] at hj
              rw [List.getElem_take] at hje
              rw [List.getD_eq_getElem?_getD, List.getElem?_eq_getElem hi'] at hje
              have := nodup_at hnd _ _ (by omega) hi' hje
              omega
            refine ih (i + 1) (by omega) _ _ (fun r hr1 => ?_)
            rw [dig_or (by omega) h14 hr1 hzr, hx r hr1]
            have ht := take_mem hi' r
            by_cases h1 : r = ord.getD i 0
            · rw [if_pos h1, if_pos (ht.mpr (Or.inr h1)), h1]
            · rw [if_neg h1]
              by_cases h2 : r ∈ ord.take i
              · rw [if_pos h2, if_pos (ht.mpr (Or.inl h2))]
              · rw [if_neg h2, if_neg (fun z => (ht.mp z).elim h2 h1)]
  refine g_lconst (v := 0) dX6_packed_0 rfl ?_
  refine g_lstore_n (ls' := [some _, some _, _, _, _]) dX6_packed_1 rfl (by decide) rfl ?_
  refine g_iconst dX6_packed_2 ?_
  refine g_istore_n (ls' := [some _, some _, _, some _, _]) dX6_packed_3 rfl (by decide) rfl ?_
  exact loop ord.length 0 (by omega) 0 _ (fun r hr1 => by
    rw [List.take_zero, if_neg List.not_mem_nil]
    show (0 : Nat) >>> (4 * r) % 16 = 0
    rw [Nat.zero_shiftRight])

theorem w_X6_mayTry_V {d : Nat} {M : Mem} (hs : M.1 45 13 = 0 ∨ M.1 45 13 = 1) (ht0 : 0 ≤ M.1 45 11) (ht1 : M.1 45 11 ≤ 300000) : WP wdC d mX6_mayTry [vr 45] M (Ret (some (vi (bi (M.1 45 13 = 0 ∧ M.1 45 11 < 300000)))) (tryM 45 M)) := by
  refine wp_of (by decide +kernel) (Nat.le_of_ble_eq_true rfl) ?_
  refine g_aload_n dX6_mayTry_0 rfl rfl ?_
  refine g_get dX6_mayTry_1 fX6_37 rfl rfl ?_
  refine g_if_ne (tgt := 21) dX6_mayTry_4 rfl (fun h4 => ?_) (fun h4 => ?_)
  · refine g_aload_n dX6_mayTry_21 rfl rfl ?_
    refine g_get dX6_mayTry_22 fX6_37 rfl rfl ?_
    refine g_if_eq (tgt := 30) dX6_mayTry_25 rfl (fun h25 => ?_) (fun h25 => ?_)
    · refine g_aload_n dX6_mayTry_30 rfl rfl ?_
      refine g_dup dX6_mayTry_31 rfl ?_
      refine g_get dX6_mayTry_32 fX6_31 rfl rfl ?_
      refine g_iconst dX6_mayTry_35 ?_
      refine g_iadd dX6_mayTry_36 ?_
      refine g_puti dX6_mayTry_37 fX6_31 rfl rfl rfl (tyX6_ok 11 (by decide)) ?_
      refine g_iconst dX6_mayTry_40 ?_
      refine g_zret dX6_mayTry_41 rfl ?_
      first
        | (exfalso; omega)
        | exact ⟨by rw [bi_t (by omega)], by unfold tryM; rw [if_pos (by omega), if_neg (by omega)]⟩
        | exact ⟨by rw [bi_f (by omega)], by unfold tryM; rw [if_pos (by omega), if_pos (by omega)]⟩
        | exact ⟨by rw [bi_f (by omega)], by unfold tryM; rw [if_neg (by omega)]⟩
        | (exfalso; omega)
    · refine g_iconst dX6_mayTry_28 ?_
      refine g_zret dX6_mayTry_29 rfl ?_
      first
        | (exfalso; omega)
        | exact ⟨by rw [bi_t (by omega)], by unfold tryM; rw [if_pos (by omega), if_neg (by omega)]⟩
        | exact ⟨by rw [bi_f (by omega)], by unfold tryM; rw [if_pos (by omega), if_pos (by omega)]⟩
        | exact ⟨by rw [bi_f (by omega)], by unfold tryM; rw [if_neg (by omega)]⟩
        | (exfalso; omega)
  · refine g_aload_n dX6_mayTry_7 rfl rfl ?_
    refine g_get dX6_mayTry_8 fX6_31 rfl rfl ?_
    refine g_ldc (z := 300000) dX6_mayTry_11 kX6_127 rfl ?_
    refine g_icmp_lt (tgt := 21) dX6_mayTry_13 rfl (fun h13 => ?_) (fun h13 => ?_)
    · refine g_aload_n dX6_mayTry_21 rfl rfl ?_
      refine g_get dX6_mayTry_22 fX6_37 rfl rfl ?_
      refine g_if_eq (tgt := 30) dX6_mayTry_25 rfl (fun h25 => ?_) (fun h25 => ?_)
      · refine g_aload_n dX6_mayTry_30 rfl rfl ?_
        refine g_dup dX6_mayTry_31 rfl ?_
        refine g_get dX6_mayTry_32 fX6_31 rfl rfl ?_
        refine g_iconst dX6_mayTry_35 ?_
        refine g_iadd dX6_mayTry_36 ?_
        refine g_puti dX6_mayTry_37 fX6_31 rfl rfl rfl (tyX6_ok 11 (by decide)) ?_
        refine g_iconst dX6_mayTry_40 ?_
        refine g_zret dX6_mayTry_41 rfl ?_
        first
          | (exfalso; omega)
          | exact ⟨by rw [bi_t (by omega)], by unfold tryM; rw [if_pos (by omega), if_neg (by omega)]⟩
          | exact ⟨by rw [bi_f (by omega)], by unfold tryM; rw [if_pos (by omega), if_pos (by omega)]⟩
          | exact ⟨by rw [bi_f (by omega)], by unfold tryM; rw [if_neg (by omega)]⟩
          | (exfalso; omega)
      · refine g_iconst dX6_mayTry_28 ?_
        refine g_zret dX6_mayTry_29 rfl ?_
        first
          | (exfalso; omega)
          | exact ⟨by rw [bi_t (by omega)], by unfold tryM; rw [if_pos (by omega), if_neg (by omega)]⟩
          | exact ⟨by rw [bi_f (by omega)], by unfold tryM; rw [if_pos (by omega), if_pos (by omega)]⟩
          | exact ⟨by rw [bi_f (by omega)], by unfold tryM; rw [if_neg (by omega)]⟩
          | (exfalso; omega)
    · refine g_aload_n dX6_mayTry_16 rfl rfl ?_
      refine g_iconst dX6_mayTry_17 ?_
      refine g_putz dX6_mayTry_18 fX6_37 rfl rfl rfl (tyX6_ok 13 (by decide)) ?_
      refine g_aload_n dX6_mayTry_21 rfl rfl ?_
      refine g_get dX6_mayTry_22 fX6_37 rfl rfl ?_
      try simp only [sil, sjl, Nat.reduceAdd, Nat.reduceEqDiff, eq_self, false_and, and_false, true_and, and_true, if_false, if_true, reduceIte]
      refine g_if_eq (tgt := 30) dX6_mayTry_25 rfl (fun h25 => ?_) (fun h25 => ?_)
      · refine g_aload_n dX6_mayTry_30 rfl rfl ?_
        refine g_dup dX6_mayTry_31 rfl ?_
        refine g_get dX6_mayTry_32 fX6_31 rfl rfl ?_
        try simp only [sil, sjl, Nat.reduceAdd, Nat.reduceEqDiff, eq_self, false_and, and_false, true_and, and_true, if_false, if_true, reduceIte]
        refine g_iconst dX6_mayTry_35 ?_
        refine g_iadd dX6_mayTry_36 ?_
        refine g_puti dX6_mayTry_37 fX6_31 rfl rfl rfl (tyX6_ok 11 (by decide)) ?_
        refine g_iconst dX6_mayTry_40 ?_
        refine g_zret dX6_mayTry_41 rfl ?_
        first
          | (exfalso; omega)
          | exact ⟨by rw [bi_t (by omega)], by unfold tryM; rw [if_pos (by omega), if_neg (by omega)]⟩
          | exact ⟨by rw [bi_f (by omega)], by unfold tryM; rw [if_pos (by omega), if_pos (by omega)]⟩
          | exact ⟨by rw [bi_f (by omega)], by unfold tryM; rw [if_neg (by omega)]⟩
          | (exfalso; omega)
      · refine g_iconst dX6_mayTry_28 ?_
        refine g_zret dX6_mayTry_29 rfl ?_
        first
          | (exfalso; omega)
          | exact ⟨by rw [bi_t (by omega)], by unfold tryM; rw [if_pos (by omega), if_neg (by omega)]⟩
          | exact ⟨by rw [bi_f (by omega)], by unfold tryM; rw [if_pos (by omega), if_pos (by omega)]⟩
          | exact ⟨by rw [bi_f (by omega)], by unfold tryM; rw [if_neg (by omega)]⟩
          | (exfalso; omega)

theorem w_X6_packed_V {d : Nat} {M : Mem} {ord : List Nat} {a : Asg} (hO : Ord 45 M ord) (hr : ∀ o ∈ ord, o < 14) (hl : ord.length ≤ 14) (hnd : ord.Nodup) (hp : ∀ o ∈ ord, M.1 47 o = per a o ∧ per a o < 14) (hz : ∀ o, o ∉ ord → per a o = 0) : WP wdC (d + 1) mX6_packed [vr 45] M (fun v M' => M' = M ∧ ∃ x, v = some (vl x) ∧ ∀ r, r < 14 → dig x r = per a r) := by
  refine wp_of (by decide +kernel) (Nat.le_of_ble_eq_true rfl) ?_
  obtain ⟨hO1, hO2⟩ := hO
  change M.1 45 9 = _ at hO1
  have loop : ∀ n i : Nat, i + n = ord.length → ∀ (x : Int64) (x4 : Option AV), (∀ r, r < 14 → dig x r = if r ∈ ord.take i then per a r else 0) → G wdC mX6_packed (d + 1) (fun v M' => M' = M ∧ ∃ x, v = some (vl x) ∧ ∀ r, r < 14 → dig x r = per a r) 4 [some (vr 45), some (vl x), none, some (vi i), x4] [] M := by
    intro n
    induction n with
    | zero =>
      intro i hi x x4 hx
      refine g_iload_n dX6_packed_4 rfl rfl ?_
      refine g_aload_n dX6_packed_5 rfl rfl ?_
      refine g_get dX6_packed_6 fX6_24 rfl rfl ?_
      refine g_icmp_ge (tgt := 56) dX6_packed_9 rfl (fun h9 => ?_) (fun h9 => ?_)
      · refine g_lload_n dX6_packed_56 rfl rfl ?_
        refine g_lret dX6_packed_57 rfl ?_
        refine ⟨rfl, x, rfl, fun r hr1 => ?_⟩
        rw [hx r hr1, List.take_of_length_le (by omega)]
        split
        · rfl
        · next h => exact (hz r h).symm
      · exfalso; omega
    | succ n ih =>
      intro i hi x x4 hx
      have hi' : i < ord.length := by omega
      have hm := getD_mem hi'
      have hO3 : M.1 46 i = _ := hO2 i hi'
      obtain ⟨p1, p2⟩ := hp _ hm
      have h14 := hr _ hm
      have e4 : (4 : Int) * ((ord.getD i 0 : Nat) : Int) = ((4 * ord.getD i 0 : Nat) : Int) := by push_cast; rfl
      refine g_iload_n dX6_packed_4 rfl rfl ?_
      refine g_aload_n dX6_packed_5 rfl rfl ?_
      refine g_get dX6_packed_6 fX6_24 rfl rfl ?_
      refine g_icmp_ge (tgt := 56) dX6_packed_9 rfl (fun h9 => ?_) (fun h9 => ?_)
      · exfalso; omega
      · refine g_iload_n dX6_packed_12 rfl rfl ?_
        refine g_bipush dX6_packed_13 rfl ?_
        refine g_icmp_ge (tgt := 56) dX6_packed_15 rfl (fun h15 => ?_) (fun h15 => ?_)
        · exfalso; omega
        · refine g_aload_n dX6_packed_18 rfl rfl ?_
          refine g_getr dX6_packed_19 fX6_9 rfl rfl ?_
          refine g_iload_n dX6_packed_22 rfl rfl ?_
          refine g_iald dX6_packed_23 rfl (by decide) ?_
          try simp only [Int.toNat_natCast]
          rw [hO3]
          refine g_istore (ls' := [some _, some _, _, some _, some _]) dX6_packed_24 (by decide) rfl ?_
          refine g_iload dX6_packed_26 rfl ?_
          refine g_callSr dX6_packed_28 lX6_97 (w_X9_isPlace (by omega) (by omega)) rfl rfl (Nat.le_of_ble_eq_true rfl) ?_
          refine g_if_eqB (tgt := 50) dX6_packed_31 rfl (fun h31 => ?_) (fun h31 => ?_)
          · exfalso; omega
          · refine g_lload_n dX6_packed_34 rfl rfl ?_
            refine g_aload_n dX6_packed_35 rfl rfl ?_
            refine g_getr dX6_packed_36 fX6_15 rfl rfl ?_
            refine g_iload dX6_packed_39 rfl ?_
            refine g_iald dX6_packed_41 rfl (by decide) ?_
            try simp only [Int.toNat_natCast]
            rw [p1]
            refine g_i2l dX6_packed_42 rfl ?_
            refine g_iconst dX6_packed_43 ?_
            refine g_iload dX6_packed_44 rfl ?_
            refine g_imul dX6_packed_46 ?_
            rw [e4]
            refine g_lshl dX6_packed_47 ?_
            refine g_lor dX6_packed_48 ?_
            refine g_lstore_n (ls' := [some _, some _, _, some _, some _]) dX6_packed_49 rfl (by decide) rfl ?_
            refine g_iinc (ls' := [some _, some _, _, some _, some _]) dX6_packed_50 rfl rfl ?_
            refine g_goto (tgt := 4) dX6_packed_53 rfl ?_
            have hzr : dig x (ord.getD i 0) = 0 := by
              rw [hx _ h14, if_neg]
              intro hin
              obtain ⟨j, hj, hje⟩ := List.mem_iff_getElem.mp hin
              rw [List.length_take] at hj
              rw [List.getElem_take] at hje
              rw [List.getD_eq_getElem?_getD, List.getElem?_eq_getElem hi'] at hje
              have := nodup_at hnd _ _ (by omega) hi' hje
              omega
            refine ih (i + 1) (by omega) _ _ (fun r hr1 => ?_)
            rw [dig_or (by omega) h14 hr1 hzr, hx r hr1]
            have ht := take_mem hi' r
            by_cases h1 : r = ord.getD i 0
            · rw [if_pos h1, if_pos (ht.mpr (Or.inr h1)), h1]
            · rw [if_neg h1]
              by_cases h2 : r ∈ ord.take i
              · rw [if_pos h2, if_pos (ht.mpr (Or.inl h2))]
              · rw [if_neg h2, if_neg (fun z => (ht.mp z).elim h2 h1)]
  refine g_lconst (v := 0) dX6_packed_0 rfl ?_
  refine g_lstore_n (ls' := [some _, some _, _, _, _]) dX6_packed_1 rfl (by decide) rfl ?_
  refine g_iconst dX6_packed_2 ?_
  refine g_istore_n (ls' := [some _, some _, _, some _, _]) dX6_packed_3 rfl (by decide) rfl ?_
  exact loop ord.length 0 (by omega) 0 _ (fun r hr1 => by
    rw [List.take_zero, if_neg List.not_mem_nil]
    show (0 : Nat) >>> (4 * r) % 16 = 0
    rw [Nat.zero_shiftRight])

