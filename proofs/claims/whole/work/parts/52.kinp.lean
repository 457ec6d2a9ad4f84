/-! MODULE 48: kin, as the reference counts it (pure). -/
theorem tb_or {x y q : Nat} : (x ||| y).testBit q = true ↔ x.testBit q = true ∨ y.testBit q = true := by rw [Nat.testBit_or, Bool.or_eq_true]
theorem tb_pow {a q : Nat} : (2 ^ a).testBit q = true ↔ a = q := by rw [Nat.testBit_two_pow, decide_eq_true_iff]
theorem upK_s (mo fa : Nat → Int) (s p : Nat) : upK mo fa s (p + 1) = if s.testBit p = true then (if 0 ≤ fa p then (if 0 ≤ mo p then upK mo fa s p ||| 2 ^ (mo p).toNat else upK mo fa s p) ||| 2 ^ (fa p).toNat else (if 0 ≤ mo p then upK mo fa s p ||| 2 ^ (mo p).toNat else upK mo fa s p)) else upK mo fa s p := rfl
theorem upK_tb (mo fa : Nat → Int) (s q : Nat) : ∀ n, (upK mo fa s n).testBit q = true ↔ ∃ p, p < n ∧ s.testBit p = true ∧ ((0 ≤ mo p ∧ (mo p).toNat = q) ∨ (0 ≤ fa p ∧ (fa p).toNat = q))
  | 0 => by
    constructor
    · intro h; unfold upK at h; rw [Nat.zero_testBit] at h; cases h
    · rintro ⟨p, hp, _⟩; omega
  | n + 1 => by
    have ih := upK_tb mo fa s q n
    have key : (upK mo fa s (n + 1)).testBit q = true ↔ (upK mo fa s n).testBit q = true ∨ (s.testBit n = true ∧ ((0 ≤ mo n ∧ (mo n).toNat = q) ∨ (0 ≤ fa n ∧ (fa n).toNat = q))) := by
      rw [upK_s]
      by_cases h1 : s.testBit n = true
      · rw [if_pos h1]
        by_cases h2 : 0 ≤ fa n
        · rw [if_pos h2]
          by_cases h3 : 0 ≤ mo n
          · rw [if_pos h3, tb_or, tb_or, tb_pow, tb_pow]
            simp only [h1, h2, h3, true_and]; exact or_assoc
          · rw [if_neg h3, tb_or, tb_pow]
            simp only [h1, h2, h3, true_and, false_and, false_or]
        · rw [if_neg h2]
          by_cases h3 : 0 ≤ mo n
          · rw [if_pos h3, tb_or, tb_pow]
            simp only [h1, h2, h3, true_and, false_and, or_false]
          · rw [if_neg h3]
            simp only [h2, h3, false_and, or_false, and_false]
      · rw [if_neg h1]
        exact ⟨Or.inl, fun h => h.elim id (fun z => absurd z.1 h1)⟩
    rw [key, ih]
    constructor
    · rintro (⟨p, hp, h⟩ | h)
      · exact ⟨p, by omega, h⟩
      · exact ⟨n, by omega, h⟩
    · rintro ⟨p, hp, h⟩
      by_cases hpn : p = n
      · subst hpn; exact Or.inr h
      · exact Or.inl ⟨p, by omega, h⟩
theorem dnK_tb (mo fa : Nat → Int) (s q : Nat) : ∀ n, (dnK mo fa s n).testBit q = true ↔ q < n ∧ ((0 ≤ mo q ∧ s.testBit (mo q).toNat = true) ∨ (0 ≤ fa q ∧ s.testBit (fa q).toNat = true))
  | 0 => by
    constructor
    · intro h; unfold dnK at h; rw [Nat.zero_testBit] at h; cases h
    · rintro ⟨hp, _⟩; omega
  | n + 1 => by
    have ih := dnK_tb mo fa s q n
    rw [dnK_s]
    by_cases h : (0 ≤ mo n ∧ s.testBit (mo n).toNat = true) ∨ (0 ≤ fa n ∧ s.testBit (fa n).toNat = true)
    · rw [if_pos h, tb_or, tb_pow, ih]
      constructor
      · rintro (⟨z1, z2⟩ | rfl)
        · exact ⟨by omega, z2⟩
        · exact ⟨by omega, h⟩
      · rintro ⟨z1, z2⟩
        by_cases e : n = q
        · exact Or.inr e
        · exact Or.inl ⟨by omega, z2⟩
    · rw [if_neg h, ih]
      constructor
      · rintro ⟨z1, z2⟩; exact ⟨by omega, z2⟩
      · rintro ⟨z1, z2⟩
        by_cases e : n = q
        · subst e; exact absurd z2 h
        · exact ⟨by omega, z2⟩
theorem tb_ext {x y : Nat} (h : ∀ q, x.testBit q = true ↔ y.testBit q = true) : x = y := Nat.eq_of_testBit_eq (fun q => Bool.eq_iff_iff.mpr (h q))
theorem tb_nz {x : Nat} : x ≠ 0 ↔ ∃ q, x.testBit q = true := by
  constructor
  · intro h
    refine Classical.byContradiction (fun hn => h (tb_ext (fun q => ⟨fun z => absurd ⟨q, z⟩ hn, fun z => ?_⟩)))
    rw [Nat.zero_testBit] at z; cases z
  · rintro ⟨q, hq⟩ rfl
    rw [Nat.zero_testBit] at hq; cases hq
theorem upK_congr {mo fa mo' fa' : Nat → Int} (h : ∀ p, p < 14 → mo p = mo' p ∧ fa p = fa' p) (s : Nat) : upK mo fa s 14 = upK mo' fa' s 14 := by
  refine tb_ext (fun q => ?_)
  rw [upK_tb, upK_tb]
  constructor
  · rintro ⟨p, hp, z⟩; exact ⟨p, hp, by rw [← (h p hp).1, ← (h p hp).2]; exact z⟩
  · rintro ⟨p, hp, z⟩; exact ⟨p, hp, by rw [(h p hp).1, (h p hp).2]; exact z⟩
theorem dnK_congr {mo fa mo' fa' : Nat → Int} (h : ∀ p, p < 14 → mo p = mo' p ∧ fa p = fa' p) (s : Nat) : dnK mo fa s 14 = dnK mo' fa' s 14 := by
  refine tb_ext (fun q => ?_)
  rw [dnK_tb, dnK_tb]
  constructor
  · rintro ⟨hp, z⟩; exact ⟨hp, by rw [← (h q hp).1, ← (h q hp).2]; exact z⟩
  · rintro ⟨hp, z⟩; exact ⟨hp, by rw [(h q hp).1, (h q hp).2]; exact z⟩
theorem parN_tb (w : Nat → Nat) (ps q : Nat) : ∀ (chs : List Nat) (acc : Nat), (parN w ps chs acc).testBit q = true ↔ acc.testBit q = true ∨ ∃ ch, ch ∈ chs ∧ ps.testBit (w ch) = true ∧ (w (ch + 1) = q ∨ w (ch + 2) = q)
  | [], acc => by
    constructor
    · intro h; exact Or.inl h
    · rintro (h | ⟨ch, hc, _⟩)
      · exact h
      · cases hc
  | c :: r, acc => by
    unfold parN
    rw [parN_tb w ps q r]
    by_cases h : ps.testBit (w c) = true
    · rw [if_pos h, tb_or, tb_or, tb_pow, tb_pow]
      constructor
      · rintro ((z | z) | ⟨ch, hc, z⟩)
        · exact Or.inl z
        · exact Or.inr ⟨c, List.mem_cons_self, h, z⟩
        · exact Or.inr ⟨ch, List.mem_cons_of_mem _ hc, z⟩
      · rintro (z | ⟨ch, hc, z1, z2⟩)
        · exact Or.inl (Or.inl z)
        · rcases List.mem_cons.mp hc with rfl | hc
          · exact Or.inl (Or.inr z2)
          · exact Or.inr ⟨ch, hc, z1, z2⟩
    · rw [if_neg h]
      constructor
      · rintro (z | ⟨ch, hc, z⟩)
        · exact Or.inl z
        · exact Or.inr ⟨ch, List.mem_cons_of_mem _ hc, z⟩
      · rintro (z | ⟨ch, hc, z1, z2⟩)
        · exact Or.inl z
        · rcases List.mem_cons.mp hc with rfl | hc
          · exact absurd z1 h
          · exact Or.inr ⟨ch, hc, z1, z2⟩
theorem mem_brs {D : Mem} {n ch : Nat} : ch ∈ brs D n ↔ ∃ r, r < n ∧ isB D r ∧ (D.1 2 r).toNat = ch := by
  unfold brs
  rw [List.mem_map]
  constructor
  · rintro ⟨r, hr, e⟩
    rw [List.mem_filter, List.mem_range, decide_eq_true_iff] at hr
    exact ⟨r, hr.1, hr.2, e⟩
  · rintro ⟨r, h1, h2, e⟩
    exact ⟨r, by rw [List.mem_filter, List.mem_range, decide_eq_true_iff]; exact ⟨h1, h2⟩, e⟩
/-- no person is the child of two births -/
def Kid1 (D : Mem) (w : Nat → Nat) : Prop := ∀ r s, r < nR D → s < nR D → isB D r → isB D s → w (D.1 2 r).toNat = w (D.1 2 s).toNat → r = s
theorem paR_none {D : Mem} {w : Nat → Nat} {j p : Nat} : ∀ n, (∀ r, r < n → isB D r → w (D.1 2 r).toNat ≠ p) → paR D w j n p = -1
  | 0, _ => rfl
  | n + 1, h => by
    unfold paR
    rw [if_neg (fun z => h n (by omega) z.1 z.2)]
    exact paR_none n (fun r hr => h r (by omega))
theorem paR_some {D : Mem} {w : Nat → Nat} {j r : Nat} : ∀ n, r < n → isB D r → (∀ s, s < n → isB D s → w (D.1 2 s).toNat = w (D.1 2 r).toNat → s = r) → paR D w j n (w (D.1 2 r).toNat) = (w ((D.1 2 r).toNat + j) : Nat)
  | n + 1, hr, hb, hu => by
    unfold paR
    by_cases e : n = r
    · subst e; rw [if_pos ⟨hb, rfl⟩]
    · rw [if_neg (fun z => e (hu n (by omega) z.1 z.2))]
      exact paR_some n (by omega) hb (fun s hs => hu s (by omega))
theorem up_eq {D : Mem} {w : Nat → Nat} (hU : Kid1 D w) (h14 : ∀ r, r < nR D → isB D r → w (D.1 2 r).toNat < 14) (s : Nat) : upK (paR D w 1 (nR D)) (paR D w 2 (nR D)) s 14 = parN w s (brs D (nR D)) 0 := by
  refine tb_ext (fun q => ?_)
  rw [upK_tb, parN_tb, Nat.zero_testBit]
  constructor
  · rintro ⟨p, hp, h1, h2⟩
    refine Or.inr ?_
    by_cases he : ∃ r, r < nR D ∧ isB D r ∧ w (D.1 2 r).toNat = p
    · obtain ⟨r, r1, r2, rfl⟩ := he
      refine ⟨_, mem_brs.mpr ⟨r, r1, r2, rfl⟩, h1, ?_⟩
      rw [paR_some (nR D) r1 r2 (fun s hs hb e => hU s r hs r1 hb r2 e), paR_some (nR D) r1 r2 (fun s hs hb e => hU s r hs r1 hb r2 e)] at h2
      omega
    · have hn : ∀ r, r < nR D → isB D r → w (D.1 2 r).toNat ≠ p := fun r r1 r2 e => he ⟨r, r1, r2, e⟩
      rw [paR_none _ hn, paR_none _ hn] at h2
      omega
  · rintro (h | ⟨ch, hc, h1, h2⟩)
    · cases h
    · obtain ⟨r, r1, r2, rfl⟩ := mem_brs.mp hc
      refine ⟨_, h14 r r1 r2, h1, ?_⟩
      rw [paR_some (nR D) r1 r2 (fun s hs hb e => hU s r hs r1 hb r2 e), paR_some (nR D) r1 r2 (fun s hs hb e => hU s r hs r1 hb r2 e)]
      omega
def dnI (mo fa : Nat → Int) : Nat → Nat → Nat
  | s, 0 => s
  | s, d + 1 => dnI mo fa (dnK mo fa s 14) d
theorem dnI_s (mo fa : Nat → Int) : ∀ (d s : Nat), dnK mo fa (dnI mo fa s d) 14 = dnI mo fa s (d + 1)
  | 0, _ => rfl
  | d + 1, s => dnI_s mo fa d (dnK mo fa s 14)
theorem dnI_b (mo fa : Nat → Int) {s : Nat} (hs : s < 16384) : ∀ d, dnI mo fa s d < 16384
  | 0 => hs
  | d + 1 => by rw [← dnI_s]; exact dnK_b _ 14 (Nat.le_refl _)
theorem dnI_0 (mo fa : Nat → Int) {s d : Nat} (h : dnI mo fa s d = 0) : ∀ i, dnI mo fa s (d + i) = 0
  | 0 => h
  | i + 1 => by
    rw [← Nat.add_assoc, ← dnI_s, dnI_0 mo fa h i]
    refine tb_ext (fun q => ?_)
    rw [dnK_tb]
    simp only [Nat.zero_testBit, Bool.false_eq_true, and_false, or_self]
theorem itN_0 {w : Nat → Nat} {chs : List Nat} {ps u : Nat} (h : itN w chs ps u = 0) : ∀ i, itN w chs ps (u + i) = 0
  | 0 => h
  | i + 1 => by
    rw [← Nat.add_assoc]
    show parN w (itN w chs ps (u + i)) chs 0 = 0
    rw [itN_0 h i, parN_zero]
theorem tb_and {x y : Nat} : x &&& y ≠ 0 ↔ ∃ q, x.testBit q = true ∧ y.testBit q = true := by
  rw [tb_nz]
  constructor
  · rintro ⟨q, h⟩; rw [Nat.testBit_and, Bool.and_eq_true] at h; exact ⟨q, h⟩
  · rintro ⟨q, h⟩; exact ⟨q, by rw [Nat.testBit_and, Bool.and_eq_true]; exact h⟩
/-- going down d times from s one meets b just where going up d times from b meets s -/
theorem dn_up {mo fa : Nat → Int} {w : Nat → Nat} {chs : List Nat} (hup : ∀ s, upK mo fa s 14 = parN w s chs 0) {b : Nat} (hb : b < 14) (hm : ∀ p, p < 14 → mo p < 14) (hf : ∀ p, p < 14 → fa p < 14) : ∀ (d s : Nat), (dnI mo fa s d).testBit b = true ↔ s &&& itN w chs (2 ^ b) d ≠ 0
  | 0, s => by
    show s.testBit b = true ↔ s &&& 2 ^ b ≠ 0
    rw [tb_and]
    constructor
    · intro h; exact ⟨b, h, tb_pow.mpr rfl⟩
    · rintro ⟨q, h1, h2⟩; rw [tb_pow.mp h2]; exact h1
  | d + 1, s => by
    have hlt : ∀ n, itN w chs (2 ^ b) n < 16384 := fun n => by
      cases n with
      | zero =>
        have h1 : (2 : Nat) ^ b ≤ 2 ^ 13 := Nat.pow_le_pow_right (by decide) (by omega)
        exact Nat.lt_of_le_of_lt h1 (by decide)
      | succ n => show parN w (itN w chs (2 ^ b) n) chs 0 < 16384; rw [← hup]; exact upK_b hm hf _ 14 (Nat.le_refl _)
    show (dnI mo fa (dnK mo fa s 14) d).testBit b = true ↔ s &&& parN w (itN w chs (2 ^ b) d) chs 0 ≠ 0
    rw [dn_up hup hb hm hf d, tb_and, tb_and, ← hup]
    constructor
    · rintro ⟨q, h1, h2⟩
      obtain ⟨h3, h4⟩ := (dnK_tb _ _ _ _ _).mp h1
      rcases h4 with ⟨z1, z2⟩ | ⟨z1, z2⟩
      · exact ⟨_, z2, (upK_tb _ _ _ _ _).mpr ⟨q, h3, h2, Or.inl ⟨z1, rfl⟩⟩⟩
      · exact ⟨_, z2, (upK_tb _ _ _ _ _).mpr ⟨q, h3, h2, Or.inr ⟨z1, rfl⟩⟩⟩
    · rintro ⟨q, h1, h2⟩
      obtain ⟨p, hp, h3, h4⟩ := (upK_tb _ _ _ _ _).mp h2
      rcases h4 with ⟨z1, rfl⟩ | ⟨z1, rfl⟩
      · exact ⟨p, (dnK_tb _ _ _ _ _).mpr ⟨hp, Or.inl ⟨z1, h1⟩⟩, h3⟩
      · exact ⟨p, (dnK_tb _ _ _ _ _).mpr ⟨hp, Or.inr ⟨z1, h1⟩⟩, h3⟩
/-- the least: (answer, sum) over the pairs that S holds -/
def BS (U V : Nat → Nat) (S : Nat → Nat → Prop) (z b : Int) : Prop := (z = -1 ∧ b = 1000 ∧ ∀ u d, u ≤ 10 → d ≤ 10 → S u d → U u &&& V d = 0) ∨ ∃ u0 d0 : Nat, u0 ≤ 10 ∧ d0 ≤ 10 ∧ S u0 d0 ∧ U u0 &&& V d0 ≠ 0 ∧ z = 100 * (u0 : Int) + d0 ∧ b = u0 + d0 ∧ ∀ u d, u ≤ 10 → d ≤ 10 → S u d → U u &&& V d ≠ 0 → u0 + d0 < u + d ∨ (u0 + d0 = u + d ∧ u0 ≤ u)
theorem BS.mono {U V : Nat → Nat} {S T : Nat → Nat → Prop} {z b : Int} (h : BS U V S z b) (h1 : ∀ u d, S u d → T u d) (h2 : ∀ u d, u ≤ 10 → d ≤ 10 → T u d → ¬ S u d → U u &&& V d = 0) : BS U V T z b := by
  rcases h with ⟨a, c, e⟩ | ⟨u0, d0, q1, q2, q3, q4, q5, q6, q7⟩
  · refine Or.inl ⟨a, c, fun u d hu hd ht => ?_⟩
    by_cases hs : S u d
    · exact e u d hu hd hs
    · exact h2 u d hu hd ht hs
  · refine Or.inr ⟨u0, d0, q1, q2, h1 _ _ q3, q4, q5, q6, fun u d hu hd ht hne => ?_⟩
    by_cases hs : S u d
    · exact q7 u d hu hd hs hne
    · exact absurd (h2 u d hu hd ht hs) hne
theorem BS.uniq {U V : Nat → Nat} {z b z' b' : Int} (h : BS U V (fun _ _ => True) z b) (h' : BS U V (fun _ _ => True) z' b') : z = z' := by
  rcases h with ⟨a, c, e⟩ | ⟨u0, d0, q1, q2, q3, q4, q5, q6, q7⟩
  · rcases h' with ⟨a', _, _⟩ | ⟨u0, d0, q1, q2, q3, q4, _⟩
    · rw [a, a']
    · exact absurd (e u0 d0 q1 q2 trivial) q4
  · rcases h' with ⟨_, _, e⟩ | ⟨u1, d1, r1, r2, r3, r4, r5, r6, r7⟩
    · exact absurd (e u0 d0 q1 q2 trivial) q4
    · have x := q7 u1 d1 r1 r2 trivial r4
      have y := r7 u0 d0 q1 q2 trivial q4
      omega
/-- one pair more: (U, D) behind all of S in the loop's order -/
theorem BS.step {U V : Nat → Nat} {S T : Nat → Nat → Prop} {z b : Int} {u d : Nat} (h : BS U V S z b) (hu : u ≤ 10) (hd : d ≤ 10) (hT : ∀ u' d', T u' d' ↔ S u' d' ∨ (u' = u ∧ d' = d)) (hS : ∀ u' d', S u' d' → u' ≤ u) : (U u &&& V d ≠ 0 ∧ (u : Int) + d < b → BS U V T (100 * (u : Int) + d) (u + d)) ∧ (¬ (U u &&& V d ≠ 0 ∧ (u : Int) + d < b) → BS U V T z b) := by
  constructor
  · rintro ⟨h1, h2⟩
    refine Or.inr ⟨u, d, hu, hd, (hT u d).mpr (Or.inr ⟨rfl, rfl⟩), h1, rfl, rfl, fun u' d' hu' hd' ht hne => ?_⟩
    rcases (hT u' d').mp ht with hs | ⟨rfl, rfl⟩
    · rcases h with ⟨a, c, e⟩ | ⟨u0, d0, q1, q2, q3, q4, q5, q6, q7⟩
      · exact absurd (e u' d' hu' hd' hs) hne
      · have := q7 u' d' hu' hd' hs hne
        omega
    · exact Or.inr ⟨rfl, Nat.le_refl _⟩
  · intro h1
    rcases h with ⟨a, c, e⟩ | ⟨u0, d0, q1, q2, q3, q4, q5, q6, q7⟩
    · refine Or.inl ⟨a, c, fun u' d' hu' hd' ht => ?_⟩
      rcases (hT u' d').mp ht with hs | ⟨rfl, rfl⟩
      · exact e u' d' hu' hd' hs
      · refine Classical.byContradiction (fun hn => h1 ⟨hn, by omega⟩)
    · refine Or.inr ⟨u0, d0, q1, q2, (hT _ _).mpr (Or.inl q3), q4, q5, q6, fun u' d' hu' hd' ht hne => ?_⟩
      rcases (hT u' d').mp ht with hs | ⟨rfl, rfl⟩
      · exact q7 u' d' hu' hd' hs hne
      · have k1 := hS _ _ q3
        have k2 : ¬ ((u' : Int) + d' < b) := fun z => h1 ⟨hne, z⟩
        omega
theorem kinU_sp (U V : Nat → Nat) (s : Nat) : ∀ (n u : Nat), (kinU U V s n u = none ∧ ∀ v, u ≤ v → v < u + n → U v &&& V (s - v) = 0) ∨ ∃ v, u ≤ v ∧ v < u + n ∧ kinU U V s n u = some (100 * (v : Int) + s - v) ∧ U v &&& V (s - v) ≠ 0 ∧ ∀ x, u ≤ x → x < v → U x &&& V (s - x) = 0
  | 0, u => Or.inl ⟨rfl, fun v h1 h2 => absurd h2 (by omega)⟩
  | n + 1, u => by
    unfold kinU
    by_cases h : U u &&& V (s - u) = 0
    · rw [if_pos h]
      rcases kinU_sp U V s n (u + 1) with ⟨e, f⟩ | ⟨v, a, b, c, e, f⟩
      · refine Or.inl ⟨e, fun v h1 h2 => ?_⟩
        by_cases hv : v = u
        · subst hv; exact h
        · exact f v (by omega) (by omega)
      · refine Or.inr ⟨v, by omega, by omega, c, e, fun x h1 h2 => ?_⟩
        by_cases hv : x = u
        · subst hv; exact h
        · exact f x (by omega) h2
    · rw [if_neg h]
      exact Or.inr ⟨u, Nat.le_refl _, by omega, rfl, h, fun x h1 h2 => absurd h2 (by omega)⟩
theorem kinS_BS (U V : Nat → Nat) : ∀ (n s : Nat), s + n = 21 → (∀ u d, u ≤ 10 → d ≤ 10 → u + d < s → U u &&& V d = 0) → ∃ b, BS U V (fun _ _ => True) (kinS U V n s) b
  | 0, s, hs, h => ⟨1000, Or.inl ⟨rfl, rfl, fun u d hu hd _ => h u d hu hd (by omega)⟩⟩
  | n + 1, s, hs, h => by
    unfold kinS
    rcases kinU_sp U V s (min s 10 + 1 - (s - 10)) (s - 10) with ⟨e, f⟩ | ⟨v, a, b, c, e, f⟩
    · rw [e]
      refine kinS_BS U V n (s + 1) (by omega) (fun u d hu hd hl => ?_)
      by_cases he : u + d = s
      · have := f u (by omega) (by omega)
        rwa [show s - u = d by omega] at this
      · exact h u d hu hd (by omega)
    · rw [c]
      refine ⟨(s : Int), Or.inr ⟨v, s - v, by omega, by omega, trivial, e, by show 100 * (v : Int) + s - v = _; omega, by omega, fun u d hu hd _ hne => ?_⟩⟩
      by_cases h1 : u + d < s
      · exact absurd (h u d hu hd h1) hne
      · by_cases h2 : u + d = s
        · refine Or.inr ⟨by omega, ?_⟩
          refine Classical.byContradiction (fun hn => ?_)
          have := f u (by omega) (by omega)
          rw [show s - u = d by omega] at this
          exact hne this
        · exact Or.inl (by omega)
theorem kinC_BS (w : Nat → Nat) (chs : List Nat) (a c : Nat) : ∃ b, BS (itN w chs (2 ^ w a)) (itN w chs (2 ^ w c)) (fun _ _ => True) (kinC w chs a c) b := kinS_BS _ _ 21 0 rfl (fun u d _ _ h => absurd h (by omega))
/-- at most four births: bl is all -/
theorem brs_len {D : Mem} (hw : Wf D) : ∀ n, n ≤ nR D → 3 * ((brs D n).length : Int) ≤ (if n = 0 then 0 else D.1 2 (n - 1) + D.1 3 (n - 1))
  | 0, _ => by rw [if_pos rfl]; show 3 * ((0 : Nat) : Int) ≤ 0; omega
  | n + 1, h => by
    have ih := brs_len hw n (by omega)
    have hn : (n : Int) < D.1 1 10 := by unfold nR at h; omega
    have hR := hw.2.1
    have h1 := hR.1 n hn
    have hf : D.1 2 n = if n = 0 then 0 else D.1 2 (n - 1) + D.1 3 (n - 1) := by
      by_cases h0 : n = 0
      · subst h0; rw [if_pos rfl]; exact hR.2.2.1 (by omega)
      · rw [if_neg h0]
        have h2 := hR.2.1 (n - 1) (by omega)
        rwa [show n - 1 + 1 = n by omega] at h2
    rw [if_neg (by omega), Nat.add_sub_cancel, brs_s, List.length_append]
    by_cases hb : isB D n
    · rw [if_pos hb, List.length_singleton]
      have := hb.2.1
      omega
    · rw [if_neg hb, List.length_nil]
      omega
theorem bl_all {D : Mem} (hw : Wf D) : bl D = brs D (nR D) := by
  refine List.take_of_length_le ?_
  have h := brs_len hw (nR D) (Nat.le_refl _)
  obtain ⟨hB, hR, _⟩ := hw
  obtain ⟨b1, b2, b3, b4⟩ := hB
  by_cases h0 : nR D = 0
  · rw [if_pos h0] at h; omega
  · rw [if_neg h0] at h
    have e : nR D = (D.1 1 10).toNat := rfl
    have := (hR.1 (nR D - 1) (by omega)).2.2.2
    omega
