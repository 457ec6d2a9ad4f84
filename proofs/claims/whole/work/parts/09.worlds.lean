/-! MODULE 5: the two worlds (the class's objects and arrays; the reference's), results, truth values. -/
def wdC : List Sh := [.inr (8, [some 1, some 12, some 13, some 16, some 24, some 44, some 67, none]), .inr (0, [some 2, some 3, some 4, some 5, some 6, some 7, some 8, some 9, some 10, some 11, none, none, none]), .inl (0, 8), .inl (0, 8), .inl (0, 8), .inl (0, 14), .inl (0, 14), .inl (0, 14), .inl (0, 14), .inl (0, 14), .inl (0, 14), .inl (1, 14), .inr (4, [none, none, none, none, none, none, none]), .inr (1, [some 14, some 15]), .inl (2, 1024), .inl (0, 9), .inr (7, [some 1, some 12, some 13, some 17, some 18, some 19, some 20, some 21, some 22, some 23, none, none]), .inl (0, 14), .inl (0, 14), .inl (0, 14), .inl (0, 14), .inl (0, 14), .inl (0, 14), .inl (0, 196), .inr (5, [some 1, some 16, some 29, some 25, some 26, some 27, some 28, some 42, some 43, none, none, none, none, none]), .inl (0, 14), .inl (0, 14), .inl (0, 14), .inl (0, 14), .inr (3, [some 16, some 30, some 31, some 32, some 33, some 34, some 35, some 36, some 37, some 38, some 39, some 40, some 41, none]), .inl (0, 14), .inl (0, 14), .inl (0, 14), .inl (0, 14), .inl (0, 14), .inl (0, 14), .inl (0, 196), .inl (0, 14), .inl (0, 14), .inl (0, 14), .inl (0, 14), .inl (0, 14), .inl (1, 3000), .inl (0, 3000), .inr (6, [some 1, some 45, some 65, some 66]), .inr (5, [some 1, some 16, some 50, some 46, some 47, some 48, some 49, some 63, some 64, none, none, none, none, none]), .inl (0, 14), .inl (0, 14), .inl (0, 14), .inl (0, 14), .inr (3, [some 16, some 51, some 52, some 53, some 54, some 55, some 56, some 57, some 58, some 59, some 60, some 61, some 62, none]), .inl (0, 14), .inl (0, 14), .inl (0, 14), .inl (0, 14), .inl (0, 14), .inl (0, 14), .inl (0, 196), .inl (0, 14), .inl (0, 14), .inl (0, 14), .inl (0, 14), .inl (0, 14), .inl (1, 0), .inl (0, 0), .inl (0, 256), .inl (0, 3584), .inr (2, [some 1, some 68, some 69, some 70, none]), .inl (0, 4), .inl (0, 11), .inl (0, 11)]
def wdM : List Sh := [.inr (9, [some 1, some 2, some 3, some 4, some 5, some 6, some 7, some 8, some 9, some 10, some 11, some 12, none, none, none, none, none, none, none, none, none, none, some 13, some 14, some 15, some 16, some 17, some 18, none, none, none, none, none, none, none, some 19, some 20, none, none, none, some 21, some 22]), .inl (0, 8), .inl (0, 9), .inl (0, 8), .inl (0, 8), .inl (0, 14), .inl (0, 14), .inl (0, 14), .inl (0, 14), .inl (0, 14), .inl (0, 196), .inl (1, 14), .inl (2, 676), .inl (0, 9), .inl (0, 9), .inl (0, 14), .inl (0, 14), .inl (0, 15), .inl (0, 15), .inl (3, 42000), .inl (0, 3000), .inl (0, 14), .inl (0, 14)]
def Ret (r : Option AV) (M0 : Mem) : Option AV → Mem → Prop := fun v M' => v = r ∧ M' = M0
def bi (P : Prop) [Decidable P] : Int := if P then 1 else 0
theorem bi_t {P : Prop} [Decidable P] (h : P) : bi P = 1 := if_pos h
theorem bi_f {P : Prop} [Decidable P] (h : ¬ P) : bi P = 0 := if_neg h
theorem bi_01 (P : Prop) [Decidable P] : bi P = 0 ∨ bi P = 1 := by by_cases h : P <;> simp [bi, h]
theorem bi_congr {P Q : Prop} [Decidable P] [Decidable Q] (h : P ↔ Q) : bi P = bi Q := by by_cases hP : P <;> simp [bi, hP, h.symm, h.mp] <;> simp_all
theorem leafT {P : Prop} [Decidable P] {M : Mem} (h : P) : Ret (some (vi (bi P))) M (some (vi 1)) M := ⟨by rw [bi_t h], rfl⟩
theorem leafF {P : Prop} [Decidable P] {M : Mem} (h : ¬ P) : Ret (some (vi (bi P))) M (some (vi 0)) M := ⟨by rw [bi_f h], rfl⟩
theorem leafB {P Q : Prop} [Decidable P] [Decidable Q] {M : Mem} (h : P ↔ Q) : Ret (some (vi (bi P))) M (some (vi (bi Q))) M := ⟨by rw [bi_congr h], rfl⟩
theorem wp_mono {wd : List Sh} {d : Nat} {y : MD} {As : List AV} {M : Mem} {Post Post' : Option AV → Mem → Prop} (h : ∀ v M', Post v M' → Post' v M') (hw : WP wd d y As M Post) : WP wd d y As M Post' := by
  intro l D ad kd p e ha hc hk s m args below hf hap hP hK
  obtain ⟨k, o, h1, h2, h3, ⟨v, M', hp, hr⟩, hF⟩ := hw l D ad kd p e ha hc hk s m args below hf hap hP hK
  exact ⟨k, o, h1, h2, h3, ⟨v, M', h v M' hp, hr⟩, hF⟩
section ROWS3
variable {wd : List Sh} {q : MD} {d : Nat} {Post : Option AV → Mem → Prop} {pc : Nat} {ls : List (Option AV)} {st rest : List AV} {M M1 : Mem} {r : Option AV}
theorem G.mono {Post' : Option AV → Mem → Prop} (h : ∀ v M', Post v M' → Post' v M') (hw : G wd q d Post pc ls st M) : G wd q d Post' pc ls st M := by
  intro p l e s m args below meth c D ad kd X H locs als hP hS hL T hT X2
  obtain ⟨t, a1, o, b1, b2, ⟨v, M', hp, hr⟩, hF⟩ := hw p l e s m args below meth c D ad kd X H locs als hP hS hL T hT X2
  exact ⟨t, a1, o, b1, b2, ⟨v, M', h v M' hp, hr⟩, hF⟩
theorem g_callSr {idx n : Nat} {y : MD} {As : List AV} (hd : decode q.2.1 pc = .ok (.invokestatic idx, 3)) (hs : SOK q.1.cls idx y n) (hw : WP wd d y As M (Ret r M1)) (hst : st = As.reverse ++ rest) (hn : As.length = n) (hrest : (rest.map catv).sum ≤ 8) (kk : G wd q (d + 1) Post (pc + 3) ls (r.toList ++ rest) M1) : G wd q (d + 1) Post pc ls st M :=
  g_callS hd hs hw hst hn hrest (fun v M' h => by rw [h.1, h.2]; exact kk)
theorem g_callVr {idx n pl ci : Nat} {y : MD} {As : List AV} {fds : List (Option Nat)} (hd : decode q.2.1 pc = .ok (.invokevirtual idx, 3)) (hs : VOK q.1.cls idx y n) (hw : WP wd d y (vr pl :: As) M (Ret r M1)) (hst : st = As.reverse ++ vr pl :: rest) (hn : As.length = n) (hp : wd[pl]? = some (.inr (ci, fds))) (hc : (vwCl[ci]?).map (fun r => r.1) = some y.1.cls) (hrest : (rest.map catv).sum ≤ 8) (kk : G wd q (d + 1) Post (pc + 3) ls (r.toList ++ rest) M1) : G wd q (d + 1) Post pc ls st M :=
  g_callV hd hs hw hst hn hp hc hrest (fun v M' h => by rw [h.1, h.2]; exact kk)
theorem g_if_eqB {P : Prop} [Decidable P] {off : Int} {tgt : Nat} (hd : decode q.2.1 pc = .ok (.ifCond .eq off, 3)) (ht : (pc : Int) + off = (tgt : Int)) (kt : ¬ P → G wd q d Post tgt ls st M) (kf : P → G wd q d Post (pc + 3) ls st M) : G wd q d Post pc ls (vi (bi P) :: st) M :=
  g_if_eq hd ht (fun h => kt (fun hp => by rw [bi_t hp] at h; exact absurd h (by decide))) (fun h => by by_cases hp : P; exact kf hp; exact absurd (bi_f hp) h) (by rcases bi_01 P with h | h <;> omega) (by rcases bi_01 P with h | h <;> omega)
theorem g_if_neB {P : Prop} [Decidable P] {off : Int} {tgt : Nat} (hd : decode q.2.1 pc = .ok (.ifCond .ne off, 3)) (ht : (pc : Int) + off = (tgt : Int)) (kt : P → G wd q d Post tgt ls st M) (kf : ¬ P → G wd q d Post (pc + 3) ls st M) : G wd q d Post pc ls (vi (bi P) :: st) M :=
  g_if_ne hd ht (fun h => by by_cases hp : P; exact kt hp; exact absurd (bi_f hp) h) (fun h => kf (fun hp => by rw [bi_t hp] at h; exact absurd h (by decide))) (by rcases bi_01 P with h | h <;> omega) (by rcases bi_01 P with h | h <;> omega)
end ROWS3
theorem si_eq (M : Mem) (p k : Nat) (z : Int) : (si M p k z).1 p k = z := by simp [si]
theorem si_ne (M : Mem) (p k p' k' : Nat) (z : Int) (h : ¬ (p' = p ∧ k' = k)) : (si M p k z).1 p' k' = M.1 p' k' := if_neg h
theorem sil (M : Mem) (p k p' k' : Nat) (z : Int) : (si M p k z).1 p' k' = if p' = p ∧ k' = k then z else M.1 p' k' := rfl
theorem sjl (M : Mem) (p k : Nat) (x : Int64) : (sj M p k x).1 = M.1 := rfl
theorem si_J (M : Mem) (p k : Nat) (z : Int) : (si M p k z).2 = M.2 := rfl
theorem sj_I (M : Mem) (p k : Nat) (x : Int64) : (sj M p k x).1 = M.1 := rfl

