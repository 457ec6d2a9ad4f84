/-! MODULE 1: an abstract run over the bytecode: values with places instead of addresses, numbers as Int; its rows are proved once, out of the kit's rows. -/
def isNest : Cond → Bool
  | .fieldLinkNest _ _ _ _ _ _ => true
  | .methodLinkNest _ _ _ _ => true
  | _ => false
def goodTbl : List Cond := lw_tbl.filter goodWord
def nestW : List Cond := lw_tbl.filter isNest
theorem gmem {w : Cond} (i : Nat) (h : lw_tbl[i]? = some w ∧ goodWord w = true) : w ∈ goodTbl := List.mem_filter.mpr ⟨List.mem_of_getElem? h.1, h.2⟩
theorem nmem {w : Cond} (i : Nat) (h : lw_tbl[i]? = some w ∧ isNest w = true) : w ∈ nestW := List.mem_filter.mpr ⟨List.mem_of_getElem? h.1, h.2⟩
theorem gall (ws : List Cond) (is : List Nat) (h : is.map (fun i => lw_tbl[i]?) = ws.map some ∧ ws.all goodWord = true) : ∀ w ∈ ws, w ∈ goodTbl := by
  intro w hw
  refine List.mem_filter.mpr ⟨?_, List.all_eq_true.mp h.2 w hw⟩
  have h1 : some w ∈ ws.map some := List.mem_map.mpr ⟨w, hw, rfl⟩
  rw [← h.1] at h1
  obtain ⟨i, -, hi⟩ := List.mem_map.mp h1
  exact List.mem_of_getElem? hi
/-- a method: name, code, size of its locals, what it returns -/
abbrev MD : Type := MethodName × ByteArray × Nat × Option FieldType
def wsOf (y : MD) : List Cond := Cond.code y.1 y.2.1 y.2.2.1 y.2.2.2 :: goodTbl
/-- an entry of a class's pool that names a field: of class ci (C, T, N), slot k -/
def FOK (own : String) (idx ci k : Nat) (C : String) (T : u_T) (N : Nat) : Prop :=
  vwCl[ci]? = some (C, T, N) ∧ (T k).1 = C ∧ k < N ∧ (Cond.fieldLink own idx C (T k).2.1 (T k).2.2.1 ∈ goodTbl ∨ ∃ host, Cond.fieldLinkNest own idx C (T k).2.1 (T k).2.2.1 host ∈ nestW)
def LOK (own : String) (idx : Nat) (y : MD) : Prop := Cond.methodLink own idx y.1 ∈ goodTbl ∨ ∃ host, Cond.methodLinkNest own idx y.1 host ∈ nestW
def SOK (own : String) (idx : Nat) (y : MD) (n : Nat) : Prop :=
  LOK own idx y ∧ Cond.static y.1 ∈ goodTbl ∧ Cond.initialized y.1.cls ∈ goodTbl ∧ Cond.code y.1 y.2.1 y.2.2.1 y.2.2.2 ∈ goodTbl ∧ y.2.2.1 ≤ 45 ∧ plainName y.1.cls = true ∧ (y.1.cls ≠ "java/lang/invoke/MethodHandle" ∧ y.1.cls ≠ "java/lang/invoke/VarHandle" ∧ (parseMethodDescriptor y.1.desc).map (fun d => d.parameters.length) = some n)
def VOK (own : String) (idx : Nat) (y : MD) (n : Nat) : Prop :=
  LOK own idx y ∧ Cond.instanceMethod y.1 ∈ goodTbl ∧ Cond.selects y.1.cls y.1 y.1 ∈ goodTbl ∧ Cond.initialized y.1.cls ∈ goodTbl ∧ Cond.code y.1 y.2.1 y.2.2.1 y.2.2.2 ∈ goodTbl ∧ y.2.2.1 ≤ 45 ∧ plainName y.1.cls = true ∧ (y.1.cls ≠ "java/lang/invoke/MethodHandle" ∧ y.1.cls ≠ "java/lang/invoke/VarHandle" ∧ (parseMethodDescriptor y.1.desc).map (fun d => d.parameters.length) = some n)
