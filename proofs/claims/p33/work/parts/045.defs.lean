/-! THE LAYER, 1b: what a program decides of the tables, ahead of the facts -/
def z_tn (i : Nat) : String := match i with
  | 0 => "LOWEST"
  | 1 => "HIGHEST"
  | _ => "AT_FIRST"
/-- the words that every method has -/
def z_tbl : List Cond := lw_tbl.filter goodWord
theorem z_mem {w : Cond} (i : Nat) (h : lw_tbl[i]? = some w) (hg : goodWord w = true) : w ∈ z_tbl := List.mem_filter.mpr ⟨List.mem_of_getElem? h, hg⟩
theorem z_good : z_tbl.all goodWord = true := List.all_eq_true.mpr fun _ h => (List.mem_filter.mp h).2
/-- a method: name, code, locals, answer, handlers -/
abbrev z_Me : Type := MethodName × ByteArray × Nat × Option FieldType × List (Nat × Nat × Nat × Nat)
def z_cw (M : z_Me) : Cond := match M.2.2.2.2 with
  | [] => .code M.1 M.2.1 M.2.2.1 M.2.2.2.1
  | q :: hh => .codeWith M.1 M.2.1 M.2.2.1 M.2.2.2.1 (q :: hh)
def z_tyok (code : Nat) (ty : FieldType) : Bool := match code, ty with
  | 2, t => t.isReference
  | 3, .boolean => true
  | 0, .int => true
  | _, _ => false
/-- a class of the table, its words -/
def z_CL (c : Nat) (C : String) (T : u_T) (N : Nat) (ty : Nat → FieldType) : Prop :=
  vwCl[c]? = some (C, T, N) ∧ N = z_nf c ∧ c < 100 ∧ (∀ w ∈ u_ws C T N, w ∈ z_tbl) ∧ (∀ k, k < N → parseFieldDescriptor (T k).2.2.1 = some (ty k)) ∧ (∀ a, a < N → ∀ b, b < N → a ≠ b → (T a).2.1 ≠ (T b).2.1) ∧ (∀ k, k < N → z_tyok (z_ft c k) (ty k) = true)
/-- what a program decides of a method -/
def z_MOK (M : z_Me) : Prop := plainName M.1.cls = true ∧ (M.1.cls ≠ "java/lang/invoke/MethodHandle" ∧ M.1.cls ≠ "java/lang/invoke/VarHandle") ∧ z_cw M ∈ z_tbl ∧ Cond.initialized M.1.cls ∈ z_tbl
def z_VOK (M2 : z_Me) (na : Nat) : Prop := Cond.instanceMethod M2.1 ∈ z_tbl ∧ Cond.selects M2.1.cls M2.1 M2.1 ∈ z_tbl ∧ (parseMethodDescriptor M2.1.desc).map (fun d => d.parameters.length) = some na ∧ M2.2.2.2.2 = []
def z_SOK (M2 : z_Me) (na : Nat) : Prop := Cond.static M2.1 ∈ z_tbl ∧ (parseMethodDescriptor M2.1.desc).map (fun d => d.parameters.length) = some na
def z_IOK (M2 : z_Me) (na : Nat) : Prop := Cond.instanceMethod M2.1 ∈ z_tbl ∧ M2.1.name = "<init>" ∧ (parseMethodDescriptor M2.1.desc).map (fun d => d.parameters.length) = some na ∧ M2.2.2.2.2 = [] ∧ M2.2.2.2.1 = none
