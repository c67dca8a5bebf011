/-! THE LAYER, 2: the heap as two functions (numbers, references) over the table of shapes -/
abbrev z_M : Type := Int → Int → Int
def z_up (σ : z_M) (k j v : Int) : z_M := fun a b => if a = k ∧ b = j then v else σ a b
theorem z_up_s {σ : z_M} {k j v : Int} : z_up σ k j v k j = v := if_pos ⟨rfl, rfl⟩
theorem z_up_k {σ : z_M} {k j v a b : Int} (h : a ≠ k) : z_up σ k j v a b = σ a b := if_neg (fun q => h q.1)
theorem z_up_j {σ : z_M} {k j v a b : Int} (h : b ≠ j) : z_up σ k j v a b = σ a b := if_neg (fun q => h q.2)
def z_slot (ty : Nat) (x k : Int) : z_V := match ty with
  | 2 => vR k
  | _ => vI x
def z_o (K : z_K) (k : Int) : Option Nat := if k ≤ 0 then none else some (K.1 + k.toNat)
theorem z_o_rf (K : z_K) (k : Int) : va_rf (z_o K k) = z_rv K k := by
  unfold z_o z_rv
  by_cases h : k ≤ 0
  · rw [if_pos h, if_pos h]; rfl
  · rw [if_neg h, if_neg h]; rfl
def z_fs (K : z_K) (c : Nat) (f g : Int → Int) : List Value := (List.range (z_nf c)).map (fun j => z_c K (z_slot (z_ft c j) (f j) (g j)))
def z_e (K : z_K) (k : Int) (f g : Int → Int) : va_E :=
  if (z_sh k).1 < 100 then .inr ((z_sh k).1, z_fs K (z_sh k).1 f g)
  else .inl (K.2.2.2.1 (z_sh k).1, (z_sh k).2, if (z_sh k).1 = 101 then .inr (.inl (fun j => Int64.ofInt (f j))) else if (z_sh k).1 < 103 then .inl (fun j => Int32.ofInt (f j)) else .inr (.inr (.inr (.inr (fun j => z_o K (g j))))))
def z_can (σ : z_M) : Prop := ∀ k j : Int, if (z_sh k).1 = 101 then z_L (σ k j) else z_I (σ k j)
/-- the heap H holds the first n cells, with the references τ and the numbers σ -/
def z_R (K : z_K) (n : Nat) (τ σ : z_M) (H : Heap) : Prop :=
  (∀ k : Nat, 1 ≤ k → k ≤ n → va_at (K.2.1, K.2.2.1) vwCl (K.1 + k, z_e K k (σ k) (τ k)) H) ∧ (n < z_NC → H.size = K.1 + n + 1) ∧ K.1 + n + 1 ≤ H.size ∧ z_can σ
def z_A (K : z_K) : Nat → Prop := fun q => K.1 < q
def z_tys (K : z_K) : List (ClassId × FieldType) := [(K.2.2.2.1 100, .int), (K.2.2.2.1 101, .long), (K.2.2.2.1 102, .boolean), (K.2.2.2.1 103, .array .int), (K.2.2.2.1 104, .object RX9), (K.2.2.2.1 105, .array (.array .int))]
def z_tb (i : Nat) (j : Nat) : Int := match i with
  | 0 => [12, 0, 0, 0, 0, 0, 0, 0, 0].getD j 0
  | 1 => [999, 4, 6, 1, 1, 1, 1, 99, 12].getD j 0
  | _ => [120, 2, 3, 0, 0, 1, 0, 0, 4].getD j 0
/-- exceptions' classes, nest mates' constructors, the arrays' classes -/
def z_dcl : List MethodName := [⟨"java/lang/RuntimeException", "<init>", "()V"⟩, ⟨"java/lang/Exception", "<init>", "()V"⟩, ⟨"java/lang/Throwable", "<init>", "()V"⟩]
def z_X (K : z_K) (U : State) : Prop :=
  va_Nw (.castable "java/lang/IllegalArgumentException" "java/lang/IllegalArgumentException") U ∧ va_Nw (.castable "java/util/NoSuchElementException" "java/util/NoSuchElementException") U ∧
  va_Nc "java/util/NoSuchElementException" "java/lang/IllegalArgumentException" U ∧ va_Nc "java/lang/IllegalArgumentException" "java/util/NoSuchElementException" U ∧
  va_Nw (.methodLinkNest RX11 z_n11 yX9_init RX11) U ∧ va_Nw (.methodLinkNest RX2 z_n2 yX9_init RX11) U ∧ va_AO RX9 U ∧
  (∃ (k : Class) (q : ClassId), U.vm.classes[K.2.2.2.1 100]? = some k ∧ k.kind = .array q .int) ∧ (∃ k : Class, U.vm.classes[K.2.2.2.1 103]? = some k ∧ k.kind = .array (K.2.2.2.1 100) (.array .int)) ∧ (∃ k : Class, U.vm.classes[K.2.2.2.1 105]? = some k ∧ k.kind = .array (K.2.2.2.1 103) (.array (.array .int))) ∧ ∀ y ∈ z_dcl, va_Nw (.declares y) U
theorem z_kind {u U : State} (hvm : u.vm.Alike U.vm) {c : ClassId} {k : Class} (h : u.vm.classes[c]? = some k) : ∃ k' : Class, U.vm.classes[c]? = some k' ∧ k'.kind = k.kind := by
  obtain ⟨k', hk', he⟩ := hvm.2.2 _ _ h
  exact ⟨k', hk', by rw [he]⟩
theorem z_X.to {K : z_K} {u U : State} (h : z_X K u) (hW : u.WarmedH U.vm) : z_X K U := by
  obtain ⟨h1, h2, h3, h4, h5, h6, h7, ⟨k1, q1, a1, b1⟩, ⟨k2, a2, b2⟩, ⟨k3, a3, b3⟩, h9⟩ := h
  obtain ⟨j1, c1, d1⟩ := z_kind hW.alike a1
  obtain ⟨j2, c2, d2⟩ := z_kind hW.alike a2
  obtain ⟨j3, c3, d3⟩ := z_kind hW.alike a3
  exact ⟨va_Nw.warmC hW h1, va_Nw.warmC hW h2, va_Nc.moved hW.alike h3, va_Nc.moved hW.alike h4, va_Nw.warmM hW h5, va_Nw.warmM hW h6, va_AO.moved hW.alike h7, ⟨j1, q1, c1, d1.trans b1⟩, ⟨j2, c2, d2.trans b2⟩, ⟨j3, c3, d3.trans b3⟩, fun y hy => va_Nw.warmD hW (h9 y hy)⟩
def z_W (K : z_K) (U : State) (H : Heap) : Prop :=
  va_K (K.2.1, K.2.2.1) vwCl (z_tys K) U ∧
  (∀ i, i < 3 → va_T .int (K.2.2.2.2.1 i) 9 (fun j => .int (Int32.ofInt (z_tb i j))) (z_A K) U H ∧ va_Z RX11 (z_tn i) "[I" (.ref (K.2.2.2.2.1 i)) (z_A K) U H) ∧
  vx_Zq Bundle.tN "UNASSIGNED_STACK" Bundle.steD (z_A K) U H ∧ vx_Zq Bundle.tN "SUPPRESSED_SENTINEL" Bundle.listD (z_A K) U H ∧
  (va_X K.2.2.2.2.2.1 K.2.2.2.2.2.2.1 K.2.2.2.2.2.2.2 U H ∧ K.2.2.2.2.2.1 < H.size ∧ ¬ z_A K K.2.2.2.2.2.1 ∧ K.2.2.2.2.2.2.1 ≤ 3072) ∧ z_X K U
theorem z_W.to {K : z_K} {u U : State} {H0 H : Heap} (h : z_W K u H0) (hW : u.WarmedH U.vm) (hs : H0.size ≤ H.size) (hq : ∀ a : Nat, a < H0.size → ¬ z_A K a → H[a]? = H0[a]?) : z_W K U H := by
  obtain ⟨h1, h2, h3, h4, ⟨h5, h6, h7, h8⟩, h9⟩ := h
  have hvm := hW.alike
  exact ⟨va_K.moved hvm h1, fun i hi => ⟨va_T.moved hvm ((h2 i hi).1.kept hq), va_Z.moved hvm ((h2 i hi).2.kept hq)⟩, vx_Zq.moved hvm (h3.kept hq), vx_Zq.moved hvm (h4.kept hq), ⟨va_X.moved hvm (by
    obtain ⟨scr, g1, g2⟩ := h5
    exact ⟨scr, by rw [hq _ h6 h7]; exact g1, g2⟩), Nat.lt_of_lt_of_le h6 hs, h7, h8⟩, h9.to hW⟩
def z_ws (M : z_Me) : List Cond := z_cw M :: z_tbl
/-- what holds in every frame of M -/
def z_F (l : Launch) (K : z_K) (M : z_Me) (p : Program) (s : State) (m : MethodId) (args : Array Value) (meth : Method) (c : Code) : Prop :=
  p.tables.exec = Jvm.exec ∧ c.code = M.2.1 ∧ c.maxLocals = M.2.2.1 ∧ meth.sig.returnType = M.2.2.2.1 ∧ meth.locks = false ∧ s.vm.findClass M.1.cls = some m.cls ∧ (∀ w ∈ z_tbl, w.before args s = true) ∧
  c.exceptionTable.toList = tableOf M.2.2.2.2 ∧ meth.name = M.1.name ∧ l.stackTraces = false ∧ z_W K s s.heap
abbrev z_Q : Type := z_V → Nat → z_M → z_M → Prop
def z_an (K : z_K) (v : z_V) : Option Value := if v.1 = 5 then none else some (z_c K v)
def z_QC (K : z_K) (Q : z_Q) : Array Value → State → Outcome → State → Prop := fun _ st o t =>
  ∃ (v : z_V) (n : Nat) (τ σ : z_M), o = .returned (z_an K v) ∧ v.1 < 6 ∧ Q v n τ σ ∧ z_g v ∧ z_R K n τ σ t.heap ∧ va_F (z_A K) st t
def z_xn (x : Int) : String := if x = 0 then "java/util/NoSuchElementException" else "java/lang/IllegalArgumentException"
def z_XC (K : z_K) (Q : z_Q) : String → State → State → Prop := fun E st t =>
  ∃ (x : Int) (n : Nat) (τ σ : z_M), z_xn x = E ∧ Q (vX x) n τ σ ∧ z_R K n τ σ t.heap ∧ va_F (z_A K) st t
def V (l : Launch) (K : z_K) (M : z_Me) (fr lo bc bs pc : Nat) (lv st : List z_V) (n : Nat) (τ σ : z_M) (Q : z_Q) : Prop :=
  ∀ (p : Program) (e : Env) (R : Room) (s : State) (m : MethodId) (args : Array Value) (below : List Frame) (meth : Method) (c : Code) (H : Heap) (locs : List Loc) (cells slots : Nat) (ls : Array Slot),
    z_F l K M p s m args meth c → fr ≤ R.frames → lo ≤ R.locals → cells + bc ≤ R.cells → slots + bs ≤ R.slots → z_R K n τ σ H → va_S (z_A K) s.heap H locs → lv_has ls M.2.2.1 (z_al K 0 lv) → z_gs lv → z_gs st →
    W p l e R s m args below meth c H locs cells slots (vx_MQ below (z_QC K Q) (z_XC K Q) args s R.cells R.slots (z_A K)) (F0 m pc ls (st.map (z_c K)))
/-- what is thrown here -/
def VX (l : Launch) (K : z_K) (M : z_Me) (fr lo bc bs pc : Nat) (lv st : List z_V) (n : Nat) (τ σ : z_M) (x : Int) (Q : z_Q) : Prop :=
  ∀ (p : Program) (e : Env) (R : Room) (s : State) (m : MethodId) (args : Array Value) (below : List Frame) (meth : Method) (c : Code) (H : Heap) (locs : List Loc) (cells slots : Nat) (ls : Array Slot) (ce : Cell) (q : Addr),
    z_F l K M p s m args meth c → fr ≤ R.frames → lo ≤ R.locals → cells + bc ≤ R.cells → slots + bs ≤ R.slots → z_R K n τ σ H → va_S (z_A K) s.heap H locs → lv_has ls M.2.2.1 (z_al K 0 lv) → z_gs lv → z_gs st →
    H[q]? = some ce → ce.vm = .none → s.vm.findClass (z_xn x) = some ce.cls →
    vx_W p l e R s m args below meth c H locs cells slots (vx_MQ below (z_QC K Q) (z_XC K Q) args s R.cells R.slots (z_A K)) (F0 m pc ls (st.map (z_c K))) q
/-! cells -/
theorem z_at_obj {K : z_K} {n c : Nat} {τ σ : z_M} {H : Heap} {k : Int} (hR : z_R K n τ σ H) (h1 : 1 ≤ k) (h2 : k ≤ n) (hc : (z_sh k).1 = c) (hc1 : c < 100) : va_at (K.2.1, K.2.2.1) vwCl (K.1 + k.toNat, .inr (c, z_fs K c (σ k) (τ k))) H := by
  have h := hR.1 k.toNat (by omega) (by omega)
  have e : ((k.toNat : Nat) : Int) = k := by omega
  rw [e] at h
  unfold z_e at h
  rw [hc, if_pos hc1] at h
  exact h
theorem z_at_arr {K : z_K} {n c : Nat} {τ σ : z_M} {H : Heap} {k : Int} (hR : z_R K n τ σ H) (h1 : 1 ≤ k) (h2 : k ≤ n) (hc : (z_sh k).1 = c) (hc1 : ¬ c < 100) : va_at (K.2.1, K.2.2.1) vwCl (K.1 + k.toNat, z_e K k (σ k) (τ k)) H ∧ z_e K k (σ k) (τ k) = .inl (K.2.2.2.1 c, (z_sh k).2, if c = 101 then .inr (.inl (fun j => Int64.ofInt (σ k j))) else if c < 103 then .inl (fun j => Int32.ofInt (σ k j)) else .inr (.inr (.inr (.inr (fun j => z_o K (τ k j)))))) := by
  have h := hR.1 k.toNat (by omega) (by omega)
  have e : ((k.toNat : Nat) : Int) = k := by omega
  rw [e] at h
  refine ⟨h, ?_⟩
  unfold z_e
  rw [hc, if_neg hc1]
/-- one cell has changed -/
theorem z_R_put {K : z_K} {n : Nat} {τ σ τ' σ' : z_M} {H H' : Heap} {k : Int} (hR : z_R K n τ σ H) (h1 : 1 ≤ k) (h2 : k ≤ n) (hs : H'.size = H.size) (ho : ∀ q : Nat, q ≠ K.1 + k.toNat → H'[q]? = H[q]?)
    (hk : va_at (K.2.1, K.2.2.1) vwCl (K.1 + k.toNat, z_e K k (σ' k) (τ' k)) H') (hσ : ∀ a, a ≠ k → σ' a = σ a) (hτ : ∀ a, a ≠ k → τ' a = τ a) (hc : z_can σ') : z_R K n τ' σ' H' := by
  refine ⟨fun i i1 i2 => ?_, fun h => by rw [hs]; exact hR.2.1 h, by rw [hs]; exact hR.2.2.1, hc⟩
  by_cases e : (i : Int) = k
  · have e2 : k.toNat = i := by omega
    rw [e2] at hk
    rw [e]
    exact hk
  · rw [hσ _ e, hτ _ e]
    exact (hR.1 i i1 i2).kept (ho _ (by show K.1 + i ≠ K.1 + k.toNat; omega))
theorem z_can_put {σ : z_M} {k j v : Int} (h : z_can σ) (hv : if (z_sh k).1 = 101 then z_L v else z_I v) : z_can (z_up σ k j v) := by
  intro a b
  by_cases e : a = k ∧ b = j
  · obtain ⟨rfl, rfl⟩ := e
    rw [z_up_s]; exact hv
  · have : z_up σ k j v a b = σ a b := if_neg e
    rw [this]; exact h a b
theorem z_up_row {σ : z_M} {k j v a : Int} (h : a ≠ k) : z_up σ k j v a = σ a := funext fun b => z_up_k h
/-- a new cell -/
def z_nw (σ : z_M) (k : Int) : z_M := fun a b => if a = k then 0 else σ a b
theorem z_nw_s {σ : z_M} {k : Int} : z_nw σ k k = fun _ => 0 := funext fun _ => if_pos rfl
theorem z_nw_ne {σ : z_M} {k a : Int} (h : a ≠ k) : z_nw σ k a = σ a := funext fun _ => if_neg h
theorem z_can_nw {σ : z_M} {k : Int} (h : z_can σ) : z_can (z_nw σ k) := by
  intro a b
  by_cases e : a = k
  · subst e
    rw [z_nw_s]
    by_cases e2 : (z_sh a).1 = 101
    · rw [if_pos e2]; show z_L 0; decide
    · rw [if_neg e2]; show z_I 0; decide
  · rw [z_nw_ne e]; exact h a b
theorem z_R_new {K : z_K} {n : Nat} {τ σ : z_M} {H H' : Heap} {k : Int} (hR : z_R K n τ σ H) (hs : H'.size = H.size + 1) (ho : ∀ q : Nat, q < H.size → H'[q]? = H[q]?) (hn : n < z_NC) (hkn : k = ((n + 1 : Nat) : Int))
    (hk : va_at (K.2.1, K.2.2.1) vwCl (H.size, z_e K k (fun _ => 0) (fun _ => 0)) H') : z_R K (n + 1) (z_nw τ k) (z_nw σ k) H' := by
  have hz := hR.2.1 hn
  refine ⟨fun i i1 i2 => ?_, fun h => by rw [hs, hz]; omega, by rw [hs, hz]; omega, z_can_nw hR.2.2.2⟩
  by_cases e : (i : Int) = k
  · rw [e, z_nw_s, z_nw_s]
    have e3 : K.1 + i = H.size := by omega
    rw [e3]
    exact hk
  · rw [z_nw_ne e, z_nw_ne e]
    exact (hR.1 i i1 (by omega)).kept (ho _ (by show K.1 + i < H.size; omega))
/-- the heap says nothing of places that no cell has -/
theorem z_R_congr {K : z_K} {n : Nat} {τ σ τ' : z_M} {H : Heap} (hR : z_R K n τ σ H) (h : ∀ k : Nat, 1 ≤ k → k ≤ n → z_e K k (σ k) (τ k) = z_e K k (σ k) (τ' k)) : z_R K n τ' σ H :=
  ⟨fun k h1 h2 => by rw [← h k h1 h2]; exact hR.1 k h1 h2, hR.2.1, hR.2.2.1, hR.2.2.2⟩
