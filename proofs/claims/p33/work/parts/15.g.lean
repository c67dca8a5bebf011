/-! THE LAYER, 10: a method as a function (by program): G says that the code from pc on does what E says, where E says something -/
abbrev z_O : Type := Option (z_V × z_M)
def z_QE (E : z_O) : z_Q := fun v n τ σ => n = z_NC ∧ τ = z_gr ∧ E = some (v, σ)
def G (l : Launch) (K : z_K) (M : z_Me) (fr lo bc bs pc : Nat) (lv st : List z_V) (σ : z_M) (E : z_O) : Prop := E ≠ none → V l K M fr lo bc bs pc lv st z_NC z_gr σ (z_QE E)
def z_D (l : Launch) (K : z_K) (M : z_Me) (fr lo mc ms : Nat) (as : List z_V) (σ : z_M) (E : z_O) : Prop := E ≠ none → z_C l K M fr lo mc ms as z_NC z_gr σ (z_QE E)
def z_let {α : Type} (a : α) (f : α → z_O) : z_O := f a
abbrev z_ob (k : Int) (c : Nat) : Prop := 1 ≤ k ∧ k ≤ 7658 ∧ (z_sh k).1 = c
abbrev z_ix (k : Int) (c : Nat) (i : Int) : Prop := (1 ≤ k ∧ k ≤ 7658 ∧ (z_sh k).1 = c) ∧ 0 ≤ i ∧ i < ((z_sh k).2 : Nat)
abbrev z_bl (x : Int) : Prop := x = 0 ∨ x = 1
def z_and (x y : Int) : Int := (Int32.ofInt x &&& Int32.ofInt y).toInt
def z_or (x y : Int) : Int := (Int32.ofInt x ||| Int32.ofInt y).toInt
def z_xor (x y : Int) : Int := (Int32.ofInt x ^^^ Int32.ofInt y).toInt
def z_shl (x y : Int) : Int := (Int32.ofInt x <<< (Int32.ofInt y &&& 31)).toInt
def z_shr (x y : Int) : Int := (Int32.ofInt x >>> (Int32.ofInt y &&& 31)).toInt
def z_ushr (x y : Int) : Int := (((Int32.ofInt x).toUInt32 >>> ((Int32.ofInt y).toUInt32 &&& Int32.toUInt32 31)).toInt32).toInt
def z_landl (x y : Int) : Int := (Int64.ofInt x &&& Int64.ofInt y).toInt
def z_lshl (x y : Int) : Int := (Int64.ofInt x <<< ((Int32.ofInt y).toInt64 &&& 63)).toInt
def z_lshr (x y : Int) : Int := (Int64.ofInt x >>> ((Int32.ofInt y).toInt64 &&& 63)).toInt
def z_max (x y : Int) : Int := if x < y then y else x
def z_min (x y : Int) : Int := if y < x then y else x
def z_bI (r : z_O) (f : Int → z_M → z_O) : z_O := match r with
  | some ((0, x), s) => f x s
  | some ((6, x), s) => some ((6, x), s)
  | _ => none
def z_bL (r : z_O) (f : Int → z_M → z_O) : z_O := match r with
  | some ((1, x), s) => f x s
  | some ((6, x), s) => some ((6, x), s)
  | _ => none
def z_bR (r : z_O) (f : Int → z_M → z_O) : z_O := match r with
  | some ((2, x), s) => f x s
  | some ((6, x), s) => some ((6, x), s)
  | _ => none
def z_bN (r : z_O) (f : z_M → z_O) : z_O := match r with
  | some ((5, _), s) => f s
  | some ((6, x), s) => some ((6, x), s)
  | _ => none
theorem z_chk {c : Prop} [Decidable c] {A : z_O} (h : (if c then A else none) ≠ none) : c ∧ (if c then A else none) = A := by
  by_cases hc : c
  · exact ⟨hc, if_pos hc⟩
  · rw [if_neg hc] at h; exact absurd rfl h
def z_n9 : List z_V → Bool
  | [] => true
  | v :: t => !(Nat.beq v.1 9) && z_n9 t
theorem z_n9_ok : ∀ {as : List z_V}, z_n9 as = true → ∀ v ∈ as, v.1 ≠ 9
  | [], _, v, hv => by cases hv
  | a :: t, h, v, hv => by
    have h2 : (!(Nat.beq a.1 9) && z_n9 t) = true := h
    rw [Bool.and_eq_true] at h2
    rcases List.mem_cons.mp hv with e | e
    · rw [e]
      intro q
      rw [q] at h2
      exact absurd h2.1 (by decide)
    · exact z_n9_ok h2.2 v e
def z_fg : List z_V → List z_V → Prop
  | [], [] => True
  | a :: t, b :: u => (b = vU ∨ b = a) ∧ z_fg t u
  | _, _ => False
theorem z_fg_get : ∀ {a b : List z_V}, z_fg a b → ∀ (j : Nat) (v : z_V), b[j]? = some v → v.1 ≠ 9 → a[j]? = some v
  | [], [], _, j, v, h, _ => by simp at h
  | [], _ :: _, h, _, _, _, _ => h.elim
  | _ :: _, [], h, _, _, _, _ => h.elim
  | a :: t, b :: u, h, 0, v, hv, h9 => by
    have e : b = v := by simpa using hv
    subst e
    rcases h.1 with q | q
    · rw [q] at h9; exact absurd rfl h9
    · rw [q]; rfl
  | a :: t, b :: u, h, j + 1, v, hv, h9 => by
    have := z_fg_get h.2 j v (by simpa using hv) h9
    simpa using this
theorem z_fg_al {K : z_K} {a b : List z_V} (h : z_fg a b) {ls : Array Slot} {nL : Nat} (hl : lv_has ls nL (z_al K 0 a)) : lv_has ls nL (z_al K 0 b) := by
  refine ⟨hl.1, hl.2.1, fun q hq => ?_⟩
  obtain ⟨j, v, h1, h2, rfl⟩ := z_al_of _ _ _ hq
  exact hl.2.2 _ (z_al_mem (K := K) a 0 j v (z_fg_get h j v h1 h2) h2)
theorem z_fg_gs {a b : List z_V} (h : z_fg a b) (hg : z_gs a) : z_gs b := fun v hv => by
  by_cases h9 : v.1 = 9
  · obtain ⟨t, x⟩ := v
    have e : t = 9 := h9
    subst e
    exact ⟨fun q => absurd q (by show ¬ (9 : Nat) = 0; decide), fun q => absurd q (by show ¬ (9 : Nat) = 1; decide)⟩
  · obtain ⟨j, hj⟩ := List.getElem?_of_mem hv
    exact z_gat hg (z_fg_get h j v hj h9)
theorem z_tbI (i : Nat) (j : Nat) : z_I (z_tb i j) := by
  have key : ∀ (L : List Int), (∀ x ∈ L, z_I x) → ∀ j, z_I (L.getD j 0) := fun L hL j => by
    rw [List.getD_eq_getElem?_getD]
    cases h : L[j]? with
    | none => show z_I 0; decide
    | some x => exact hL x (List.mem_of_getElem? h)
  unfold z_tb
  split
  · exact key _ (by decide) j
  · exact key _ (by decide) j
  · exact key _ (by decide) j
section ZG
variable {l : Launch} {K : z_K} {M : z_Me} {fr lo bc bs pc : Nat} {lv st : List z_V} {σ : z_M} {E : z_O}
theorem z_D_of {mc ms : Nat} {as : List z_V} (hst : l.stackTraces = false) (hM : z_MOK M) (hlv : z_en as M.2.2.1 = lv) (h : G l K M fr lo mc ms 0 lv [] σ E) (hl : (z_ent as).length ≤ M.2.2.1) (h9 : z_n9 as = true) : z_D l K M fr lo mc ms as σ E := by
  subst hlv
  exact fun hE => z_C_of hst hM (h hE) hl (z_n9_ok h9)
theorem G_chk {c : Prop} [Decidable c] {A : z_O} (k : c → G l K M fr lo bc bs pc lv st σ A) : G l K M fr lo bc bs pc lv st σ (if c then A else none) := fun h => by
  obtain ⟨hc, e⟩ := z_chk h
  rw [e] at h ⊢
  exact k hc h
theorem G_ite {c : Prop} [Decidable c] {A B : z_O} (kt : c → G l K M fr lo bc bs pc lv st σ A) (kf : ¬ c → G l K M fr lo bc bs pc lv st σ B) : G l K M fr lo bc bs pc lv st σ (if c then A else B) := fun h => by
  by_cases hc : c
  · rw [if_pos hc] at h ⊢; exact kt hc h
  · rw [if_neg hc] at h ⊢; exact kf hc h
theorem G_fg {lv2 : List z_V} (h : z_fg lv lv2) (k : G l K M fr lo bc bs pc lv2 st σ E) : G l K M fr lo bc bs pc lv st σ E := fun hE => by
  intro p e R s m args below meth c H locs cells slots ls F h1 h2 h3 h4 hR hS hl hg hG
  exact k hE p e R s m args below meth c H locs cells slots ls F h1 h2 h3 h4 hR hS (z_fg_al h hl) (z_fg_gs h hg) hG
theorem G_less {bc2 bs2 : Nat} (h5 : bc2 ≤ bc) (h6 : bs2 ≤ bs) (k : G l K M fr lo bc2 bs2 pc lv st σ E) : G l K M fr lo bc bs pc lv st σ E := fun h => V_less h5 h6 (k h)
theorem G_iconst {x : Int} (hd : decode M.2.1 pc = .ok (.iconst x, 1)) (k : G l K M fr lo bc bs (pc + 1) lv (vI x :: st) σ (E)) (hx : z_I x := by decide) : G l K M fr lo bc bs (pc) lv (st) σ (E) := fun h => V_iconst hd hx (k h)
theorem G_bipush {x : Int} (hd : decode M.2.1 pc = .ok (.bipush x, 2)) (k : G l K M fr lo bc bs (pc + 2) lv (vI x :: st) σ (E)) (hx : -128 ≤ x ∧ x ≤ 127 := by decide) : G l K M fr lo bc bs (pc) lv (st) σ (E) := fun h => V_bipush hd hx (k h)
theorem G_sipush {x : Int} (hd : decode M.2.1 pc = .ok (.sipush x, 3)) (k : G l K M fr lo bc bs (pc + 3) lv (vI x :: st) σ (E)) (hx : -32768 ≤ x ∧ x ≤ 32767 := by decide) : G l K M fr lo bc bs (pc) lv (st) σ (E) := fun h => V_sipush hd hx (k h)
theorem G_lconst {x : Fin 2} {y : Int} (hd : decode M.2.1 pc = .ok (.lconst x, 1)) (k : G l K M fr lo bc bs (pc + 1) lv (vL y :: st) σ (E)) (hx : Int64.ofNat (x : Nat) = Int64.ofInt y := by decide) (hy : z_L y := by decide) : G l K M fr lo bc bs (pc) lv (st) σ (E) := fun h => V_lconst hd hx hy (k h)
theorem G_ldc {i : Nat} {x : Int} (hd : decode M.2.1 pc = .ok (.ldc i, 2)) (hw : Cond.constant M.1.cls i (Int32.ofInt x) ∈ z_tbl) (k : G l K M fr lo bc bs (pc + 2) lv (vI x :: st) σ (E)) (hx : z_I x := by decide) : G l K M fr lo bc bs (pc) lv (st) σ (E) := fun h => V_ldc hd hw hx (k h)
theorem G_ldcw {i : Nat} {x : Int} (hd : decode M.2.1 pc = .ok (.ldc_w i, 3)) (hw : Cond.constant M.1.cls i (Int32.ofInt x) ∈ z_tbl) (k : G l K M fr lo bc bs (pc + 3) lv (vI x :: st) σ (E)) (hx : z_I x := by decide) : G l K M fr lo bc bs (pc) lv (st) σ (E) := fun h => V_ldcw hd hw hx (k h)
theorem G_ldc2 {i : Nat} {x : Int} (hd : decode M.2.1 pc = .ok (.ldc2_w i, 3)) (hw : Cond.constantLong M.1.cls i (Int64.ofInt x) ∈ z_tbl) (k : G l K M fr lo bc bs (pc + 3) lv (vL x :: st) σ (E)) (hx : z_L x := by decide) : G l K M fr lo bc bs (pc) lv (st) σ (E) := fun h => V_ldc2 hd hw hx (k h)
theorem G_null  (hd : decode M.2.1 pc = .ok (.aconst_null, 1)) (k : G l K M fr lo bc bs (pc + 1) lv (vR 0 :: st) σ (E))  : G l K M fr lo bc bs (pc) lv (st) σ (E) := fun h => V_null hd (k h)
theorem G_iload_n {i : Fin 4} {x : Int} (hd : decode M.2.1 pc = .ok (.iload_n i, 1)) (hv : lv[(i : Nat)]? = some (vI x)) (k : G l K M fr lo bc bs (pc + 1) lv (vI x :: st) σ (E))  : G l K M fr lo bc bs (pc) lv (st) σ (E) := fun h => V_iload_n hd hv (k h)
theorem G_iload {i : Nat} {x : Int} (hd : decode M.2.1 pc = .ok (.iload i, 2)) (hv : lv[i]? = some (vI x)) (k : G l K M fr lo bc bs (pc + 2) lv (vI x :: st) σ (E))  : G l K M fr lo bc bs (pc) lv (st) σ (E) := fun h => V_iload hd hv (k h)
theorem G_istore_n {i : Fin 4} {x : Int} {lv' : List z_V} (hd : decode M.2.1 pc = .ok (.istore_n i, 1)) (hs : z_set lv (i : Nat) (vI x) = lv') (k : G l K M fr lo bc bs (pc + 1) lv' (st) σ (E)) (hi : (i : Nat) < M.2.2.1 := by decide) : G l K M fr lo bc bs (pc) lv (vI x :: st) σ (E) := fun h => V_istore_n hd hs (k h) hi
theorem G_istore {i : Nat} {x : Int} {lv' : List z_V} (hd : decode M.2.1 pc = .ok (.istore i, 2)) (hs : z_set lv i (vI x) = lv') (k : G l K M fr lo bc bs (pc + 2) lv' (st) σ (E)) (hi : i < M.2.2.1 := by decide) : G l K M fr lo bc bs (pc) lv (vI x :: st) σ (E) := fun h => V_istore hd hs (k h) hi
theorem G_lload_n {i : Fin 4} {x : Int} (hd : decode M.2.1 pc = .ok (.lload_n i, 1)) (hv : lv[(i : Nat)]? = some (vL x)) (k : G l K M fr lo bc bs (pc + 1) lv (vL x :: st) σ (E))  : G l K M fr lo bc bs (pc) lv (st) σ (E) := fun h => V_lload_n hd hv (k h)
theorem G_lload {i : Nat} {x : Int} (hd : decode M.2.1 pc = .ok (.lload i, 2)) (hv : lv[i]? = some (vL x)) (k : G l K M fr lo bc bs (pc + 2) lv (vL x :: st) σ (E))  : G l K M fr lo bc bs (pc) lv (st) σ (E) := fun h => V_lload hd hv (k h)
theorem G_lstore_n {i : Fin 4} {x : Int} {lv' : List z_V} (hd : decode M.2.1 pc = .ok (.lstore_n i, 1)) (hs : z_set2 lv (i : Nat) (vL x) = lv') (k : G l K M fr lo bc bs (pc + 1) lv' (st) σ (E)) (hi : (i : Nat) + 1 < M.2.2.1 := by decide) : G l K M fr lo bc bs (pc) lv (vL x :: st) σ (E) := fun h => V_lstore_n hd hs (k h) hi
theorem G_lstore {i : Nat} {x : Int} {lv' : List z_V} (hd : decode M.2.1 pc = .ok (.lstore i, 2)) (hs : z_set2 lv i (vL x) = lv') (k : G l K M fr lo bc bs (pc + 2) lv' (st) σ (E)) (hi : i + 1 < M.2.2.1 := by decide) : G l K M fr lo bc bs (pc) lv (vL x :: st) σ (E) := fun h => V_lstore hd hs (k h) hi
theorem z_isRR {k : Int} : z_isR (vR k) := Or.inl rfl
theorem G_aload_n {i : Fin 4} {x : Int} (hd : decode M.2.1 pc = .ok (.aload_n i, 1)) (hv : lv[(i : Nat)]? = some (vR x)) (k : G l K M fr lo bc bs (pc + 1) lv (vR x :: st) σ (E))  : G l K M fr lo bc bs (pc) lv (st) σ (E) := fun h => V_aload_n hd hv (k h) z_isRR
theorem G_aload {i : Nat} {x : Int} (hd : decode M.2.1 pc = .ok (.aload i, 2)) (hv : lv[i]? = some (vR x)) (k : G l K M fr lo bc bs (pc + 2) lv (vR x :: st) σ (E))  : G l K M fr lo bc bs (pc) lv (st) σ (E) := fun h => V_aload hd hv (k h) z_isRR
theorem G_astore_n {i : Fin 4} {x : Int} {lv' : List z_V} (hd : decode M.2.1 pc = .ok (.astore_n i, 1)) (hs : z_set lv (i : Nat) (vR x) = lv') (k : G l K M fr lo bc bs (pc + 1) lv' (st) σ (E)) (hi : (i : Nat) < M.2.2.1 := by decide) : G l K M fr lo bc bs (pc) lv (vR x :: st) σ (E) := fun h => V_astore_n hd hs (k h) z_isRR hi
theorem G_astore {i : Nat} {x : Int} {lv' : List z_V} (hd : decode M.2.1 pc = .ok (.astore i, 2)) (hs : z_set lv i (vR x) = lv') (k : G l K M fr lo bc bs (pc + 2) lv' (st) σ (E)) (hi : i < M.2.2.1 := by decide) : G l K M fr lo bc bs (pc) lv (vR x :: st) σ (E) := fun h => V_astore hd hs (k h) z_isRR hi
theorem z_isRT {i : Nat} : z_isR (vT i) := by first | exact Or.inl rfl | exact Or.inr (Or.inl rfl) | exact Or.inr (Or.inr rfl)
theorem G_tload_n {i : Fin 4} {x : Nat} (hd : decode M.2.1 pc = .ok (.aload_n i, 1)) (hv : lv[(i : Nat)]? = some (vT x)) (k : G l K M fr lo bc bs (pc + 1) lv (vT x :: st) σ (E))  : G l K M fr lo bc bs (pc) lv (st) σ (E) := fun h => V_aload_n hd hv (k h) z_isRT
theorem G_iadd {x y : Int} {f : Int → z_O} (hd : decode M.2.1 pc = .ok (.iadd, 1)) (k : ∀ z, G l K M fr lo bc bs (pc + 1) lv (vI z :: st) σ (f z)) : G l K M fr lo bc bs (pc) lv (vI y :: vI x :: st) σ (z_let (z_w (x + y)) f) := fun h => V_iadd hd rfl (k _ h)
theorem G_isub {x y : Int} {f : Int → z_O} (hd : decode M.2.1 pc = .ok (.isub, 1)) (k : ∀ z, G l K M fr lo bc bs (pc + 1) lv (vI z :: st) σ (f z)) : G l K M fr lo bc bs (pc) lv (vI y :: vI x :: st) σ (z_let (z_w (x - y)) f) := fun h => V_isub hd rfl (k _ h)
theorem G_imul {x y : Int} {f : Int → z_O} (hd : decode M.2.1 pc = .ok (.imul, 1)) (k : ∀ z, G l K M fr lo bc bs (pc + 1) lv (vI z :: st) σ (f z)) : G l K M fr lo bc bs (pc) lv (vI y :: vI x :: st) σ (z_let (z_w (x * y)) f) := fun h => V_imul hd rfl (k _ h)
theorem G_idiv {x y : Int} {f : Int → z_O} (hd : decode M.2.1 pc = .ok (.idiv, 1)) (k : ∀ z, G l K M fr lo bc bs (pc + 1) lv (vI z :: st) σ (f z)) : G l K M fr lo bc bs (pc) lv (vI y :: vI x :: st) σ (if y ≠ 0 then z_let (z_w (x.tdiv y)) f else none) := G_chk fun h0 h => V_idiv hd h0 rfl (k _ h)
theorem G_irem {x y : Int} {f : Int → z_O} (hd : decode M.2.1 pc = .ok (.irem, 1)) (k : ∀ z, G l K M fr lo bc bs (pc + 1) lv (vI z :: st) σ (f z)) : G l K M fr lo bc bs (pc) lv (vI y :: vI x :: st) σ (if y ≠ 0 then z_let (x.tmod y) f else none) := G_chk fun h0 h => V_irem hd h0 rfl (k _ h)
theorem G_iand {x y : Int} {f : Int → z_O} (hd : decode M.2.1 pc = .ok (.iand, 1)) (k : ∀ z, G l K M fr lo bc bs (pc + 1) lv (vI z :: st) σ (f z)) : G l K M fr lo bc bs (pc) lv (vI y :: vI x :: st) σ (z_let (z_and x y) f) := fun h => V_iand hd rfl (k _ h)
theorem G_ior {x y : Int} {f : Int → z_O} (hd : decode M.2.1 pc = .ok (.ior, 1)) (k : ∀ z, G l K M fr lo bc bs (pc + 1) lv (vI z :: st) σ (f z)) : G l K M fr lo bc bs (pc) lv (vI y :: vI x :: st) σ (z_let (z_or x y) f) := fun h => V_ior hd rfl (k _ h)
theorem G_ixor {x y : Int} {f : Int → z_O} (hd : decode M.2.1 pc = .ok (.ixor, 1)) (k : ∀ z, G l K M fr lo bc bs (pc + 1) lv (vI z :: st) σ (f z)) : G l K M fr lo bc bs (pc) lv (vI y :: vI x :: st) σ (z_let (z_xor x y) f) := fun h => V_ixor hd rfl (k _ h)
theorem G_ishl {x y : Int} {f : Int → z_O} (hd : decode M.2.1 pc = .ok (.ishl, 1)) (k : ∀ z, G l K M fr lo bc bs (pc + 1) lv (vI z :: st) σ (f z)) : G l K M fr lo bc bs (pc) lv (vI y :: vI x :: st) σ (z_let (z_shl x y) f) := fun h => V_ishl hd rfl (k _ h)
theorem G_ishr {x y : Int} {f : Int → z_O} (hd : decode M.2.1 pc = .ok (.ishr, 1)) (k : ∀ z, G l K M fr lo bc bs (pc + 1) lv (vI z :: st) σ (f z)) : G l K M fr lo bc bs (pc) lv (vI y :: vI x :: st) σ (z_let (z_shr x y) f) := fun h => V_ishr hd rfl (k _ h)
theorem G_iushr {x y : Int} {f : Int → z_O} (hd : decode M.2.1 pc = .ok (.iushr, 1)) (k : ∀ z, G l K M fr lo bc bs (pc + 1) lv (vI z :: st) σ (f z)) : G l K M fr lo bc bs (pc) lv (vI y :: vI x :: st) σ (z_let (z_ushr x y) f) := fun h => V_iushr hd rfl (k _ h)
theorem G_ladd {x y : Int} {f : Int → z_O} (hd : decode M.2.1 pc = .ok (.ladd, 1)) (k : ∀ z, G l K M fr lo bc bs (pc + 1) lv (vL z :: st) σ (f z)) : G l K M fr lo bc bs (pc) lv (vL y :: vL x :: st) σ (z_let (z_wl (x + y)) f) := fun h => V_ladd hd rfl (k _ h)
theorem G_lsub {x y : Int} {f : Int → z_O} (hd : decode M.2.1 pc = .ok (.lsub, 1)) (k : ∀ z, G l K M fr lo bc bs (pc + 1) lv (vL z :: st) σ (f z)) : G l K M fr lo bc bs (pc) lv (vL y :: vL x :: st) σ (z_let (z_wl (x - y)) f) := fun h => V_lsub hd rfl (k _ h)
theorem G_lmul {x y : Int} {f : Int → z_O} (hd : decode M.2.1 pc = .ok (.lmul, 1)) (k : ∀ z, G l K M fr lo bc bs (pc + 1) lv (vL z :: st) σ (f z)) : G l K M fr lo bc bs (pc) lv (vL y :: vL x :: st) σ (z_let (z_wl (x * y)) f) := fun h => V_lmul hd rfl (k _ h)
theorem G_land {x y : Int} {f : Int → z_O} (hd : decode M.2.1 pc = .ok (.land, 1)) (k : ∀ z, G l K M fr lo bc bs (pc + 1) lv (vL z :: st) σ (f z)) : G l K M fr lo bc bs (pc) lv (vL y :: vL x :: st) σ (z_let (z_landl x y) f) := fun h => V_land hd rfl (k _ h)
theorem G_lneg {x : Int} {f : Int → z_O} (hd : decode M.2.1 pc = .ok (.lneg, 1)) (k : ∀ z, G l K M fr lo bc bs (pc + 1) lv (vL z :: st) σ (f z)) : G l K M fr lo bc bs (pc) lv (vL x :: st) σ (z_let (z_wl (-x)) f) := fun h => V_lneg hd rfl (k _ h)
theorem G_lshl {x y : Int} {f : Int → z_O} (hd : decode M.2.1 pc = .ok (.lshl, 1)) (k : ∀ z, G l K M fr lo bc bs (pc + 1) lv (vL z :: st) σ (f z)) : G l K M fr lo bc bs (pc) lv (vI y :: vL x :: st) σ (z_let (z_lshl x y) f) := fun h => V_lshl hd rfl (k _ h)
theorem G_lshr {x y : Int} {f : Int → z_O} (hd : decode M.2.1 pc = .ok (.lshr, 1)) (k : ∀ z, G l K M fr lo bc bs (pc + 1) lv (vL z :: st) σ (f z)) : G l K M fr lo bc bs (pc) lv (vI y :: vL x :: st) σ (z_let (z_lshr x y) f) := fun h => V_lshr hd rfl (k _ h)
theorem G_i2l {x : Int} (hd : decode M.2.1 pc = .ok (.i2l, 1)) (k : G l K M fr lo bc bs (pc + 1) lv (vL x :: st) σ (E))  : G l K M fr lo bc bs (pc) lv (vI x :: st) σ (E) := fun h => V_i2l hd (k h)
theorem G_l2i {x : Int} {f : Int → z_O} (hd : decode M.2.1 pc = .ok (.l2i, 1)) (k : ∀ z, G l K M fr lo bc bs (pc + 1) lv (vI z :: st) σ (f z)) : G l K M fr lo bc bs (pc) lv (vL x :: st) σ (z_let (z_w x) f) := fun h => V_l2i hd rfl (k _ h)
theorem G_lcmp {x y : Int} {f : Int → z_O} (hd : decode M.2.1 pc = .ok (.lcmp, 1)) (k : ∀ z, G l K M fr lo bc bs (pc + 1) lv (vI z :: st) σ (f z)) : G l K M fr lo bc bs (pc) lv (vL y :: vL x :: st) σ (z_let (z_cmp x y) f) := fun h => V_lcmp hd rfl (k _ h)
theorem G_iinc {i : Nat} {d x : Int} {f : Int → z_O} {g : Int → List z_V} (hd : decode M.2.1 pc = .ok (.iinc i d, 3)) (hv : lv[i]? = some (vI x)) (hs : ∀ y, z_set lv i (vI y) = g y) (k : ∀ y, G l K M fr lo bc bs (pc + 3) (g y) (st) σ (f y)) (hi : i < M.2.2.1 := by decide) : G l K M fr lo bc bs (pc) lv (st) σ (z_let (z_w (x + d)) f) := fun h => V_iinc hd hv rfl (hs _) (k _ h) hi
theorem z_1R {k : Int} : (vR k).1 ≠ 1 := by show (2 : Nat) ≠ 1; decide
theorem z_1I {k : Int} : (vI k).1 ≠ 1 := by show (0 : Nat) ≠ 1; decide
theorem G_dupR {a : Int} (hd : decode M.2.1 pc = .ok (.dup, 1)) (k : G l K M fr lo bc bs (pc + 1) lv (vR a :: vR a :: st) σ (E))  : G l K M fr lo bc bs (pc) lv (vR a :: st) σ (E) := fun h => V_dup hd (k h) z_1R
theorem G_popR {a : Int} (hd : decode M.2.1 pc = .ok (.pop, 1)) (k : G l K M fr lo bc bs (pc + 1) lv (st) σ (E))  : G l K M fr lo bc bs (pc) lv (vR a :: st) σ (E) := fun h => V_pop hd (k h) z_1R
theorem G_dupI {a : Int} (hd : decode M.2.1 pc = .ok (.dup, 1)) (k : G l K M fr lo bc bs (pc + 1) lv (vI a :: vI a :: st) σ (E))  : G l K M fr lo bc bs (pc) lv (vI a :: st) σ (E) := fun h => V_dup hd (k h) z_1I
theorem G_popI {a : Int} (hd : decode M.2.1 pc = .ok (.pop, 1)) (k : G l K M fr lo bc bs (pc + 1) lv (st) σ (E))  : G l K M fr lo bc bs (pc) lv (vI a :: st) σ (E) := fun h => V_pop hd (k h) z_1I
theorem G_pop2 {a : Int} (hd : decode M.2.1 pc = .ok (.pop2, 1)) (k : G l K M fr lo bc bs (pc + 1) lv (st) σ (E))  : G l K M fr lo bc bs (pc) lv (vL a :: st) σ (E) := fun h => V_pop2 hd (k h)
theorem G_dup_x1 {a b : Int} (hd : decode M.2.1 pc = .ok (.dup_x1, 1)) (k : G l K M fr lo bc bs (pc + 1) lv (vI a :: vR b :: vI a :: st) σ (E))  : G l K M fr lo bc bs (pc) lv (vI a :: vR b :: st) σ (E) := fun h => V_dup_x1 hd (k h) z_1I z_1R
theorem G_dup_x2 {a b c : Int} (hd : decode M.2.1 pc = .ok (.dup_x2, 1)) (k : G l K M fr lo bc bs (pc + 1) lv (vI a :: vI b :: vR c :: vI a :: st) σ (E))  : G l K M fr lo bc bs (pc) lv (vI a :: vI b :: vR c :: st) σ (E) := fun h => V_dup_x2 hd (k h) z_1I z_1I z_1R
theorem G_dup2 {a b : Int} (hd : decode M.2.1 pc = .ok (.dup2, 1)) (k : G l K M fr lo bc bs (pc + 1) lv (vI a :: vR b :: vI a :: vR b :: st) σ (E))  : G l K M fr lo bc bs (pc) lv (vI a :: vR b :: st) σ (E) := fun h => V_dup2 hd (k h) z_1I z_1R
theorem G_icmp_eq {x y off : Int} {tgt : Nat} {A B : z_O} (hd : decode M.2.1 pc = .ok (.if_icmp .eq off, 3)) (kt : G l K M fr lo bc bs (tgt) lv (st) σ (A)) (kf : G l K M fr lo bc bs (pc + 3) lv (st) σ (B)) (ht : (pc : Int) + off = (tgt : Int) := by decide) : G l K M fr lo bc bs (pc) lv (vI y :: vI x :: st) σ (if x = y then A else B) := fun h => by
  by_cases q9 : x = y
  · rw [if_pos q9] at h ⊢
    exact V_icmp_eq hd (fun _ => kt h) (fun c => absurd q9 (by first | exact c | exact fun q => q c | exact fun q => c q | omega)) ht
  · rw [if_neg q9] at h ⊢
    exact V_icmp_eq hd (fun c => absurd c (by first | exact q9 | omega)) (fun _ => kf h) ht
theorem G_icmp_ne {x y off : Int} {tgt : Nat} {A B : z_O} (hd : decode M.2.1 pc = .ok (.if_icmp .ne off, 3)) (kt : G l K M fr lo bc bs (tgt) lv (st) σ (A)) (kf : G l K M fr lo bc bs (pc + 3) lv (st) σ (B)) (ht : (pc : Int) + off = (tgt : Int) := by decide) : G l K M fr lo bc bs (pc) lv (vI y :: vI x :: st) σ (if x ≠ y then A else B) := fun h => by
  by_cases q9 : x ≠ y
  · rw [if_pos q9] at h ⊢
    exact V_icmp_ne hd (fun _ => kt h) (fun c => absurd q9 (by first | exact c | exact fun q => q c | exact fun q => c q | omega)) ht
  · rw [if_neg q9] at h ⊢
    exact V_icmp_ne hd (fun c => absurd c (by first | exact q9 | omega)) (fun _ => kf h) ht
theorem G_icmp_lt {x y off : Int} {tgt : Nat} {A B : z_O} (hd : decode M.2.1 pc = .ok (.if_icmp .lt off, 3)) (kt : G l K M fr lo bc bs (tgt) lv (st) σ (A)) (kf : G l K M fr lo bc bs (pc + 3) lv (st) σ (B)) (ht : (pc : Int) + off = (tgt : Int) := by decide) : G l K M fr lo bc bs (pc) lv (vI y :: vI x :: st) σ (if x < y then A else B) := fun h => by
  by_cases q9 : x < y
  · rw [if_pos q9] at h ⊢
    exact V_icmp_lt hd (fun _ => kt h) (fun c => absurd q9 (by first | exact c | exact fun q => q c | exact fun q => c q | omega)) ht
  · rw [if_neg q9] at h ⊢
    exact V_icmp_lt hd (fun c => absurd c (by first | exact q9 | omega)) (fun _ => kf h) ht
theorem G_icmp_ge {x y off : Int} {tgt : Nat} {A B : z_O} (hd : decode M.2.1 pc = .ok (.if_icmp .ge off, 3)) (kt : G l K M fr lo bc bs (tgt) lv (st) σ (A)) (kf : G l K M fr lo bc bs (pc + 3) lv (st) σ (B)) (ht : (pc : Int) + off = (tgt : Int) := by decide) : G l K M fr lo bc bs (pc) lv (vI y :: vI x :: st) σ (if y ≤ x then A else B) := fun h => by
  by_cases q9 : y ≤ x
  · rw [if_pos q9] at h ⊢
    exact V_icmp_ge hd (fun _ => kt h) (fun c => absurd q9 (by first | exact c | exact fun q => q c | exact fun q => c q | omega)) ht
  · rw [if_neg q9] at h ⊢
    exact V_icmp_ge hd (fun c => absurd c (by first | exact q9 | omega)) (fun _ => kf h) ht
theorem G_icmp_gt {x y off : Int} {tgt : Nat} {A B : z_O} (hd : decode M.2.1 pc = .ok (.if_icmp .gt off, 3)) (kt : G l K M fr lo bc bs (tgt) lv (st) σ (A)) (kf : G l K M fr lo bc bs (pc + 3) lv (st) σ (B)) (ht : (pc : Int) + off = (tgt : Int) := by decide) : G l K M fr lo bc bs (pc) lv (vI y :: vI x :: st) σ (if y < x then A else B) := fun h => by
  by_cases q9 : y < x
  · rw [if_pos q9] at h ⊢
    exact V_icmp_gt hd (fun _ => kt h) (fun c => absurd q9 (by first | exact c | exact fun q => q c | exact fun q => c q | omega)) ht
  · rw [if_neg q9] at h ⊢
    exact V_icmp_gt hd (fun c => absurd c (by first | exact q9 | omega)) (fun _ => kf h) ht
theorem G_icmp_le {x y off : Int} {tgt : Nat} {A B : z_O} (hd : decode M.2.1 pc = .ok (.if_icmp .le off, 3)) (kt : G l K M fr lo bc bs (tgt) lv (st) σ (A)) (kf : G l K M fr lo bc bs (pc + 3) lv (st) σ (B)) (ht : (pc : Int) + off = (tgt : Int) := by decide) : G l K M fr lo bc bs (pc) lv (vI y :: vI x :: st) σ (if x ≤ y then A else B) := fun h => by
  by_cases q9 : x ≤ y
  · rw [if_pos q9] at h ⊢
    exact V_icmp_le hd (fun _ => kt h) (fun c => absurd q9 (by first | exact c | exact fun q => q c | exact fun q => c q | omega)) ht
  · rw [if_neg q9] at h ⊢
    exact V_icmp_le hd (fun c => absurd c (by first | exact q9 | omega)) (fun _ => kf h) ht
theorem G_if_eq {x off : Int} {tgt : Nat} {A B : z_O} (hd : decode M.2.1 pc = .ok (.ifCond .eq off, 3)) (kt : G l K M fr lo bc bs (tgt) lv (st) σ (A)) (kf : G l K M fr lo bc bs (pc + 3) lv (st) σ (B)) (ht : (pc : Int) + off = (tgt : Int) := by decide) : G l K M fr lo bc bs (pc) lv (vI x :: st) σ (if x = 0 then A else B) := fun h => by
  by_cases q9 : x = 0
  · rw [if_pos q9] at h ⊢
    exact V_if_eq hd (fun _ => kt h) (fun c => absurd q9 (by first | exact c | exact fun q => q c | exact fun q => c q | omega)) ht
  · rw [if_neg q9] at h ⊢
    exact V_if_eq hd (fun c => absurd c (by first | exact q9 | omega)) (fun _ => kf h) ht
theorem G_if_ne {x off : Int} {tgt : Nat} {A B : z_O} (hd : decode M.2.1 pc = .ok (.ifCond .ne off, 3)) (kt : G l K M fr lo bc bs (tgt) lv (st) σ (A)) (kf : G l K M fr lo bc bs (pc + 3) lv (st) σ (B)) (ht : (pc : Int) + off = (tgt : Int) := by decide) : G l K M fr lo bc bs (pc) lv (vI x :: st) σ (if x ≠ 0 then A else B) := fun h => by
  by_cases q9 : x ≠ 0
  · rw [if_pos q9] at h ⊢
    exact V_if_ne hd (fun _ => kt h) (fun c => absurd q9 (by first | exact c | exact fun q => q c | exact fun q => c q | omega)) ht
  · rw [if_neg q9] at h ⊢
    exact V_if_ne hd (fun c => absurd c (by first | exact q9 | omega)) (fun _ => kf h) ht
theorem G_if_lt {x off : Int} {tgt : Nat} {A B : z_O} (hd : decode M.2.1 pc = .ok (.ifCond .lt off, 3)) (kt : G l K M fr lo bc bs (tgt) lv (st) σ (A)) (kf : G l K M fr lo bc bs (pc + 3) lv (st) σ (B)) (ht : (pc : Int) + off = (tgt : Int) := by decide) : G l K M fr lo bc bs (pc) lv (vI x :: st) σ (if x < 0 then A else B) := fun h => by
  by_cases q9 : x < 0
  · rw [if_pos q9] at h ⊢
    exact V_if_lt hd (fun _ => kt h) (fun c => absurd q9 (by first | exact c | exact fun q => q c | exact fun q => c q | omega)) ht
  · rw [if_neg q9] at h ⊢
    exact V_if_lt hd (fun c => absurd c (by first | exact q9 | omega)) (fun _ => kf h) ht
theorem G_if_ge {x off : Int} {tgt : Nat} {A B : z_O} (hd : decode M.2.1 pc = .ok (.ifCond .ge off, 3)) (kt : G l K M fr lo bc bs (tgt) lv (st) σ (A)) (kf : G l K M fr lo bc bs (pc + 3) lv (st) σ (B)) (ht : (pc : Int) + off = (tgt : Int) := by decide) : G l K M fr lo bc bs (pc) lv (vI x :: st) σ (if 0 ≤ x then A else B) := fun h => by
  by_cases q9 : 0 ≤ x
  · rw [if_pos q9] at h ⊢
    exact V_if_ge hd (fun _ => kt h) (fun c => absurd q9 (by first | exact c | exact fun q => q c | exact fun q => c q | omega)) ht
  · rw [if_neg q9] at h ⊢
    exact V_if_ge hd (fun c => absurd c (by first | exact q9 | omega)) (fun _ => kf h) ht
theorem G_if_gt {x off : Int} {tgt : Nat} {A B : z_O} (hd : decode M.2.1 pc = .ok (.ifCond .gt off, 3)) (kt : G l K M fr lo bc bs (tgt) lv (st) σ (A)) (kf : G l K M fr lo bc bs (pc + 3) lv (st) σ (B)) (ht : (pc : Int) + off = (tgt : Int) := by decide) : G l K M fr lo bc bs (pc) lv (vI x :: st) σ (if 0 < x then A else B) := fun h => by
  by_cases q9 : 0 < x
  · rw [if_pos q9] at h ⊢
    exact V_if_gt hd (fun _ => kt h) (fun c => absurd q9 (by first | exact c | exact fun q => q c | exact fun q => c q | omega)) ht
  · rw [if_neg q9] at h ⊢
    exact V_if_gt hd (fun c => absurd c (by first | exact q9 | omega)) (fun _ => kf h) ht
theorem G_if_le {x off : Int} {tgt : Nat} {A B : z_O} (hd : decode M.2.1 pc = .ok (.ifCond .le off, 3)) (kt : G l K M fr lo bc bs (tgt) lv (st) σ (A)) (kf : G l K M fr lo bc bs (pc + 3) lv (st) σ (B)) (ht : (pc : Int) + off = (tgt : Int) := by decide) : G l K M fr lo bc bs (pc) lv (vI x :: st) σ (if x ≤ 0 then A else B) := fun h => by
  by_cases q9 : x ≤ 0
  · rw [if_pos q9] at h ⊢
    exact V_if_le hd (fun _ => kt h) (fun c => absurd q9 (by first | exact c | exact fun q => q c | exact fun q => c q | omega)) ht
  · rw [if_neg q9] at h ⊢
    exact V_if_le hd (fun c => absurd c (by first | exact q9 | omega)) (fun _ => kf h) ht
theorem G_goto {off : Int} {tgt : Nat} (hd : decode M.2.1 pc = .ok (.goto off, 3)) (k : G l K M fr lo bc bs (tgt) lv (st) σ (E)) (ht : (pc : Int) + off = (tgt : Int) := by decide) : G l K M fr lo bc bs (pc) lv (st) σ (E) := fun h => V_goto hd (k h) ht
theorem G_ifnull {off x : Int} (hd : decode M.2.1 pc = .ok (.ifnull off, 3)) (k : G l K M fr lo bc bs (pc + 3) lv (st) σ (E)) : G l K M fr lo bc bs (pc) lv (vR x :: st) σ (if 1 ≤ x then E else none) := G_chk fun h0 h => V_ifnull hd h0 (k h)
theorem G_tableIn {dflt lo1 hi x off : Int} {offs : Array Int} {len tgt : Nat} (hd : decode M.2.1 pc = .ok (.tableswitch dflt lo1 hi offs, len)) (h5 : lo1 ≤ x ∧ x ≤ hi) (ho : offs[(x - lo1).toNat]? = some off) (ht : (pc : Int) + off = (tgt : Int)) (k : G l K M fr lo bc bs (tgt) lv (st) σ (E)) : G l K M fr lo bc bs (pc) lv (vI x :: st) σ (E) := fun h => V_tableIn hd h5 ho ht (k h)
theorem G_tableOut {dflt lo1 hi x : Int} {offs : Array Int} {len tgt : Nat} (hd : decode M.2.1 pc = .ok (.tableswitch dflt lo1 hi offs, len)) (h5 : x < lo1 ∨ hi < x) (k : G l K M fr lo bc bs (tgt) lv (st) σ (E)) (ht : (pc : Int) + dflt = (tgt : Int) := by decide) : G l K M fr lo bc bs (pc) lv (vI x :: st) σ (E) := fun h => V_tableOut hd h5 (k h) ht
theorem z_le_NC {k : Int} (h : k ≤ 7658) : k ≤ ((z_NC : Nat) : Int) := h
theorem G_getI {c j idx N : Nat} {C : String} {T : u_T} {ty : Nat → FieldType} {jz : Int} {k : Int} {f : Int → z_O} (hd : decode M.2.1 pc = .ok (.getfield idx, 3)) (hjz : ((j : Nat) : Int) = jz) (hc : z_CL c C T N ty) (hj : j < N) (hw : Cond.fieldLink M.1.cls idx (T j).1 (T j).2.1 (T j).2.2.1 ∈ z_tbl) (h7 : z_ft c j ≠ 2) (kk : ∀ x, G l K M fr lo bc bs (pc + 3) lv (vI x :: st) σ (f x)) : G l K M fr lo bc bs (pc) lv (vR k :: st) σ (if z_ob k c then z_let (σ k jz) f else none) := by
  subst hjz
  exact G_chk fun q h => V_getI hd hc hj hw h7 q.1 (z_le_NC q.2.1) q.2.2 rfl (fun _ => kk _ h)
theorem G_getR {c j idx N : Nat} {C : String} {T : u_T} {ty : Nat → FieldType} {jz : Int} {k : Int} {f : Int → z_O} (hd : decode M.2.1 pc = .ok (.getfield idx, 3)) (hjz : ((j : Nat) : Int) = jz) (hc : z_CL c C T N ty) (hj : j < N) (hw : Cond.fieldLink M.1.cls idx (T j).1 (T j).2.1 (T j).2.2.1 ∈ z_tbl) (h7 : z_ft c j = 2) (kk : ∀ x, G l K M fr lo bc bs (pc + 3) lv (vR x :: st) σ (f x)) : G l K M fr lo bc bs (pc) lv (vR k :: st) σ (if z_ob k c then z_let (z_gr k jz) f else none) := by
  subst hjz
  exact G_chk fun q h => V_getR hd hc hj hw h7 q.1 (z_le_NC q.2.1) q.2.2 rfl (kk _ h)
theorem G_putI {c j idx N : Nat} {C : String} {T : u_T} {ty : Nat → FieldType} {jz : Int} {k x : Int} {f : z_M → z_O} (hd : decode M.2.1 pc = .ok (.putfield idx, 3)) (hjz : ((j : Nat) : Int) = jz) (hc : z_CL c C T N ty) (hj : j < N) (hw : Cond.fieldLink M.1.cls idx (T j).1 (T j).2.1 (T j).2.2.1 ∈ z_tbl) (hfin : (T j).2.2.2 = false) (h7 : z_ft c j ≠ 2) (h3 : z_ft c j ≠ 3) (kk : ∀ s, G l K M fr lo bc bs (pc + 3) lv (st) s (f s)) : G l K M fr lo bc bs (pc) lv (vI x :: vR k :: st) σ (if z_ob k c then z_let (z_up σ k jz x) f else none) := by
  subst hjz
  exact G_chk fun q h => V_putI hd hc hj hw hfin h7 q.1 (z_le_NC q.2.1) q.2.2 (fun e => absurd e h3) (kk _ h)
theorem G_putZ {c j idx N : Nat} {C : String} {T : u_T} {ty : Nat → FieldType} {jz : Int} {k x : Int} {f : z_M → z_O} (hd : decode M.2.1 pc = .ok (.putfield idx, 3)) (hjz : ((j : Nat) : Int) = jz) (hc : z_CL c C T N ty) (hj : j < N) (hw : Cond.fieldLink M.1.cls idx (T j).1 (T j).2.1 (T j).2.2.1 ∈ z_tbl) (hfin : (T j).2.2.2 = false) (h7 : z_ft c j ≠ 2) (kk : ∀ s, G l K M fr lo bc bs (pc + 3) lv (st) s (f s)) : G l K M fr lo bc bs (pc) lv (vI x :: vR k :: st) σ (if z_ob k c ∧ z_bl x then z_let (z_up σ k jz x) f else none) := by
  subst hjz
  exact G_chk fun q h => V_putI hd hc hj hw hfin h7 q.1.1 (z_le_NC q.1.2.1) q.1.2.2 (fun _ => q.2) (kk _ h)
theorem G_iald {k i : Int} {f : Int → z_O} (hd : decode M.2.1 pc = .ok (.iaload, 1)) (kk : ∀ x, G l K M fr lo bc bs (pc + 1) lv (vI x :: st) σ (f x)) : G l K M fr lo bc bs (pc) lv (vI i :: vR k :: st) σ (if z_ix k 100 i then z_let (σ k i) f else none) := G_chk fun q h => V_iald hd q.1.1 (z_le_NC q.1.2.1) q.1.2.2 q.2.1 q.2.2 rfl (fun _ => kk _ h)
theorem G_zald {k i : Int} {f : Int → z_O} (hd : decode M.2.1 pc = .ok (.baload, 1)) (kk : ∀ x, G l K M fr lo bc bs (pc + 1) lv (vI x :: st) σ (f x)) : G l K M fr lo bc bs (pc) lv (vI i :: vR k :: st) σ (if z_ix k 102 i then z_let (σ k i) f else none) := G_chk fun q h => V_zald hd q.1.1 (z_le_NC q.1.2.1) q.1.2.2 q.2.1 q.2.2 rfl (fun _ => kk _ h)
theorem G_lald {k i : Int} {f : Int → z_O} (hd : decode M.2.1 pc = .ok (.laload, 1)) (kk : ∀ x, G l K M fr lo bc bs (pc + 1) lv (vL x :: st) σ (f x)) : G l K M fr lo bc bs (pc) lv (vI i :: vR k :: st) σ (if z_ix k 101 i then z_let (σ k i) f else none) := G_chk fun q h => V_lald hd q.1.1 (z_le_NC q.1.2.1) q.1.2.2 q.2.1 q.2.2 rfl (fun _ => kk _ h)
theorem G_aald103 {k i : Int} {f : Int → z_O} (hd : decode M.2.1 pc = .ok (.aaload, 1)) (kk : ∀ x, G l K M fr lo bc bs (pc + 1) lv (vR x :: st) σ (f x)) : G l K M fr lo bc bs (pc) lv (vI i :: vR k :: st) σ (if z_ix k 103 i then z_let (z_gr k i) f else none) := G_chk fun q h => V_aald (c := 103) (t0 := 3) hd q.1.1 (z_le_NC q.1.2.1) q.1.2.2 q.2.1 q.2.2 rfl (kk _ h) (by decide) rfl rfl
theorem G_aald104 {k i : Int} {f : Int → z_O} (hd : decode M.2.1 pc = .ok (.aaload, 1)) (kk : ∀ x, G l K M fr lo bc bs (pc + 1) lv (vR x :: st) σ (f x)) : G l K M fr lo bc bs (pc) lv (vI i :: vR k :: st) σ (if z_ix k 104 i then z_let (z_gr k i) f else none) := G_chk fun q h => V_aald (c := 104) (t0 := 4) hd q.1.1 (z_le_NC q.1.2.1) q.1.2.2 q.2.1 q.2.2 rfl (kk _ h) (by decide) rfl rfl
theorem G_aald105 {k i : Int} {f : Int → z_O} (hd : decode M.2.1 pc = .ok (.aaload, 1)) (kk : ∀ x, G l K M fr lo bc bs (pc + 1) lv (vR x :: st) σ (f x)) : G l K M fr lo bc bs (pc) lv (vI i :: vR k :: st) σ (if z_ix k 105 i then z_let (z_gr k i) f else none) := G_chk fun q h => V_aald (c := 105) (t0 := 5) hd q.1.1 (z_le_NC q.1.2.1) q.1.2.2 q.2.1 q.2.2 rfl (kk _ h) (by decide) rfl rfl
theorem G_alen100 {k : Int} {f : Int → z_O} (hd : decode M.2.1 pc = .ok (.arraylength, 1)) (kk : ∀ x, G l K M fr lo bc bs (pc + 1) lv (vI x :: st) σ (f x)) : G l K M fr lo bc bs (pc) lv (vR k :: st) σ (if z_ob k 100 ∧ z_I ((z_sh k).2 : Nat) then z_let (((z_sh k).2 : Nat) : Int) f else none) := G_chk fun q h => V_alen (c := 100) (t0 := 0) hd q.1.1 (z_le_NC q.1.2.1) q.1.2.2 rfl (kk _ h) (by decide) rfl q.2
theorem G_alen101 {k : Int} {f : Int → z_O} (hd : decode M.2.1 pc = .ok (.arraylength, 1)) (kk : ∀ x, G l K M fr lo bc bs (pc + 1) lv (vI x :: st) σ (f x)) : G l K M fr lo bc bs (pc) lv (vR k :: st) σ (if z_ob k 101 ∧ z_I ((z_sh k).2 : Nat) then z_let (((z_sh k).2 : Nat) : Int) f else none) := G_chk fun q h => V_alen (c := 101) (t0 := 1) hd q.1.1 (z_le_NC q.1.2.1) q.1.2.2 rfl (kk _ h) (by decide) rfl q.2
theorem G_alen104 {k : Int} {f : Int → z_O} (hd : decode M.2.1 pc = .ok (.arraylength, 1)) (kk : ∀ x, G l K M fr lo bc bs (pc + 1) lv (vI x :: st) σ (f x)) : G l K M fr lo bc bs (pc) lv (vR k :: st) σ (if z_ob k 104 ∧ z_I ((z_sh k).2 : Nat) then z_let (((z_sh k).2 : Nat) : Int) f else none) := G_chk fun q h => V_alen (c := 104) (t0 := 4) hd q.1.1 (z_le_NC q.1.2.1) q.1.2.2 rfl (kk _ h) (by decide) rfl q.2
theorem G_iast {k i x : Int} {f : z_M → z_O} (hd : decode M.2.1 pc = .ok (.iastore, 1)) (kk : ∀ s, G l K M fr lo bc bs (pc + 1) lv (st) s (f s)) : G l K M fr lo bc bs (pc) lv (vI x :: vI i :: vR k :: st) σ (if z_ix k 100 i then z_let (z_up σ k i x) f else none) := G_chk fun q h => V_iast hd q.1.1 (z_le_NC q.1.2.1) q.1.2.2 q.2.1 q.2.2 (kk _ h)
theorem G_zast {k i x : Int} {f : z_M → z_O} (hd : decode M.2.1 pc = .ok (.bastore, 1)) (kk : ∀ s, G l K M fr lo bc bs (pc + 1) lv (st) s (f s)) : G l K M fr lo bc bs (pc) lv (vI x :: vI i :: vR k :: st) σ (if z_ix k 102 i ∧ z_bl x then z_let (z_up σ k i x) f else none) := G_chk fun q h => V_zast hd q.1.1.1 (z_le_NC q.1.1.2.1) q.1.1.2.2 q.1.2.1 q.1.2.2 q.2 (kk _ h)
theorem G_last {k i x : Int} {f : z_M → z_O} (hd : decode M.2.1 pc = .ok (.lastore, 1)) (kk : ∀ s, G l K M fr lo bc bs (pc + 1) lv (st) s (f s)) : G l K M fr lo bc bs (pc) lv (vL x :: vI i :: vR k :: st) σ (if z_ix k 101 i then z_let (z_up σ k i x) f else none) := G_chk fun q h => V_last hd q.1.1 (z_le_NC q.1.2.1) q.1.2.2 q.2.1 q.2.2 (kk _ h)
theorem G_gets {idx i : Nat} (hd : decode M.2.1 pc = .ok (.getstatic idx, 3)) (hw : Cond.fieldLink M.1.cls idx RX11 (z_tn i) "[I" ∈ z_tbl) (k : G l K M fr lo bc bs (pc + 3) lv (vT i :: st) σ (E)) (hi : i < 3 := by decide) : G l K M fr lo bc bs (pc) lv (st) σ (E) := fun h => V_gets hd hi hw (k h)
theorem G_tald {i : Nat} {j : Int} {f : Int → z_O} (hd : decode M.2.1 pc = .ok (.iaload, 1)) (kk : ∀ x, G l K M fr lo bc bs (pc + 1) lv (vI x :: st) σ (f x)) : G l K M fr lo bc bs (pc) lv (vI j :: vT i :: st) σ (if i < 3 ∧ 0 ≤ j ∧ j < 9 then z_let (z_tb i j.toNat) f else none) := G_chk fun q h => V_tald hd q.1 q.2.1 q.2.2 rfl (z_tbI _ _) (kk _ h)
theorem G_tlen {i : Nat} (hd : decode M.2.1 pc = .ok (.arraylength, 1)) (kk : G l K M fr lo bc bs (pc + 1) lv (vI 9 :: st) σ (E)) : G l K M fr lo bc bs (pc) lv (vT i :: st) σ (if i < 3 then E else none) := G_chk fun q h => V_tlen hd q (kk h)
theorem G_sald {j : Int} {f : Int → z_O} (hd : decode M.2.1 pc = .ok (.iaload, 1)) (kk : ∀ x, G l K M fr lo bc bs (pc + 1) lv (vI x :: st) σ (f x)) : G l K M fr lo bc bs (pc) lv (vI j :: vA K.2.2.2.2.2.1 :: st) σ (if 0 ≤ j ∧ j < (K.2.2.2.2.2.2.1 : Nat) then z_let (K.2.2.2.2.2.2.2 j.toNat).toInt f else none) := G_chk fun q h => V_sald hd q.1 q.2 (kk _ h)
theorem G_slen (hd : decode M.2.1 pc = .ok (.arraylength, 1)) (kk : G l K M fr lo bc bs (pc + 1) lv (vI (K.2.2.2.2.2.2.1 : Nat) :: st) σ (E)) : G l K M fr lo bc bs (pc) lv (vA K.2.2.2.2.2.1 :: st) σ (E) := fun h => V_slen hd (kk h)
theorem G_iret {x : Int} (hd : decode M.2.1 pc = .ok (.ireturn, 1)) (hr : M.2.2.2.1 = some .int := by rfl) : G l K M fr lo bc bs (pc) lv ([vI x]) σ (some (vI x, σ)) := fun _ => V_iret hd (fun _ => ⟨rfl, rfl, rfl⟩) hr
theorem G_zret {x : Int} (hd : decode M.2.1 pc = .ok (.ireturn, 1)) (hr : M.2.2.2.1 = some .boolean := by rfl) : G l K M fr lo bc bs (pc) lv ([vI x]) σ (if z_bl x then some (vI x, σ) else none) := G_chk fun q _ => V_zret hd q ⟨rfl, rfl, rfl⟩ hr
theorem G_lret {x : Int} (hd : decode M.2.1 pc = .ok (.lreturn, 1)) (hr : M.2.2.2.1 = some .long := by rfl) : G l K M fr lo bc bs (pc) lv ([vL x]) σ (some (vL x, σ)) := fun _ => V_lret hd (fun _ => ⟨rfl, rfl, rfl⟩) hr
theorem G_vret (hd : decode M.2.1 pc = .ok (.return_, 1)) (hr : M.2.2.2.1 = none := by rfl) : G l K M fr lo bc bs (pc) lv ([]) σ (some (vN, σ)) := fun _ => V_vret hd ⟨rfl, rfl, rfl⟩ hr
theorem G_aret {x : Int} {nm : String} (hd : decode M.2.1 pc = .ok (.areturn, 1)) (hr : M.2.2.2.1 = some (.object nm) := by rfl) : G l K M fr lo bc bs (pc) lv ([vR x]) σ (some (vR x, σ)) := fun _ => V_aret hd ⟨rfl, rfl, rfl⟩ hr
theorem G_throw {ik ic : Nat} {x : Int} (hT : z_TOK M.1.cls ik ic x) (d0 : decode M.2.1 pc = .ok (.new ik, 3)) (d3 : decode M.2.1 (pc + 3) = .ok (.dup, 1)) (d4 : decode M.2.1 (pc + 4) = .ok (.invokespecial ic, 3)) (d7 : decode M.2.1 (pc + 7) = .ok (.athrow, 1)) (hx : x = 0 ∨ x = 1 := by decide) (hh : M.2.2.2.2 = [] := by rfl) (hf : 6 ≤ fr := by decide) (hlo : 81 ≤ lo := by decide) (hb : 1 ≤ bc ∧ 6 ≤ bs := by decide) : G l K M fr lo bc bs (pc) lv ([]) σ (some (vX x, σ)) := fun _ => V_throw hT d0 d3 d4 d7 hx hh rfl hf (by show 0 + 81 ≤ lo; omega) hb ⟨rfl, rfl, rfl⟩
theorem G_mmax {idx : Nat} {x y : Int} {f : Int → z_O} (hd : decode M.2.1 pc = .ok (.invokestatic idx, 3)) (hw : Cond.methodLink M.1.cls idx Lib.Math.max.name ∈ z_tbl) (kk : ∀ z, G l K M fr lo bc bs (pc + 3) lv (vI z :: st) σ (f z)) (hlo : z_wt st + 13 ≤ lo) (hf : 1 ≤ fr := by decide) : G l K M fr lo bc bs (pc) lv (vI y :: vI x :: st) σ (z_let (z_max x y) f) := fun h => V_mmax hd hw z_max1 z_math2 z_max3 hf hlo rfl (kk _ h)
theorem G_mmin {idx : Nat} {x y : Int} {f : Int → z_O} (hd : decode M.2.1 pc = .ok (.invokestatic idx, 3)) (hw : Cond.methodLink M.1.cls idx Lib.Math.min.name ∈ z_tbl) (kk : ∀ z, G l K M fr lo bc bs (pc + 3) lv (vI z :: st) σ (f z)) (hlo : z_wt st + 13 ≤ lo) (hf : 1 ≤ fr := by decide) : G l K M fr lo bc bs (pc) lv (vI y :: vI x :: st) σ (z_let (z_min x y) f) := fun h => V_mmin hd hw z_min1 z_math2 z_min3 hf hlo rfl (kk _ h)
theorem z_krI {bc2 bs2 : Nat} {r : z_O} {f : Int → z_M → z_O} (h : z_bI r f ≠ none) (kk : ∀ x s, G l K M fr lo bc2 bs2 (pc + 3) lv (vI x :: st) s (f x s)) : ∀ (v : z_V) (n' : Nat) (τ' σ' : z_M), v.1 < 6 → z_g v → z_QE r v n' τ' σ' → V l K M fr lo bc2 bs2 (pc + 3) lv (z_push v st) n' τ' σ' (z_QE (z_bI r f)) := by
  intro v n' τ' σ' hv _ hq
  obtain ⟨rfl, rfl, e⟩ := hq
  obtain ⟨t, x⟩ := v
  subst e
  match t, hv with
  | 0, _ => exact kk _ _ h
  | 1, _ => exact absurd rfl h
  | 2, _ => exact absurd rfl h
  | 3, _ => exact absurd rfl h
  | 4, _ => exact absurd rfl h
  | 5, _ => exact absurd rfl h
theorem z_kxI {bc2 bs2 : Nat} {r : z_O} {f : Int → z_M → z_O} (hh : M.2.2.2.2 = []) : ∀ (x : Int) (n' : Nat) (τ' σ' : z_M), z_QE r (vX x) n' τ' σ' → VX l K M fr lo bc2 bs2 pc lv st n' τ' σ' x (z_QE (z_bI r f)) := by
  intro x n' τ' σ' hq
  obtain ⟨rfl, rfl, e⟩ := hq
  subst e
  exact VX_out hh ⟨rfl, rfl, rfl⟩
theorem z_neI {r : z_O} {f : Int → z_M → z_O} (h : z_bI r f ≠ none) : r ≠ none := by
  intro e
  subst e
  exact h rfl
theorem G_callVI {idx na c fr2 lo2 mc ms bc2 bs2 : Nat} {M2 : z_Me} {as S : List z_V} {k : Int} {r : z_O} {f : Int → z_M → z_O} {r9 : vw_C} (hd : decode M.2.1 pc = .ok (.invokevirtual idx, 3)) (hM : z_MOK M2) (hV : z_VOK M2 na) (hw : Cond.methodLink M.1.cls idx M2.1 ∈ z_tbl) (hC : z_D l K M2 fr2 lo2 mc ms (vR k :: as) σ r) (hS : as.reverse ++ vR k :: st = S)
    (hn : as.length = na) (hc : c < 100) (hcl : vwCl[c]? = some r9) (hcn : r9.1 = M2.1.cls) (hrm : z_rm fr lo bc bs fr2 M2.2.2.1 lo2 mc ms bc2 bs2 st) (hh : M.2.2.2.2 = [])
    (kk : ∀ x s, G l K M fr lo bc2 bs2 (pc + 3) lv (vI x :: st) s (f x s)) : G l K M fr lo bc bs (pc) lv (S) σ (if z_ob k c then z_bI r f else none) := by
  subst hS
  exact G_chk fun q h => V_callV hd hM hV hw (hC (z_neI h)) hn q.1 (z_le_NC q.2.1) q.2.2 hc hcl hcn hrm (z_krI h kk) (z_kxI hh)
theorem G_callSI {idx na fr2 lo2 mc ms bc2 bs2 : Nat} {M2 : z_Me} {as S : List z_V} {r : z_O} {f : Int → z_M → z_O} (hd : decode M.2.1 pc = .ok (.invokestatic idx, 3)) (hM : z_MOK M2) (hV : z_SOK M2 na) (hw : Cond.methodLink M.1.cls idx M2.1 ∈ z_tbl) (hC : z_D l K M2 fr2 lo2 mc ms as σ r) (hS : as.reverse ++ st = S)
    (hn : as.length = na) (hrm : z_rm fr lo bc bs fr2 M2.2.2.1 lo2 mc ms bc2 bs2 st) (hh : M.2.2.2.2 = [])
    (kk : ∀ x s, G l K M fr lo bc2 bs2 (pc + 3) lv (vI x :: st) s (f x s)) : G l K M fr lo bc bs (pc) lv (S) σ (z_bI r f) := by
  subst hS
  exact fun h => V_callS hd hM hV hw (hC (z_neI h)) hn hrm (z_krI h kk) (z_kxI hh)
theorem z_krL {bc2 bs2 : Nat} {r : z_O} {f : Int → z_M → z_O} (h : z_bL r f ≠ none) (kk : ∀ x s, G l K M fr lo bc2 bs2 (pc + 3) lv (vL x :: st) s (f x s)) : ∀ (v : z_V) (n' : Nat) (τ' σ' : z_M), v.1 < 6 → z_g v → z_QE r v n' τ' σ' → V l K M fr lo bc2 bs2 (pc + 3) lv (z_push v st) n' τ' σ' (z_QE (z_bL r f)) := by
  intro v n' τ' σ' hv _ hq
  obtain ⟨rfl, rfl, e⟩ := hq
  obtain ⟨t, x⟩ := v
  subst e
  match t, hv with
  | 0, _ => exact absurd rfl h
  | 1, _ => exact kk _ _ h
  | 2, _ => exact absurd rfl h
  | 3, _ => exact absurd rfl h
  | 4, _ => exact absurd rfl h
  | 5, _ => exact absurd rfl h
theorem z_kxL {bc2 bs2 : Nat} {r : z_O} {f : Int → z_M → z_O} (hh : M.2.2.2.2 = []) : ∀ (x : Int) (n' : Nat) (τ' σ' : z_M), z_QE r (vX x) n' τ' σ' → VX l K M fr lo bc2 bs2 pc lv st n' τ' σ' x (z_QE (z_bL r f)) := by
  intro x n' τ' σ' hq
  obtain ⟨rfl, rfl, e⟩ := hq
  subst e
  exact VX_out hh ⟨rfl, rfl, rfl⟩
theorem z_neL {r : z_O} {f : Int → z_M → z_O} (h : z_bL r f ≠ none) : r ≠ none := by
  intro e
  subst e
  exact h rfl
theorem G_callVL {idx na c fr2 lo2 mc ms bc2 bs2 : Nat} {M2 : z_Me} {as S : List z_V} {k : Int} {r : z_O} {f : Int → z_M → z_O} {r9 : vw_C} (hd : decode M.2.1 pc = .ok (.invokevirtual idx, 3)) (hM : z_MOK M2) (hV : z_VOK M2 na) (hw : Cond.methodLink M.1.cls idx M2.1 ∈ z_tbl) (hC : z_D l K M2 fr2 lo2 mc ms (vR k :: as) σ r) (hS : as.reverse ++ vR k :: st = S)
    (hn : as.length = na) (hc : c < 100) (hcl : vwCl[c]? = some r9) (hcn : r9.1 = M2.1.cls) (hrm : z_rm fr lo bc bs fr2 M2.2.2.1 lo2 mc ms bc2 bs2 st) (hh : M.2.2.2.2 = [])
    (kk : ∀ x s, G l K M fr lo bc2 bs2 (pc + 3) lv (vL x :: st) s (f x s)) : G l K M fr lo bc bs (pc) lv (S) σ (if z_ob k c then z_bL r f else none) := by
  subst hS
  exact G_chk fun q h => V_callV hd hM hV hw (hC (z_neL h)) hn q.1 (z_le_NC q.2.1) q.2.2 hc hcl hcn hrm (z_krL h kk) (z_kxL hh)
theorem G_callSL {idx na fr2 lo2 mc ms bc2 bs2 : Nat} {M2 : z_Me} {as S : List z_V} {r : z_O} {f : Int → z_M → z_O} (hd : decode M.2.1 pc = .ok (.invokestatic idx, 3)) (hM : z_MOK M2) (hV : z_SOK M2 na) (hw : Cond.methodLink M.1.cls idx M2.1 ∈ z_tbl) (hC : z_D l K M2 fr2 lo2 mc ms as σ r) (hS : as.reverse ++ st = S)
    (hn : as.length = na) (hrm : z_rm fr lo bc bs fr2 M2.2.2.1 lo2 mc ms bc2 bs2 st) (hh : M.2.2.2.2 = [])
    (kk : ∀ x s, G l K M fr lo bc2 bs2 (pc + 3) lv (vL x :: st) s (f x s)) : G l K M fr lo bc bs (pc) lv (S) σ (z_bL r f) := by
  subst hS
  exact fun h => V_callS hd hM hV hw (hC (z_neL h)) hn hrm (z_krL h kk) (z_kxL hh)
theorem z_krR {bc2 bs2 : Nat} {r : z_O} {f : Int → z_M → z_O} (h : z_bR r f ≠ none) (kk : ∀ x s, G l K M fr lo bc2 bs2 (pc + 3) lv (vR x :: st) s (f x s)) : ∀ (v : z_V) (n' : Nat) (τ' σ' : z_M), v.1 < 6 → z_g v → z_QE r v n' τ' σ' → V l K M fr lo bc2 bs2 (pc + 3) lv (z_push v st) n' τ' σ' (z_QE (z_bR r f)) := by
  intro v n' τ' σ' hv _ hq
  obtain ⟨rfl, rfl, e⟩ := hq
  obtain ⟨t, x⟩ := v
  subst e
  match t, hv with
  | 0, _ => exact absurd rfl h
  | 1, _ => exact absurd rfl h
  | 2, _ => exact kk _ _ h
  | 3, _ => exact absurd rfl h
  | 4, _ => exact absurd rfl h
  | 5, _ => exact absurd rfl h
theorem z_kxR {bc2 bs2 : Nat} {r : z_O} {f : Int → z_M → z_O} (hh : M.2.2.2.2 = []) : ∀ (x : Int) (n' : Nat) (τ' σ' : z_M), z_QE r (vX x) n' τ' σ' → VX l K M fr lo bc2 bs2 pc lv st n' τ' σ' x (z_QE (z_bR r f)) := by
  intro x n' τ' σ' hq
  obtain ⟨rfl, rfl, e⟩ := hq
  subst e
  exact VX_out hh ⟨rfl, rfl, rfl⟩
theorem z_neR {r : z_O} {f : Int → z_M → z_O} (h : z_bR r f ≠ none) : r ≠ none := by
  intro e
  subst e
  exact h rfl
theorem G_callVR {idx na c fr2 lo2 mc ms bc2 bs2 : Nat} {M2 : z_Me} {as S : List z_V} {k : Int} {r : z_O} {f : Int → z_M → z_O} {r9 : vw_C} (hd : decode M.2.1 pc = .ok (.invokevirtual idx, 3)) (hM : z_MOK M2) (hV : z_VOK M2 na) (hw : Cond.methodLink M.1.cls idx M2.1 ∈ z_tbl) (hC : z_D l K M2 fr2 lo2 mc ms (vR k :: as) σ r) (hS : as.reverse ++ vR k :: st = S)
    (hn : as.length = na) (hc : c < 100) (hcl : vwCl[c]? = some r9) (hcn : r9.1 = M2.1.cls) (hrm : z_rm fr lo bc bs fr2 M2.2.2.1 lo2 mc ms bc2 bs2 st) (hh : M.2.2.2.2 = [])
    (kk : ∀ x s, G l K M fr lo bc2 bs2 (pc + 3) lv (vR x :: st) s (f x s)) : G l K M fr lo bc bs (pc) lv (S) σ (if z_ob k c then z_bR r f else none) := by
  subst hS
  exact G_chk fun q h => V_callV hd hM hV hw (hC (z_neR h)) hn q.1 (z_le_NC q.2.1) q.2.2 hc hcl hcn hrm (z_krR h kk) (z_kxR hh)
theorem G_callSR {idx na fr2 lo2 mc ms bc2 bs2 : Nat} {M2 : z_Me} {as S : List z_V} {r : z_O} {f : Int → z_M → z_O} (hd : decode M.2.1 pc = .ok (.invokestatic idx, 3)) (hM : z_MOK M2) (hV : z_SOK M2 na) (hw : Cond.methodLink M.1.cls idx M2.1 ∈ z_tbl) (hC : z_D l K M2 fr2 lo2 mc ms as σ r) (hS : as.reverse ++ st = S)
    (hn : as.length = na) (hrm : z_rm fr lo bc bs fr2 M2.2.2.1 lo2 mc ms bc2 bs2 st) (hh : M.2.2.2.2 = [])
    (kk : ∀ x s, G l K M fr lo bc2 bs2 (pc + 3) lv (vR x :: st) s (f x s)) : G l K M fr lo bc bs (pc) lv (S) σ (z_bR r f) := by
  subst hS
  exact fun h => V_callS hd hM hV hw (hC (z_neR h)) hn hrm (z_krR h kk) (z_kxR hh)
theorem z_krN {bc2 bs2 : Nat} {r : z_O} {f : z_M → z_O} (h : z_bN r f ≠ none) (kk : ∀ s, G l K M fr lo bc2 bs2 (pc + 3) lv (st) s (f s)) : ∀ (v : z_V) (n' : Nat) (τ' σ' : z_M), v.1 < 6 → z_g v → z_QE r v n' τ' σ' → V l K M fr lo bc2 bs2 (pc + 3) lv (z_push v st) n' τ' σ' (z_QE (z_bN r f)) := by
  intro v n' τ' σ' hv _ hq
  obtain ⟨rfl, rfl, e⟩ := hq
  obtain ⟨t, x⟩ := v
  subst e
  match t, hv with
  | 0, _ => exact absurd rfl h
  | 1, _ => exact absurd rfl h
  | 2, _ => exact absurd rfl h
  | 3, _ => exact absurd rfl h
  | 4, _ => exact absurd rfl h
  | 5, _ => exact kk _ h
theorem z_kxN {bc2 bs2 : Nat} {r : z_O} {f : z_M → z_O} (hh : M.2.2.2.2 = []) : ∀ (x : Int) (n' : Nat) (τ' σ' : z_M), z_QE r (vX x) n' τ' σ' → VX l K M fr lo bc2 bs2 pc lv st n' τ' σ' x (z_QE (z_bN r f)) := by
  intro x n' τ' σ' hq
  obtain ⟨rfl, rfl, e⟩ := hq
  subst e
  exact VX_out hh ⟨rfl, rfl, rfl⟩
theorem z_neN {r : z_O} {f : z_M → z_O} (h : z_bN r f ≠ none) : r ≠ none := by
  intro e
  subst e
  exact h rfl
theorem G_callVN {idx na c fr2 lo2 mc ms bc2 bs2 : Nat} {M2 : z_Me} {as S : List z_V} {k : Int} {r : z_O} {f : z_M → z_O} {r9 : vw_C} (hd : decode M.2.1 pc = .ok (.invokevirtual idx, 3)) (hM : z_MOK M2) (hV : z_VOK M2 na) (hw : Cond.methodLink M.1.cls idx M2.1 ∈ z_tbl) (hC : z_D l K M2 fr2 lo2 mc ms (vR k :: as) σ r) (hS : as.reverse ++ vR k :: st = S)
    (hn : as.length = na) (hc : c < 100) (hcl : vwCl[c]? = some r9) (hcn : r9.1 = M2.1.cls) (hrm : z_rm fr lo bc bs fr2 M2.2.2.1 lo2 mc ms bc2 bs2 st) (hh : M.2.2.2.2 = [])
    (kk : ∀ s, G l K M fr lo bc2 bs2 (pc + 3) lv (st) s (f s)) : G l K M fr lo bc bs (pc) lv (S) σ (if z_ob k c then z_bN r f else none) := by
  subst hS
  exact G_chk fun q h => V_callV hd hM hV hw (hC (z_neN h)) hn q.1 (z_le_NC q.2.1) q.2.2 hc hcl hcn hrm (z_krN h kk) (z_kxN hh)
theorem G_callSN {idx na fr2 lo2 mc ms bc2 bs2 : Nat} {M2 : z_Me} {as S : List z_V} {r : z_O} {f : z_M → z_O} (hd : decode M.2.1 pc = .ok (.invokestatic idx, 3)) (hM : z_MOK M2) (hV : z_SOK M2 na) (hw : Cond.methodLink M.1.cls idx M2.1 ∈ z_tbl) (hC : z_D l K M2 fr2 lo2 mc ms as σ r) (hS : as.reverse ++ st = S)
    (hn : as.length = na) (hrm : z_rm fr lo bc bs fr2 M2.2.2.1 lo2 mc ms bc2 bs2 st) (hh : M.2.2.2.2 = [])
    (kk : ∀ s, G l K M fr lo bc2 bs2 (pc + 3) lv (st) s (f s)) : G l K M fr lo bc bs (pc) lv (S) σ (z_bN r f) := by
  subst hS
  exact fun h => V_callS hd hM hV hw (hC (z_neN h)) hn hrm (z_krN h kk) (z_kxN hh)
end ZG
