/-! THE LAYER, 1: numbers, values, locals. A value is a kind and a number: 0 int, 1 long, 2 a cell of ours by its place (0: null), 3 an address, 4 a static table, 5 nothing (void), 6 thrown, 9 unset -/
def z_w (x : Int) : Int := (x + 2147483648) % 4294967296 - 2147483648
def z_wl (x : Int) : Int := (x + 9223372036854775808) % 18446744073709551616 - 9223372036854775808
abbrev z_I (x : Int) : Prop := -2147483648 ≤ x ∧ x ≤ 2147483647
abbrev z_L (x : Int) : Prop := -9223372036854775808 ≤ x ∧ x ≤ 9223372036854775807
theorem z_wI (x : Int) : z_I (z_w x) := by unfold z_w; omega
theorem z_wlL (x : Int) : z_L (z_wl x) := by unfold z_wl; omega
theorem z_wid {x : Int} (h : z_I x) : z_w x = x := by unfold z_w; omega
theorem z_wlid {x : Int} (h : z_L x) : z_wl x = x := by unfold z_wl; omega
theorem z_ofw (x : Int) : Int32.ofInt (z_w x) = Int32.ofInt x := by
  apply Int32.toInt_inj.mp
  rw [Int32.toInt_ofInt, Int32.toInt_ofInt]
  show (z_w x).bmod 4294967296 = x.bmod 4294967296
  unfold z_w Int.bmod
  dsimp only
  split <;> split <;> omega
theorem z_ofwl (x : Int) : Int64.ofInt (z_wl x) = Int64.ofInt x := by
  apply Int64.toInt_inj.mp
  rw [Int64.toInt_ofInt, Int64.toInt_ofInt]
  show (z_wl x).bmod 18446744073709551616 = x.bmod 18446744073709551616
  unfold z_wl Int.bmod
  dsimp only
  split <;> split <;> omega
theorem z_toi {x : Int} (h : z_I x) : (Int32.ofInt x).toInt = x := Int32.toInt_ofInt_of_le (by omega) (by omega)
theorem z_tol {x : Int} (h : z_L x) : (Int64.ofInt x).toInt = x := Int64.toInt_ofInt_of_le (by omega) (by omega)
theorem z_oi (x : Int32) : Int32.ofInt x.toInt = x := Int32.ofInt_toInt x
theorem z_ol (x : Int64) : Int64.ofInt x.toInt = x := Int64.ofInt_toInt x
theorem z_Ii (x : Int32) : z_I x.toInt := by
  have h1 := Int32.le_toInt x
  have h2 := Int32.toInt_lt x
  exact ⟨by omega, by omega⟩
theorem z_Ll (x : Int64) : z_L x.toInt := by
  have h1 := Int64.le_toInt x
  have h2 := Int64.toInt_lt x
  exact ⟨by omega, by omega⟩
theorem z_clamp {x : Int} (h : 0 ≤ x) (h2 : x ≤ 2147483647) : (Int32.ofInt x).toNatClampNeg = x.toNat := Int32.toNatClampNeg_ofInt_of_le (by omega) (by omega)
theorem z_vpin {x : Int} {N : Nat} (h : 0 ≤ x) (h2 : x < N) (hx : z_I x) : vp_in (Int32.ofInt x) N := vp_in_iff.mpr ⟨by rw [z_toi hx]; exact h, by rw [z_toi hx]; exact h2⟩
theorem z_lt {x y : Int} (hx : z_I x) (hy : z_I y) : Int32.ofInt x < Int32.ofInt y ↔ x < y := by rw [Int32.lt_iff_toInt_lt, z_toi hx, z_toi hy]
theorem z_le {x y : Int} (hx : z_I x) (hy : z_I y) : Int32.ofInt x ≤ Int32.ofInt y ↔ x ≤ y := by rw [Int32.le_iff_toInt_le, z_toi hx, z_toi hy]
theorem z_eq {x y : Int} (hx : z_I x) (hy : z_I y) : Int32.ofInt x = Int32.ofInt y ↔ x = y := ⟨fun h => by rw [← z_toi hx, ← z_toi hy, h], fun h => by rw [h]⟩
theorem z_ltl {x y : Int} (hx : z_L x) (hy : z_L y) : Int64.ofInt x < Int64.ofInt y ↔ x < y := by rw [Int64.lt_iff_toInt_lt, z_tol hx, z_tol hy]
theorem z_eql {x y : Int} (hx : z_L x) (hy : z_L y) : Int64.ofInt x = Int64.ofInt y ↔ x = y := ⟨fun h => by rw [← z_tol hx, ← z_tol hy, h], fun h => by rw [h]⟩
theorem z_I0 : z_I 0 := by decide
abbrev z_V : Type := Nat × Int
abbrev vI (x : Int) : z_V := (0, x)
abbrev vL (x : Int) : z_V := (1, x)
abbrev vR (k : Int) : z_V := (2, k)
abbrev vA (a : Nat) : z_V := (3, (a : Int))
abbrev vT (k : Int) : z_V := (4, k)
abbrev vN : z_V := (5, 0)
abbrev vX (k : Int) : z_V := (6, k)
abbrev vU : z_V := (9, 0)
/-- the base of the addresses; the classes' numbers and their fields' slots; the array classes' numbers; the static tables; the script -/
abbrev z_K : Type := Nat × (Nat → ClassId) × (Nat → Nat → Nat) × (Nat → ClassId) × (Nat → Nat) × (Nat × Nat × (Nat → Int32))
def z_rv (K : z_K) (k : Int) : Value := if k ≤ 0 then .null else .ref (K.1 + k.toNat)
def z_c (K : z_K) (v : z_V) : Value := match v.1 with
  | 0 => .int (Int32.ofInt v.2)
  | 1 => .long (Int64.ofInt v.2)
  | 2 => z_rv K v.2
  | 3 => .ref v.2.toNat
  | 4 => .ref (K.2.2.2.2.1 v.2.toNat)
  | _ => .null
theorem z_rv_pos {K : z_K} {k : Int} (h : 1 ≤ k) : z_rv K k = .ref (K.1 + k.toNat) := if_neg (by omega)
theorem z_rv_0 {K : z_K} : z_rv K 0 = .null := if_pos (by omega)
theorem z_rv_or (K : z_K) (k : Int) : z_rv K k = .null ∨ ∃ a, z_rv K k = .ref a := by
  unfold z_rv
  by_cases h : k ≤ 0
  · exact Or.inl (if_pos h)
  · exact Or.inr ⟨_, if_neg h⟩
theorem z_c_cat (K : z_K) (v : z_V) : (z_c K v).category = if v.1 = 1 then 2 else 1 := by
  obtain ⟨t, x⟩ := v
  match t with
  | 0 => rfl
  | 1 => rfl
  | 2 =>
    show (z_rv K x).category = 1
    rcases z_rv_or K x with h | ⟨a, h⟩ <;> rw [h] <;> rfl
  | 3 => rfl
  | 4 => rfl
  | _ + 5 => rfl
/-- numbers are in range -/
def z_g (v : z_V) : Prop := (v.1 = 0 → z_I v.2) ∧ (v.1 = 1 → z_L v.2)
def z_gs (l : List z_V) : Prop := ∀ v ∈ l, z_g v
theorem z_gI {x : Int} (h : z_I x) : z_g (vI x) := ⟨fun _ => h, fun q => absurd q (show ¬ (0 : Nat) = 1 by decide)⟩
theorem z_gL {x : Int} (h : z_L x) : z_g (vL x) := ⟨fun q => absurd q (show ¬ (1 : Nat) = 0 by decide), fun _ => h⟩
theorem z_gO {t : Nat} {x : Int} (h0 : t ≠ 0) (h1 : t ≠ 1) : z_g (t, x) := ⟨fun q => absurd q h0, fun q => absurd q h1⟩
theorem z_gR (k : Int) : z_g (vR k) := z_gO (by decide) (by decide)
theorem z_gs0 : z_gs [] := fun _ h => absurd h List.not_mem_nil
theorem z_gc {v : z_V} {l : List z_V} (h : z_g v) (hl : z_gs l) : z_gs (v :: l) := List.forall_mem_cons.mpr ⟨h, hl⟩
theorem z_gh {v : z_V} {l : List z_V} (h : z_gs (v :: l)) : z_g v := h v List.mem_cons_self
theorem z_gt {v : z_V} {l : List z_V} (h : z_gs (v :: l)) : z_gs l := fun w hw => h w (List.mem_cons_of_mem _ hw)
theorem z_hI {x : Int} {l : List z_V} (h : z_gs (vI x :: l)) : z_I x := (z_gh h).1 rfl
theorem z_hL {x : Int} {l : List z_V} (h : z_gs (vL x :: l)) : z_L x := (z_gh h).2 rfl
theorem z_gat {l : List z_V} {i : Nat} {v : z_V} (h : z_gs l) (hv : l[i]? = some v) : z_g v := h v (List.mem_of_getElem? hv)
/-- the locals as the kit lists them -/
def z_al (K : z_K) : Nat → List z_V → List (Nat × Value)
  | _, [] => []
  | i, v :: t => if v.1 = 9 then z_al K (i + 1) t else (i, z_c K v) :: z_al K (i + 1) t
theorem z_al_mem {K : z_K} : ∀ (lv : List z_V) (i j : Nat) (v : z_V), lv[j]? = some v → v.1 ≠ 9 → (i + j, z_c K v) ∈ z_al K i lv
  | [], _, _, _, h, _ => by simp at h
  | a :: t, i, 0, v, h, h9 => by
    have e : a = v := by simpa using h
    subst e
    unfold z_al
    rw [if_neg h9]
    exact List.mem_cons_self
  | a :: t, i, j + 1, v, h, h9 => by
    have h' : t[j]? = some v := by simpa using h
    have ih := z_al_mem (K := K) t (i + 1) j v h' h9
    have e : i + 1 + j = i + (j + 1) := by omega
    rw [e] at ih
    unfold z_al
    by_cases ha : a.1 = 9
    · rw [if_pos ha]; exact ih
    · rw [if_neg ha]; exact List.mem_cons_of_mem _ ih
theorem z_al_of {K : z_K} : ∀ (lv : List z_V) (i : Nat) (q : Nat × Value), q ∈ z_al K i lv → ∃ (j : Nat) (v : z_V), lv[j]? = some v ∧ v.1 ≠ 9 ∧ q = (i + j, z_c K v)
  | [], _, _, h => by simp [z_al] at h
  | a :: t, i, q, h => by
    unfold z_al at h
    by_cases ha : a.1 = 9
    · rw [if_pos ha] at h
      obtain ⟨j, v, h1, h2, h3⟩ := z_al_of t (i + 1) q h
      exact ⟨j + 1, v, by simpa using h1, h2, by rw [h3]; congr 1; omega⟩
    · rw [if_neg ha] at h
      rcases List.mem_cons.mp h with h | h
      · exact ⟨0, a, by simp, ha, h⟩
      · obtain ⟨j, v, h1, h2, h3⟩ := z_al_of t (i + 1) q h
        exact ⟨j + 1, v, by simpa using h1, h2, by rw [h3]; congr 1; omega⟩
theorem z_get {K : z_K} {ls : Array Slot} {nL i : Nat} {lv : List z_V} {v : z_V} (h : lv_has ls nL (z_al K 0 lv)) (hv : lv[i]? = some v) (h9 : v.1 ≠ 9) : ls[i]? = some (.val (z_c K v)) := by
  have h1 := h.2.2 _ (z_al_mem (K := K) lv 0 i v hv h9)
  simpa using h1
/-- a store of one word -/
def z_set : List z_V → Nat → z_V → List z_V
  | [], _, _ => []
  | _ :: t, 0, v => v :: t
  | a :: t, i + 1, v => (bif (Nat.beq i 0 && Nat.beq a.1 1) then vU else a) :: z_set t i v
theorem z_set_get : ∀ (lv : List z_V) (i : Nat) (v : z_V) (j : Nat) (w : z_V), (z_set lv i v)[j]? = some w → w.1 ≠ 9 → (j = i ∧ w = v) ∨ (j ≠ i ∧ lv[j]? = some w ∧ ¬ (j + 1 = i ∧ w.1 = 1))
  | [], _, _, _, _, h, _ => by simp [z_set] at h
  | a :: t, 0, v, 0, w, h, _ => by
    have e : v = w := by simpa [z_set] using h
    exact Or.inl ⟨rfl, e.symm⟩
  | a :: t, 0, v, j + 1, w, h, _ => by
    have e : t[j]? = some w := by simpa [z_set] using h
    exact Or.inr ⟨by omega, by simpa using e, fun q => by omega⟩
  | a :: t, i + 1, v, 0, w, h, h9 => by
    have e : (bif (Nat.beq i 0 && Nat.beq a.1 1) then vU else a) = w := by simpa [z_set] using h
    cases hb : (Nat.beq i 0 && Nat.beq a.1 1) with
    | true =>
      rw [hb] at e
      have : vU = w := e
      subst this
      exact absurd rfl h9
    | false =>
      rw [hb] at e
      have e2 : a = w := e
      subst e2
      refine Or.inr ⟨by omega, by simp, fun q => ?_⟩
      have h0 : i = 0 := by omega
      subst h0
      have h1 : a.1 = 1 := q.2
      rw [h1] at hb
      simp at hb
  | a :: t, i + 1, v, j + 1, w, h, h9 => by
    have e : (z_set t i v)[j]? = some w := by simpa [z_set] using h
    rcases z_set_get t i v j w e h9 with ⟨h1, h2⟩ | ⟨h1, h2, h3⟩
    · exact Or.inl ⟨by omega, h2⟩
    · exact Or.inr ⟨by omega, by simpa using h2, fun q => h3 ⟨by omega, q.2⟩⟩
theorem z_set_mem : ∀ (lv : List z_V) (i : Nat) (v w : z_V), w ∈ z_set lv i v → w = v ∨ w = vU ∨ w ∈ lv
  | [], _, _, _, h => by simp [z_set] at h
  | a :: t, 0, v, w, h => by
    rcases List.mem_cons.mp h with h | h
    · exact Or.inl h
    · exact Or.inr (Or.inr (List.mem_cons_of_mem _ h))
  | a :: t, i + 1, v, w, h => by
    rcases List.mem_cons.mp h with h | h
    · cases hb : (Nat.beq i 0 && Nat.beq a.1 1) with
      | true => rw [hb] at h; exact Or.inr (Or.inl h)
      | false => rw [hb] at h; exact Or.inr (Or.inr (by rw [show w = a from h]; exact List.mem_cons_self))
    · rcases z_set_mem t i v w h with h | h | h
      · exact Or.inl h
      · exact Or.inr (Or.inl h)
      · exact Or.inr (Or.inr (List.mem_cons_of_mem _ h))
theorem z_gU : z_g vU := z_gO (by decide) (by decide)
theorem z_gset {lv : List z_V} {i : Nat} {v : z_V} (h : z_gs lv) (hv : z_g v) : z_gs (z_set lv i v) := fun w hw => by
  rcases z_set_mem lv i v w hw with h1 | h1 | h1
  · rw [h1]; exact hv
  · rw [h1]; exact z_gU
  · exact h w h1
theorem z_cat2 {K : z_K} {w : z_V} (h : ((z_c K w).category == 2) = true) : w.1 = 1 := by
  rw [z_c_cat] at h
  by_cases h1 : w.1 = 1
  · exact h1
  · rw [if_neg h1] at h
    exact absurd h (by decide)
theorem z_st1 {K : z_K} {ls' : Array Slot} {nL i : Nat} {lv : List z_V} {v : z_V} (h : lv_has ls' nL ((i, z_c K v) :: (z_al K 0 lv).filter (fun q => !(q.1 == i) && !(q.1 + 1 == i && q.2.category == 2)))) : lv_has ls' nL (z_al K 0 (z_set lv i v)) := by
  refine ⟨h.1, h.2.1, fun q hq => ?_⟩
  obtain ⟨j, w, hw, h9, rfl⟩ := z_al_of _ _ _ hq
  rcases z_set_get _ _ _ _ _ hw h9 with ⟨rfl, rfl⟩ | ⟨hne, hl, hn⟩
  · have h0 : (0 + j, z_c K w) = (j, z_c K w) := by rw [Nat.zero_add]
    rw [h0]
    exact h.2.2 _ List.mem_cons_self
  · refine h.2.2 _ (List.mem_cons_of_mem _ (List.mem_filter.mpr ⟨z_al_mem _ 0 _ _ hl h9, ?_⟩))
    have e1 : ((0 + j == i) = false) := by simp; omega
    cases hc : ((z_c K w).category == 2) with
    | false => simp [e1, hc]; omega
    | true =>
      have h1 := z_cat2 hc
      have e2 : ((0 + j + 1 == i) = false) := by
        simp
        intro q
        exact hn ⟨by omega, h1⟩
      simp only [e1, e2]
      rfl
/-- a store of two words -/
def z_set2 (lv : List z_V) (i : Nat) (v : z_V) : List z_V := (z_set lv i v).set (i + 1) vU
theorem z_gset2 {lv : List z_V} {i : Nat} {v : z_V} (h : z_gs lv) (hv : z_g v) : z_gs (z_set2 lv i v) := fun w hw => by
  rcases List.mem_or_eq_of_mem_set hw with h1 | h1
  · exact z_gset h hv w h1
  · rw [h1]; exact z_gU
theorem z_st2 {K : z_K} {ls' : Array Slot} {nL i : Nat} {lv : List z_V} {v : z_V} (h : lv_has ls' nL ((i, z_c K v) :: (z_al K 0 lv).filter (fun q => !(q.1 == i) && (!(q.1 == i + 1) && !(q.1 + 1 == i && q.2.category == 2))))) : lv_has ls' nL (z_al K 0 (z_set2 lv i v)) := by
  refine ⟨h.1, h.2.1, fun q hq => ?_⟩
  obtain ⟨j, w, hw, h9, rfl⟩ := z_al_of _ _ _ hq
  have hj : j ≠ i + 1 := by
    intro e
    subst e
    unfold z_set2 at hw
    rw [List.getElem?_set] at hw
    by_cases hl : i + 1 < (z_set lv i v).length
    · rw [if_pos rfl, if_pos hl] at hw
      have : vU = w := by simpa using hw
      subst this
      exact h9 rfl
    · rw [if_pos rfl, if_neg hl] at hw
      cases hw
  have hw2 : (z_set lv i v)[j]? = some w := by
    unfold z_set2 at hw
    rw [List.getElem?_set_ne (Ne.symm hj)] at hw
    exact hw
  rcases z_set_get _ _ _ _ _ hw2 h9 with ⟨rfl, rfl⟩ | ⟨hne, hl, hn⟩
  · have h0 : (0 + j, z_c K w) = (j, z_c K w) := by rw [Nat.zero_add]
    rw [h0]
    exact h.2.2 _ List.mem_cons_self
  · refine h.2.2 _ (List.mem_cons_of_mem _ (List.mem_filter.mpr ⟨z_al_mem _ 0 _ _ hl h9, ?_⟩))
    have e1 : ((0 + j == i) = false) := by simp; omega
    have e3 : ((0 + j == i + 1) = false) := by simp; omega
    cases hc : ((z_c K w).category == 2) with
    | false => simp [e1, e3, hc]; omega
    | true =>
      have h1 := z_cat2 hc
      have e2 : ((0 + j + 1 == i) = false) := by
        simp
        intro q
        exact hn ⟨by omega, h1⟩
      simp only [e1, e2, e3]
      rfl
/-- the locals of an entry -/
def z_ent : List z_V → List z_V
  | [] => []
  | v :: t => bif Nat.beq v.1 1 then v :: vU :: z_ent t else v :: z_ent t
def z_en (as : List z_V) (n : Nat) : List z_V := z_ent as ++ List.replicate (n - (z_ent as).length) vU
theorem z_al_c {K : z_K} (i : Nat) (v : z_V) (t : List z_V) : z_al K i (v :: t) = if v.1 = 9 then z_al K (i + 1) t else (i, z_c K v) :: z_al K (i + 1) t := rfl
theorem z_al_app {K : z_K} : ∀ (a b : List z_V) (i : Nat), z_al K i (a ++ b) = z_al K i a ++ z_al K (i + a.length) b
  | [], b, i => by simp [z_al]
  | x :: t, b, i => by
    have ih := z_al_app (K := K) t b (i + 1)
    have e : i + 1 + t.length = i + (x :: t).length := by simp; omega
    show z_al K i (x :: (t ++ b)) = _
    rw [z_al_c, z_al_c]
    by_cases h : x.1 = 9
    · rw [if_pos h, if_pos h, ih, e]
    · rw [if_neg h, if_neg h, ih, e]; rfl
theorem z_al_rep {K : z_K} : ∀ (n i : Nat), z_al K i (List.replicate n vU) = []
  | 0, _ => rfl
  | n + 1, i => by
    show z_al K i (vU :: List.replicate n vU) = []
    unfold z_al
    rw [if_pos rfl]
    exact z_al_rep n (i + 1)
theorem z_al_ent {K : z_K} : ∀ (as : List z_V) (i : Nat), (∀ v ∈ as, v.1 ≠ 9) → z_al K i (z_ent as) = lv_args i (as.map (z_c K)) ∧ (z_ent as).length = (lg_sl (as.map (z_c K))).length
  | [], _, _ => ⟨rfl, rfl⟩
  | v :: t, i, h => by
    have hv : v.1 ≠ 9 := h v List.mem_cons_self
    have ht : ∀ w ∈ t, w.1 ≠ 9 := fun w hw => h w (List.mem_cons_of_mem _ hw)
    have hc := z_c_cat K v
    by_cases h1 : v.1 = 1
    · obtain ⟨e1, e2⟩ := z_al_ent (K := K) t (i + 2) ht
      have hb : Nat.beq v.1 1 = true := by rw [h1]; rfl
      rw [if_pos h1] at hc
      constructor
      · show z_al K i (bif Nat.beq v.1 1 then v :: vU :: z_ent t else v :: z_ent t) = lv_args i (z_c K v :: t.map (z_c K))
        rw [hb]
        show z_al K i (v :: vU :: z_ent t) = _
        unfold z_al
        rw [if_neg hv]
        unfold z_al
        rw [if_pos rfl, e1]
        simp [lv_args, hc]
      · show (bif Nat.beq v.1 1 then v :: vU :: z_ent t else v :: z_ent t).length = (lg_sl (z_c K v :: t.map (z_c K))).length
        rw [hb]
        simp [lg_sl, hc, e2]
    · obtain ⟨e1, e2⟩ := z_al_ent (K := K) t (i + 1) ht
      have hb : Nat.beq v.1 1 = false := by
        cases hbb : Nat.beq v.1 1 with
        | false => rfl
        | true => exact absurd (Nat.eq_of_beq_eq_true hbb) h1
      rw [if_neg h1] at hc
      constructor
      · show z_al K i (bif Nat.beq v.1 1 then v :: vU :: z_ent t else v :: z_ent t) = lv_args i (z_c K v :: t.map (z_c K))
        rw [hb]
        show z_al K i (v :: z_ent t) = _
        unfold z_al
        rw [if_neg hv, e1]
        simp [lv_args, hc]
      · show (bif Nat.beq v.1 1 then v :: vU :: z_ent t else v :: z_ent t).length = (lg_sl (z_c K v :: t.map (z_c K))).length
        rw [hb]
        simp [lg_sl, hc, e2]
