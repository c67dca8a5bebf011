/-! SAFETY, 1: bounds of all cells, what a run leaves as it was, rules -/
def z_bI32 : Int × Int := (-2147483648, 2147483647)
def z_bI64 : Int × Int := (-9223372036854775808, 9223372036854775807)
def z_bd (k j : Int) : Int × Int :=
  if k = 1 ∧ j = 12 then (0, 300)
  else if k = 33 ∧ j = 1 then (0, 11)
  else if k = 33 ∧ j = 2 then (0, 12)
  else if (k = 6 ∨ k = 19 ∨ (35 ≤ k ∧ k ≤ 178 ∧ (k - 35) % 13 = 0)) ∧ j = 6 then (0, 200)
  else if k = 191 ∧ j = 16 then (0, 200)
  else if k = 195 then (0, 200)
  else if k = 220 ∧ j = 4 then (0, 201)
  else if k = 220 ∧ j = 5 then (-1, 200)
  else if k = 227 ∨ k = 283 then (0, 200)
  else if k = 242 ∨ k = 251 ∨ k = 248 ∨ k = 257 then (0, 200)
  else if (k = 240 ∨ k = 249) ∧ j = 6 then (0, 200)
  else if k = 309 ∧ (j = 2 ∨ j = 3) then (0, 300)
  else if k = 309 ∧ j = 4 then (0, 302)
  else if k = 309 ∧ j = 19 then (0, 12)
  else if k = 309 ∧ (j = 20 ∨ j = 44 ∨ j = 58) then (0, 200)
  else if k = 309 ∧ j = 60 then (0, 4000)
  else if (316 ≤ k ∧ k ≤ 329) ∧ (j = 0 ∨ j = 1) then (0, 200)
  else if 361 ≤ k ∧ k ≤ 374 then (-1, 199)
  else if (391 ≤ k ∧ k ≤ 404) ∧ (0 ≤ j ∧ j ≤ 199) then (0, j)
  else if ((407 ≤ k ∧ k ≤ 3219) ∧ (k - 406) % 201 ≠ 0) ∧ (j = 0 ∨ j = 10) then (0, 9)
  else if k = 3221 ∨ k = 3223 ∨ k = 3436 ∨ k = 3440 then (0, 199)
  else if k = 3222 ∨ k = 3229 ∨ k = 3438 ∨ k = 7653 then (0, 200)
  else if (3452 ≤ k ∧ k ≤ 3651) ∧ j = 0 then (0, 199)
  else if (3452 ≤ k ∧ k ≤ 3651) ∧ j = 1 then (0, 200)
  else if k = 7657 then (-1, 199)
  else if (z_sh k).1 = 101 then z_bI64 else z_bI32
def z_CI (s : z_M) : Prop := ∀ k j : Int, (z_bd k j).1 ≤ s k j ∧ s k j ≤ (z_bd k j).2
theorem z_iteQ {α : Type} {Q : α → Prop} {c : Prop} [Decidable c] {a b : α} (ha : c → Q a) (hb : ¬ c → Q b) : Q (if c then a else b) := by
  by_cases h : c
  · rw [if_pos h]; exact ha h
  · rw [if_neg h]; exact hb h
theorem z_bd_ind {Q : Int × Int → Prop} (k j : Int) (hA : ∀ l u : Int, l ≤ 0 → 0 ≤ u → -2147483648 ≤ l → u ≤ 2147483647 → Q (l, u)) (hB : (z_sh k).1 = 101 → Q z_bI64) : Q (z_bd k j) := by
  unfold z_bd
  repeat (refine z_iteQ (fun hc => by first | exact hB hc | exact hA _ _ (by omega) (by omega) (by omega) (by omega)) (fun _ => ?_))
  exact hA (-2147483648) 2147483647 (by omega) (by omega) (by omega) (by omega)
theorem z_bd0 (k j : Int) : (z_bd k j).1 ≤ 0 ∧ 0 ≤ (z_bd k j).2 :=
  z_bd_ind (Q := fun p => p.1 ≤ 0 ∧ 0 ≤ p.2) k j (fun l u h1 h2 _ _ => ⟨h1, h2⟩) (fun _ => ⟨by decide, by decide⟩)
theorem CI_b {s : z_M} (c : z_CI s) {k j l u : Int} (h : z_bd k j = (l, u)) : l ≤ s k j ∧ s k j ≤ u := by
  have q := c k j
  rw [h] at q
  exact q
theorem CI_up {s : z_M} (c : z_CI s) {k j v l u : Int} (h : z_bd k j = (l, u)) (hv : l ≤ v ∧ v ≤ u) : z_CI (z_up s k j v) := fun a b => by
  by_cases q : a = k ∧ b = j
  · rw [q.1, q.2, z_up_s, h]; exact hv
  · show (z_bd a b).1 ≤ (if a = k ∧ b = j then v else s a b) ∧ (if a = k ∧ b = j then v else s a b) ≤ (z_bd a b).2
    rw [if_neg q]; exact c a b
/-- what is outside R is as it was -/
def z_Fr (R : Int → Int → Prop) (r s : z_M) : Prop := ∀ a b : Int, ¬ R a b → s a b = r a b
theorem z_Fr.rf {R : Int → Int → Prop} {r : z_M} : z_Fr R r r := fun _ _ _ => rfl
theorem z_Fr.up {R : Int → Int → Prop} {r s s' : z_M} {k : Int} (f : z_Fr R r s) (g : ∀ a b : Int, a ≠ k → s' a b = s a b) (h : ∀ b, R k b) : z_Fr R r s' := fun a b q => (g a b fun e => q (e ▸ h b)).trans (f a b q)
theorem z_Fr.upf {R : Int → Int → Prop} {r s s' : z_M} {k j : Int} (f : z_Fr R r s) (g : ∀ a b : Int, a ≠ k → s' a b = s a b) (g2 : ∀ b : Int, b ≠ j → s' k b = s k b) (h : R k j) : z_Fr R r s' := fun a b q => by
  refine Eq.trans ?_ (f a b q)
  by_cases e : a = k
  · subst e
    exact g2 b fun e2 => q (e2 ▸ h)
  · exact g a b e
theorem z_Fr.tr {R R2 : Int → Int → Prop} {r s s' : z_M} (f : z_Fr R r s) (g : z_Fr R2 s s') (h : ∀ a b, R2 a b → R a b) : z_Fr R r s' := fun a b q => (g a b fun e => q (h a b e)).trans (f a b q)
theorem z_wb {e x : Int} (h : z_w e = x) : (-2147483648 ≤ x ∧ x ≤ 2147483647) ∧ (x = e ∨ e < -2147483648 ∨ 2147483647 < e) := by
  unfold z_w at h; omega
theorem z_wlb {e x : Int} (h : z_wl e = x) : (-9223372036854775808 ≤ x ∧ x ≤ 9223372036854775807) ∧ (x = e ∨ e < -9223372036854775808 ∨ 9223372036854775807 < e) := by
  unfold z_wl at h; omega
theorem z_td2 {e : Int} : e < 0 ∨ Int.tdiv e 2 = e / 2 := by
  by_cases h : e < 0
  · exact Or.inl h
  · exact Or.inr (Int.tdiv_eq_ediv_of_nonneg (by omega))
theorem z_i32b (x : Int32) : -2147483648 ≤ x.toInt ∧ x.toInt ≤ 2147483647 := ⟨by have := Int32.le_toInt x; omega, by have := Int32.toInt_lt x; omega⟩
theorem z_i64b (x : Int64) : -9223372036854775808 ≤ x.toInt ∧ x.toInt ≤ 9223372036854775807 := ⟨by have := Int64.le_toInt x; omega, by have := Int64.toInt_lt x; omega⟩
theorem z_cmpb (x y : Int) : -1 ≤ z_cmp x y ∧ z_cmp x y ≤ 1 := by
  unfold z_cmp
  split
  · omega
  · split <;> omega
theorem z_maxb (x y : Int) : x ≤ z_max x y ∧ y ≤ z_max x y ∧ (z_max x y = x ∨ z_max x y = y) := by
  unfold z_max; split <;> omega
theorem z_minb (x y : Int) : z_min x y ≤ x ∧ z_min x y ≤ y ∧ (z_min x y = x ∨ z_min x y = y) := by
  unfold z_min; split <;> omega
section ZS
variable {P : z_V → z_M → Prop} {fu : Nat} {s : z_M} {k i v c l u : Int}
theorem T_leq {α : Type} {a : α} {f : α → z_O} (h : ∀ x, a = x → z_T (f x) P) : z_T (z_let a f) P := h a rfl
theorem T_upg {j : Int} {f : z_M → z_O} (ci : z_CI s) (hb : z_bd k j = (l, u)) (hv : l ≤ v ∧ v ≤ u) (kk : ∀ s' : z_M, z_CI s' → (∀ a b : Int, a ≠ k → s' a b = s a b) → (∀ b : Int, b ≠ j → s' k b = s k b) → s' k j = v → z_T (f s') P) : z_T (z_let (z_up s k j v) f) P :=
  kk _ (CI_up ci hb hv) (fun a b h => z_up_k h) (fun b h => z_up_j h) z_up_s
theorem T_get {f : Int → z_M → z_O} (hr : z_rw k) (hc : z_gr k 0 = c) (hb : ∀ j, z_bd c j = (l, u)) (h0 : l ≤ 0 ∧ 0 ≤ u) (ci : z_CI s) (kk : ∀ x, z_rg s k i = x → l ≤ x ∧ x ≤ u → (x = 0 ∨ (0 ≤ i ∧ i < z_ln k)) → z_T (f x s) P) : z_T (z_bI (fX7_get fu s k i) f) P := by
  refine T_bI (T_of (e_get hr) (T_rI ?_))
  refine kk _ rfl ?_ ?_
  · unfold z_rg
    by_cases q : 0 ≤ i ∧ i < z_ln k
    · rw [if_pos q, hc]; exact CI_b ci (hb i)
    · rw [if_neg q]; exact h0
  · by_cases q : 0 ≤ i ∧ i < z_ln k
    · exact Or.inr q
    · exact Or.inl (z_rg_out q)
theorem z_rp_CI (hc : z_gr k 0 = c) (hb : ∀ j, z_bd c j = (l, u)) (ci : z_CI s) (hv : l ≤ v ∧ v ≤ u) : z_CI (z_rp s k i v) := by
  unfold z_rp
  by_cases q : 0 ≤ i ∧ i < z_ln k
  · rw [if_pos q, hc]; exact CI_up ci (hb i) hv
  · rw [if_neg q]; exact ci
theorem T_put {f : z_M → z_O} (hr : z_rw k) (hc : z_gr k 0 = c) (hb : ∀ j, z_bd c j = (l, u)) (hv : l ≤ v ∧ v ≤ u) (ci : z_CI s) (kk : ∀ s' : z_M, s' = z_rp s k i v → z_CI s' → (∀ a b : Int, a ≠ c → s' a b = s a b) → z_T (f s') P) : z_T (z_bN (fX7_put fu s k i v) f) P := by
  refine T_bN (T_of (e_put hr) (T_rN ?_))
  exact kk _ rfl (z_rp_CI hc hb ci hv) (fun a b h => z_rp_f (by rw [hc]; exact h))
theorem T_add {f : z_M → z_O} (hr : z_rw k) (hc : z_gr k 0 = c) (hb : ∀ j, z_bd c j = (-2147483648, 2147483647)) (ci : z_CI s) (kk : ∀ s' : z_M, s' = z_rp s k i (z_w (z_rg s k i + v)) → z_CI s' → (∀ a b : Int, a ≠ c → s' a b = s a b) → z_T (f s') P) : z_T (z_bN (fX7_add fu s k i v) f) P := by
  refine T_bN (T_of (e_add hr) (T_rN ?_))
  exact kk _ rfl (z_rp_CI hc hb ci (z_wb rfl).1) (fun a b h => z_rp_f (by rw [hc]; exact h))
theorem T_lget {f : Int → z_M → z_O} (hr : z_lr k) (hc : z_gr k 0 = c) (hb : ∀ j, z_bd c j = (l, u)) (h0 : l ≤ 0 ∧ 0 ≤ u) (ci : z_CI s) (kk : ∀ x, z_rg s k i = x → l ≤ x ∧ x ≤ u → z_T (f x s) P) : z_T (z_bL (fX4_get fu s k i) f) P := by
  refine T_bL (T_of (e_lget hr) (T_rL ?_))
  refine kk _ rfl ?_
  unfold z_rg
  by_cases q : 0 ≤ i ∧ i < z_ln k
  · rw [if_pos q, hc]; exact CI_b ci (hb i)
  · rw [if_neg q]; exact h0
theorem T_lput {f : z_M → z_O} (hr : z_lr k) (hc : z_gr k 0 = c) (hb : ∀ j, z_bd c j = (l, u)) (hv : l ≤ v ∧ v ≤ u) (ci : z_CI s) (kk : ∀ s' : z_M, s' = z_rp s k i v → z_CI s' → (∀ a b : Int, a ≠ c → s' a b = s a b) → z_T (f s') P) : z_T (z_bN (fX4_put fu s k i v) f) P := by
  refine T_bN (T_of (e_lput hr) (T_rN ?_))
  exact kk _ rfl (z_rp_CI hc hb ci hv) (fun a b h => z_rp_f (by rw [hc]; exact h))
theorem T_clear {f : z_M → z_O} {n : Int} (hfu : 8589934592 ≤ fu) (hr : z_rw k) (hn : n ≤ 2147483647) (hc : z_gr k 0 = c) (hb : ∀ j, z_bd c j = (l, u)) (h0 : l ≤ 0 ∧ 0 ≤ u) (ci : z_CI s) (kk : ∀ s' : z_M, s' = z_cl s k n → z_CI s' → (∀ a b : Int, a ≠ c → s' a b = s a b) → z_T (f s') P) : z_T (z_bN (fX7_clear fu s k n) f) P := by
  refine T_bN (T_of (e_clear hfu hr hn) (T_rN ?_))
  refine kk _ rfl ?_ (fun a b h => if_neg fun q => h (q.1.trans hc))
  intro a b
  unfold z_cl
  by_cases q : a = z_gr k 0 ∧ 0 ≤ b ∧ b < n ∧ b < z_ln k
  · rw [if_pos q, q.1, hc, hb b]; exact h0
  · rw [if_neg q]; exact ci a b
theorem T_pick {t : Nat} {f : Int → z_M → z_O} (ht : t < 3) (kk : ∀ x, (if 0 ≤ i ∧ i < 9 then z_tb t i.toNat else 0) = x → -2147483648 ≤ x ∧ x ≤ 2147483647 → z_T (f x s) P) : z_T (z_bI (fX11_pick fu s t i) f) P := by
  refine T_bI (T_of (e_pick ht) (T_rI ?_))
  refine kk _ rfl ?_
  by_cases q : 0 ≤ i ∧ i < 9
  · rw [if_pos q]; exact z_tbI t i.toNat
  · rw [if_neg q]; decide
/-- a call by its spec -/
theorem T_useI {E : z_O} {Q : z_V → z_M → Prop} {f : Int → z_M → z_O} (h : z_T E Q) (kk : ∀ v s', Q v s' → z_T (z_bI (some (v, s')) f) P) : z_T (z_bI E f) P := T_bI (T_mono h kk)
theorem T_useL {E : z_O} {Q : z_V → z_M → Prop} {f : Int → z_M → z_O} (h : z_T E Q) (kk : ∀ v s', Q v s' → z_T (z_bL (some (v, s')) f) P) : z_T (z_bL E f) P := T_bL (T_mono h kk)
theorem T_useN {E : z_O} {Q : z_V → z_M → Prop} {f : z_M → z_O} (h : z_T E Q) (kk : ∀ v s', Q v s' → z_T (z_bN (some (v, s')) f) P) : z_T (z_bN E f) P := T_bN (T_mono h kk)
end ZS
theorem z_tmb {x y z : Int} (h : Int.tmod x y = z) (hx : -2147483648 ≤ x ∧ x ≤ 2147483647) : -2147483648 ≤ z ∧ z ≤ 2147483647 := by
  have h1 := Int.natAbs_tmod x y
  have h2 := Nat.mod_le x.natAbs y.natAbs
  by_cases h0 : 0 ≤ x
  · have h3 := Int.tmod_nonneg y h0
    rw [h] at h1 h3
    omega
  · have h3 := Int.tmod_nonneg y (show 0 ≤ -x by omega)
    rw [Int.neg_tmod] at h3
    rw [h] at h1 h3
    omega
theorem T_vI {P : z_V → z_M → Prop} {f : Int → z_M → z_O} {x : Int} {s : z_M} (h : z_T (f x s) P) : z_T (z_bI (some (vI x, s)) f) P := h
theorem T_vL {P : z_V → z_M → Prop} {f : Int → z_M → z_O} {x : Int} {s : z_M} (h : z_T (f x s) P) : z_T (z_bL (some (vL x, s)) f) P := h
theorem T_vN {P : z_V → z_M → Prop} {f : z_M → z_O} {s : z_M} (h : z_T (f s) P) : z_T (z_bN (some (vN, s)) f) P := h
theorem e_nw {fu : Nat} {s : z_M} {v lo hi : Int} : fX11_needWithin fu s 1 v lo hi = if lo ≤ v ∧ v ≤ hi then some (vN, s) else some (vX 1, z_up s 1 15 (z_w (s 1 15 + 1))) := by
  have ej : fX11_needWithin_J10 fu s 1 = some (vX 1, z_up s 1 15 (z_w (s 1 15 + 1))) := by
    show (if z_ob 1 11 then (if z_ob 1 11 then (some (vX 1, z_up s 1 15 (z_w (s 1 15 + 1))) : z_O) else none) else none) = _
    rw [if_pos (by decide +kernel), if_pos (by decide +kernel)]
  unfold fX11_needWithin
  by_cases h1 : v < lo
  · rw [if_pos h1, if_neg (by omega), ej]
  · rw [if_neg h1]
    by_cases h2 : v ≤ hi
    · rw [if_pos h2, if_pos ⟨by omega, h2⟩]
    · rw [if_neg h2, if_neg (by omega), ej]
theorem e_ne {fu : Nat} {s : z_M} {v n : Int} : fX11_needExisting fu s 1 v n = if 0 ≤ v ∧ v < n then some (vN, s) else some (vX 0, z_up s 1 14 (z_w (s 1 14 + 1))) := by
  have ej : fX11_needExisting_J9 fu s 1 = some (vX 0, z_up s 1 14 (z_w (s 1 14 + 1))) := by
    show (if z_ob 1 11 then (if z_ob 1 11 then (some (vX 0, z_up s 1 14 (z_w (s 1 14 + 1))) : z_O) else none) else none) = _
    rw [if_pos (by decide +kernel), if_pos (by decide +kernel)]
  unfold fX11_needExisting
  by_cases h1 : v < 0
  · rw [if_pos h1, if_neg (by omega), ej]
  · rw [if_neg h1]
    by_cases h2 : v < n
    · rw [if_pos h2, if_pos ⟨by omega, h2⟩]
    · rw [if_neg h2, if_neg (by omega), ej]
theorem T_nw {P : z_V → z_M → Prop} {fu : Nat} {s : z_M} {v lo hi : Int} {f : z_M → z_O} (kx : z_T (some (vX 1, z_up s 1 15 (z_w (s 1 15 + 1)))) P) (kk : lo ≤ v → v ≤ hi → z_T (f s) P) : z_T (z_bN (fX11_needWithin fu s 1 v lo hi) f) P := by
  rw [e_nw]
  by_cases h : lo ≤ v ∧ v ≤ hi
  · rw [if_pos h]; exact kk h.1 h.2
  · rw [if_neg h]; exact kx
theorem T_ne {P : z_V → z_M → Prop} {fu : Nat} {s : z_M} {v n : Int} {f : z_M → z_O} (kx : z_T (some (vX 0, z_up s 1 14 (z_w (s 1 14 + 1)))) P) (kk : 0 ≤ v → v < n → z_T (f s) P) : z_T (z_bN (fX11_needExisting fu s 1 v n) f) P := by
  rw [e_ne]
  by_cases h : 0 ≤ v ∧ v < n
  · rw [if_pos h]; exact kk h.1 h.2
  · rw [if_neg h]; exact kx
theorem z_rgb {s : z_M} {k i c l u : Int} (hc : z_gr k 0 = c) (hb : ∀ j, z_bd c j = (l, u)) (h0 : l ≤ 0 ∧ 0 ≤ u) (ci : z_CI s) : l ≤ z_rg s k i ∧ z_rg s k i ≤ u := by
  unfold z_rg
  by_cases q : 0 ≤ i ∧ i < z_ln k
  · rw [if_pos q, hc]; exact CI_b ci (hb i)
  · rw [if_neg q]; exact h0
theorem T_copy {P : z_V → z_M → Prop} {fu : Nat} {s : z_M} {k k2 n c c2 l u : Int} {f : z_M → z_O} (hfu : 8589934592 ≤ fu) (hr : z_rw k) (hr2 : z_rw k2) (hc : z_gr k 0 = c) (hc2 : z_gr k2 0 = c2) (hne : c ≠ c2) (hn : n ≤ 2147483647) (hb : ∀ j, z_bd c j = (l, u)) (hb2 : ∀ j, z_bd c2 j = (l, u)) (h0 : l ≤ 0) (h1 : 0 ≤ u) (ci : z_CI s) (kk : ∀ s' : z_M, s' = z_cp s k k2 n → z_CI s' → (∀ a b : Int, a ≠ c → s' a b = s a b) → z_T (f s') P) : z_T (z_bN (fX7_copyFrom fu s k k2 n) f) P := by
  refine T_bN (T_of (e_copy hfu hr hr2 (by rw [hc, hc2]; exact hne) hn) (T_rN ?_))
  refine kk _ rfl ?_ (fun a b h => if_neg fun q => h (q.1.trans hc))
  intro a b
  unfold z_cp
  by_cases q : a = z_gr k 0 ∧ 0 ≤ b ∧ b < n ∧ b < z_ln k
  · rw [if_pos q, q.1, hc, hb b]; exact z_rgb hc2 hb2 ⟨h0, h1⟩ ci
  · rw [if_neg q]; exact ci a b
theorem T_lcopy {P : z_V → z_M → Prop} {fu : Nat} {s : z_M} {k k2 n c c2 l u : Int} {f : z_M → z_O} (hfu : 8589934592 ≤ fu) (hr : z_lr k) (hr2 : z_lr k2) (hc : z_gr k 0 = c) (hc2 : z_gr k2 0 = c2) (hne : c ≠ c2) (hn : n ≤ 2147483647) (hb : ∀ j, z_bd c j = (l, u)) (hb2 : ∀ j, z_bd c2 j = (l, u)) (h0 : l ≤ 0) (h1 : 0 ≤ u) (ci : z_CI s) (kk : ∀ s' : z_M, s' = z_cp s k k2 n → z_CI s' → (∀ a b : Int, a ≠ c → s' a b = s a b) → z_T (f s') P) : z_T (z_bN (fX4_copyFrom fu s k k2 n) f) P := by
  refine T_bN (T_of (e_lcopy hfu hr hr2 (by rw [hc, hc2]; exact hne) hn) (T_rN ?_))
  refine kk _ rfl ?_ (fun a b h => if_neg fun q => h (q.1.trans hc))
  intro a b
  unfold z_cp
  by_cases q : a = z_gr k 0 ∧ 0 ≤ b ∧ b < n ∧ b < z_ln k
  · rw [if_pos q, q.1, hc, hb b]; exact z_rgb hc2 hb2 ⟨h0, h1⟩ ci
  · rw [if_neg q]; exact ci a b
theorem T_close {P : z_V → z_M → Prop} {fu : Nat} {s : z_M} {k fr t n c l u : Int} {f : z_M → z_O} (hfu : 8589934592 ≤ fu) (hr : z_rw k) (hc : z_gr k 0 = c) (hf : 0 ≤ fr) (hft : fr ≤ t) (hn : n ≤ 1000000) (hb : ∀ j, z_bd c j = (l, u)) (h0 : l ≤ 0 ∧ 0 ≤ u) (ci : z_CI s) (kk : ∀ s' : z_M, s' = z_cs s k fr t n → z_CI s' → (∀ a b : Int, a ≠ c → s' a b = s a b) → z_T (f s') P) : z_T (z_bN (fX7_close fu s k fr t n) f) P := by
  refine T_bN (T_of (e_close hfu hr hf hft hn) (T_rN ?_))
  refine kk _ rfl ?_ (fun a b h => if_neg fun q => h (q.1.trans hc))
  intro a b
  unfold z_cs
  by_cases q : a = z_gr k 0 ∧ fr ≤ b ∧ b < fr + (n - t) ∧ b < z_ln k
  · rw [if_pos q, q.1, hc, hb b]; exact z_rgb hc hb h0 ci
  · rw [if_neg q]; exact ci a b
theorem T_lclose {P : z_V → z_M → Prop} {fu : Nat} {s : z_M} {k fr t n c l u : Int} {f : z_M → z_O} (hfu : 8589934592 ≤ fu) (hr : z_lr k) (hc : z_gr k 0 = c) (hf : 0 ≤ fr) (hft : fr ≤ t) (hn : n ≤ 1000000) (hb : ∀ j, z_bd c j = (l, u)) (h0 : l ≤ 0 ∧ 0 ≤ u) (ci : z_CI s) (kk : ∀ s' : z_M, s' = z_cs s k fr t n → z_CI s' → (∀ a b : Int, a ≠ c → s' a b = s a b) → z_T (f s') P) : z_T (z_bN (fX4_close fu s k fr t n) f) P := by
  refine T_bN (T_of (e_lclose hfu hr hf hft hn) (T_rN ?_))
  refine kk _ rfl ?_ (fun a b h => if_neg fun q => h (q.1.trans hc))
  intro a b
  unfold z_cs
  by_cases q : a = z_gr k 0 ∧ fr ≤ b ∧ b < fr + (n - t) ∧ b < z_ln k
  · rw [if_pos q, q.1, hc, hb b]; exact z_rgb hc hb h0 ci
  · rw [if_neg q]; exact ci a b
theorem z_wr {e x : Int} (h : z_w e = x) : -2147483648 ≤ x ∧ x ≤ 2147483647 := (z_wb h).1
theorem z_wlr {e x : Int} (h : z_wl e = x) : -9223372036854775808 ≤ x ∧ x ≤ 9223372036854775807 := (z_wlb h).1
theorem z_wq {e x : Int} (h : z_w e = x) : ∃ q, x = e - 4294967296 * q := ⟨(e + 2147483648) / 4294967296, by unfold z_w at h; omega⟩
/-- the units' signs lie among the first m, in their order -/
def z_U (s : z_M) (m : Int) : Prop := (∀ u : Int, 0 ≤ u → u < s 191 16 → 0 ≤ s 195 u ∧ 0 ≤ s 197 u ∧ s 195 u + s 197 u ≤ m) ∧ ∀ u v : Int, 0 ≤ u → u ≤ v → v < s 191 16 → s 195 u ≤ s 195 v
theorem z_U.to {s s' : z_M} {m : Int} (h : z_U s m) (e1 : s' 191 16 = s 191 16) (e3 : ∀ b, s' 195 b = s 195 b) (e4 : ∀ b, s' 197 b = s 197 b) : z_U s' m := by
  refine ⟨fun u h0 h1 => ?_, fun u v h0 h1 h2 => ?_⟩
  · rw [e1] at h1
    rw [e3, e4]; exact h.1 u h0 h1
  · rw [e1] at h2
    rw [e3, e3]; exact h.2 u v h0 h1 h2
theorem z_U.fr {s s' : z_M} (h : z_U s (s 6 6)) (e1 : s' 191 16 = s 191 16) (e2 : s' 6 6 = s 6 6) (e3 : ∀ b, s' 195 b = s 195 b) (e4 : ∀ b, s' 197 b = s 197 b) : z_U s' (s' 6 6) := by
  rw [e2]; exact h.to e1 e3 e4
/-- one sign more for the last unit -/
theorem z_U.add {s s' : z_M} {m i : Int} (h : z_U s m) (hm : 0 ≤ m ∧ m ≤ 1000) (e : s' = z_rp s 196 i (z_w (z_rg s 196 i + 1))) : z_U s' (m + 1) := by
  have hc : z_gr 196 0 = 197 := by decide +kernel
  have hl : z_ln 196 = 200 := by decide +kernel
  have e1 : s' 191 16 = s 191 16 := by rw [e]; exact z_rp_f (by rw [hc]; decide)
  have e3 : ∀ u, s' 195 u = s 195 u := fun u => by rw [e]; exact z_rp_f (by rw [hc]; decide)
  refine ⟨fun u h0 h1 => ?_, fun u v h0 h1 h2 => ?_⟩
  · rw [e1] at h1
    obtain ⟨g1, g2, g3⟩ := h.1 u h0 h1
    rw [e3]
    by_cases q : u = i
    · subst q
      by_cases r : u < 200
      · have e4 : s' 197 u = z_w (s 197 u + 1) := by
          rw [e, z_rp_in ⟨h0, by rw [hl]; exact r⟩, hc, z_up_s, z_rg_in ⟨h0, by rw [hl]; exact r⟩, hc]
        have w := z_wb (rfl : z_w (s 197 u + 1) = z_w (s 197 u + 1))
        rw [e4]; omega
      · have e4 : s' = s := by rw [e]; exact z_rp_out (by rw [hl]; omega)
        rw [e4]; omega
    · have e4 : s' 197 u = s 197 u := by rw [e]; exact z_rp_j q
      rw [e4]; omega
  · rw [e1] at h2
    rw [e3, e3]; exact h.2 u v h0 h1 h2
/-- a new unit -/
theorem z_U.new {s s1 s2 s' : z_M} {m n : Int} (h : z_U s m) (hn : s 191 16 = n) (hr : 0 ≤ n ∧ n < 200) (hm : 0 ≤ m) (e1 : s1 = z_rp s 194 n m) (e2 : s2 = z_rp s1 196 n 0) (e3 : ∀ a b : Int, a ≠ 191 → s' a b = s2 a b) (e4 : s' 191 16 = n + 1) : z_U s' m := by
  have hc : z_gr 196 0 = 197 := by decide +kernel
  have hl : z_ln 196 = 200 := by decide +kernel
  have hc1 : z_gr 194 0 = 195 := by decide +kernel
  have hl1 : z_ln 194 = 200 := by decide +kernel
  have a1 : s' 195 n = m := by
    rw [e3 195 n (by decide), e2, z_rp_f (by rw [hc]; decide), e1, z_rp_in ⟨hr.1, by rw [hl1]; omega⟩, hc1, z_up_s]
  have a2 : s' 197 n = 0 := by
    rw [e3 197 n (by decide), e2, z_rp_in ⟨hr.1, by rw [hl]; omega⟩, hc, z_up_s]
  have b1 : ∀ u, u ≠ n → s' 195 u = s 195 u := fun u q => by
    rw [e3 195 u (by decide), e2, z_rp_f (by rw [hc]; decide), e1, z_rp_j q]
  have b2 : ∀ u, u ≠ n → s' 197 u = s 197 u := fun u q => by
    rw [e3 197 u (by decide), e2, z_rp_j q, e1, z_rp_f (by rw [hc1]; decide)]
  refine ⟨fun u h0 h1 => ?_, fun u v h0 h1 h2 => ?_⟩
  · rw [e4] at h1
    by_cases q : u = n
    · rw [q, a1, a2]; omega
    · rw [b1 u q, b2 u q]
      exact h.1 u h0 (by rw [hn]; omega)
  · rw [e4] at h2
    by_cases q : v = n
    · rw [q, a1]
      by_cases r : u = n
      · rw [r, a1]; omega
      · rw [b1 u r]
        have := h.1 u h0 (by rw [hn]; omega)
        omega
    · rw [b1 v q, b1 u (by omega)]
      exact h.2 u v h0 h1 (by rw [hn]; omega)
theorem z_U0 {s : z_M} {m : Int} (h : s 191 16 = 0) : z_U s m := ⟨fun u h0 h1 => by omega, fun u v h0 h1 h2 => by omega⟩
/-- what is kept of the units stands for the text, or is not fresh -/
def z_V16 (s : z_M) : Prop := s 1 16 = 0 ∨ z_U s (s 6 6)
theorem z_V16.fr {s s' : z_M} (h : z_V16 s) (e0 : s' 1 16 = s 1 16) (e1 : s' 191 16 = s 191 16) (e2 : s' 6 6 = s 6 6) (e3 : ∀ b, s' 195 b = s 195 b) (e4 : ∀ b, s' 197 b = s 197 b) : z_V16 s' := by
  rcases h with h | h
  · exact Or.inl (e0.trans h)
  · exact Or.inr (h.fr e1 e2 e3 e4)
theorem z_ixl {k i : Int} {n c : Nat} (h : z_ob k c ∧ (z_sh k).2 = n) (h0 : 0 ≤ i) (h1 : i < n) : z_ix k c i := ⟨h.1, h0, by rw [h.2]; exact h1⟩
theorem z_ixs {k i : Int} {n c : Nat} (h : z_sh k = (c, n)) (hk : 1 ≤ k ∧ k ≤ 7658) (h0 : 0 ≤ i) (h1 : i < n) : z_ix k c i := ⟨⟨hk.1, hk.2, by rw [h]⟩, h0, by rw [h]; exact h1⟩
/-- 0 may be written anywhere -/
theorem CI_up0 {s : z_M} (c : z_CI s) {k j : Int} : z_CI (z_up s k j 0) := CI_up (l := (z_bd k j).1) (u := (z_bd k j).2) c rfl (z_bd0 k j)
theorem bdg {c j : Int} (h : 391 ≤ c ∧ c ≤ 404) (hj : 0 ≤ j ∧ j ≤ 199) : z_bd c j = (0, j) := by
  unfold z_bd
  repeat (first | rw [if_neg (by omega)] | rw [if_pos (by omega)])
theorem CI_w {s : z_M} (c : z_CI s) {k j : Int} (h : (z_sh k).1 ≠ 101) : -2147483648 ≤ s k j ∧ s k j ≤ 2147483647 := by
  have q := c k j
  have w := z_bd_ind (Q := fun p => -2147483648 ≤ p.1 ∧ p.2 ≤ 2147483647) k j (fun l u _ _ h3 h4 => ⟨h3, h4⟩) (fun q => absurd q h)
  omega
