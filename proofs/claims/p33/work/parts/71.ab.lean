/-! LONG of a line, by units alone: D 0 kinds, D 1 widths, D 2 groups, D 3, D 4 letters, D 5 0 whether points hang -/
theorem y_sum_s {f : Int → Int} {a : Int} {n : Nat} : y_sum f a (n + 1) = y_sum f a n + f (a + n) := rfl
theorem y_sum_0 {f : Int → Int} {a : Int} {n : Nat} (h : ∀ i : Int, a ≤ i → i < a + n → f i = 0) : y_sum f a n = 0 := by
  induction n with
  | zero => rfl
  | succ n ih => rw [y_sum_s, ih (fun i p q => h i p (by omega)), h _ (by omega) (by omega)]; rfl
/-- i goes on with the block of i - 1 -/
abbrev y_ct (D : z_M) (a i : Int) : Prop := a < i ∧ D 0 i = 7 ∧ D 0 (i - 1) = 7 ∧ D 2 (i - 1) = D 2 i
def y_Ee (D : z_M) (a b : Int) : Nat → Int → Int
  | 0, u => u
  | m + 1, u => if u < b ∧ y_ct D a (u + 1) then y_Ee D a b m (u + 1) else u
def y_e (D : z_M) (a b u : Int) : Int := y_Ee D a b (b - u).toNat u
def y_S (D : z_M) (a : Int) : Nat → Int → Int
  | 0, u => u
  | m + 1, u => if y_ct D a u then y_S D a m (u - 1) else u
def y_s (D : z_M) (a u : Int) : Int := y_S D a (u - a).toNat u
/-- over, of letters and a width -/
def y_o3 (r l w : Int) : Int := z_max 0 (6 * z_max r l - w)
def y_ov (D : z_M) (a b u : Int) : Int := y_o3 (y_sum (D 3) u (y_e D a b u - u + 1).toNat) (y_sum (D 4) u (y_e D a b u - u + 1).toNat) (y_sum (D 1) u (y_e D a b u - u + 1).toNat)
abbrev y_sa (D : z_M) (a u : Int) : Prop := D 0 u = 7 ∧ ¬ y_ct D a u
abbrev y_ea (D : z_M) (a b u : Int) : Prop := D 0 u = 7 ∧ ¬ (u < b ∧ y_ct D a (u + 1))
def y_wa (D : z_M) (a b u : Int) : Int := if y_sa D a u then y_ov D a b u / 2 else 0
def y_wb (D : z_M) (a b u : Int) : Int := if y_ea D a b u then y_ov D a b (y_s D a u) - y_ov D a b (y_s D a u) / 2 else 0
/-- blanks at both ends are left out -/
def y_ik (K : Int → Int) (b : Int) : Nat → Int → Int
  | 0, i => i
  | m + 1, i => if i ≤ b then (if K i = 6 then y_ik K b m (i + 1) else i) else i
def y_lk (K : Int → Int) (f : Int) : Nat → Int → Int
  | 0, j => j
  | m + 1, j => if f ≤ j then (if K j = 6 then y_lk K f m (j - 1) else j) else j
def y_fr (D : z_M) (a b : Int) : Int := y_ik (D 0) b (b + 1 - a).toNat a
def y_to (D : z_M) (a b : Int) : Int := y_lk (D 0) (y_fr D a b) (b + 1 - y_fr D a b).toNat b
def y_hg (D : z_M) (a b : Int) : Int := if D 5 0 = 1 ∧ y_fr D a b ≤ b ∧ D 0 (y_to D a b) = 3 then 1 else 0
def y_w (D : z_M) (a b u : Int) : Int := if u < y_fr D a b ∨ y_to D a b < u then 0 else if y_hg D a b = 1 ∧ u = y_to D a b then 0 else D 1 u
def y_sA (D : z_M) (a b u : Int) : Int := if D 0 u = 4 ∧ y_fr D a b < u ∧ D 0 (u - 1) ≠ 3 ∧ D 0 (u - 1) ≠ 5 ∧ D 0 (u - 1) ≠ 4 then 6 else 0
def y_sB (D : z_M) (a b u : Int) : Int := if (D 0 u = 3 ∨ D 0 u = 5) ∧ u < y_to D a b ∧ D 0 (u + 1) ≠ 3 ∧ D 0 (u + 1) ≠ 5 then 6 else 0
def y_lA (D : z_M) (a b ln v : Int) : Int := if D 0 v = 0 ∨ D 0 v = 1 ∨ D 0 v = 2 then ln else if D 0 v = 6 then y_w D a b v else y_sB D a b v
def y_lB (D : z_M) (a b ln v : Int) : Int := if D 0 v = 0 ∨ D 0 v = 1 ∨ D 0 v = 2 then ln else if D 0 v = 6 then y_w D a b v else y_sA D a b v
def y_mA (D : z_M) (a b ln u : Int) : Int := if u = a then 0 else if a ≤ u - 2 ∧ D 0 (u - 1) ≠ 7 ∧ 0 < y_wb D a b (u - 2) then y_lA D a b ln (u - 1) / 2 else y_lA D a b ln (u - 1)
def y_mB (D : z_M) (a b ln u : Int) : Int := if u = b then 0 else if u + 2 ≤ b ∧ D 0 (u + 1) ≠ 7 ∧ 0 < y_wa D a b (u + 2) then y_lB D a b ln (u + 1) / 2 else y_lB D a b ln (u + 1)
def y_pA (D : z_M) (a b ln u : Int) : Int := if 0 < y_wa D a b u then z_max 0 (y_wa D a b u - y_mA D a b ln u) else 0
def y_pB (D : z_M) (a b ln u : Int) : Int := if 0 < y_wb D a b u then z_max 0 (y_wb D a b u - y_mB D a b ln u) else 0
def y_one2 (D : z_M) (a b ln u : Int) : Int := y_w D a b u + y_sA D a b u + y_sB D a b u + y_pA D a b ln u + y_pB D a b ln u
/-- LONG of the units from a to b by LEND ln -/
def y_LG (D : z_M) (a b ln : Int) : Int := y_sum (y_one2 D a b ln) a (b + 1 - a).toNat
/-- what units are: n of them -/
def y_DF (D : z_M) (n : Int) : Prop := ∀ u : Int, 0 ≤ u → u < n → (0 ≤ D 0 u ∧ D 0 u ≤ 7) ∧ (0 ≤ D 1 u ∧ D 1 u ≤ 2400) ∧ (D 0 u = 6 → D 1 u = 4) ∧ (D 0 u = 7 → D 1 u % 6 = 0 ∧ D 2 u ≠ -1) ∧ (0 ≤ D 3 u ∧ D 3 u ≤ 15) ∧ (0 ≤ D 4 u ∧ D 4 u ≤ 15)
theorem y_E_e {D : z_M} {a b u : Int} {m : Nat} : y_Ee D a b (m + 1) u = if u < b ∧ y_ct D a (u + 1) then y_Ee D a b m (u + 1) else u := rfl
theorem y_S_e {D : z_M} {a u : Int} {m : Nat} : y_S D a (m + 1) u = if y_ct D a u then y_S D a m (u - 1) else u := rfl
theorem y_ik_e {K : Int → Int} {b i : Int} {m : Nat} : y_ik K b (m + 1) i = if i ≤ b then (if K i = 6 then y_ik K b m (i + 1) else i) else i := rfl
theorem y_lk_e {K : Int → Int} {f j : Int} {m : Nat} : y_lk K f (m + 1) j = if f ≤ j then (if K j = 6 then y_lk K f m (j - 1) else j) else j := rfl
/-- the end of u's block: a step -/
theorem y_e_s {D : z_M} {a b u : Int} (h : u < b ∧ y_ct D a (u + 1)) : y_e D a b u = y_e D a b (u + 1) := by
  unfold y_e
  obtain ⟨d, hd⟩ : ∃ d, (b - u).toNat = d + 1 := ⟨(b - u).toNat - 1, by omega⟩
  rw [hd, y_E_e, if_pos h, show (b - (u + 1)).toNat = d by omega]
theorem y_e_n {D : z_M} {a b u : Int} (h : ¬ (u < b ∧ y_ct D a (u + 1))) : y_e D a b u = u := by
  unfold y_e
  cases (b - u).toNat with
  | zero => rfl
  | succ d => rw [y_E_e, if_neg h]
theorem y_s_s {D : z_M} {a u : Int} (h : y_ct D a u) : y_s D a u = y_s D a (u - 1) := by
  unfold y_s
  obtain ⟨d, hd⟩ : ∃ d, (u - a).toNat = d + 1 := ⟨(u - a).toNat - 1, by have := h.1; omega⟩
  rw [hd, y_S_e, if_pos h, show (u - 1 - a).toNat = d by omega]
theorem y_s_n {D : z_M} {a u : Int} (h : ¬ y_ct D a u) : y_s D a u = u := by
  unfold y_s
  cases (u - a).toNat with
  | zero => rfl
  | succ d => rw [y_S_e, if_neg h]
/-- a block from f to z: all of it goes on, nothing behind it does -/
def y_Bl (D : z_M) (a b f z : Int) : Prop := a ≤ f ∧ f ≤ z ∧ z ≤ b ∧ y_sa D a f ∧ (∀ i : Int, f < i → i ≤ z → y_ct D a i) ∧ ¬ (z < b ∧ y_ct D a (z + 1))
theorem y_Bl.k {D : z_M} {a b f z : Int} (h : y_Bl D a b f z) {i : Int} (h0 : f ≤ i) (h1 : i ≤ z) : D 0 i = 7 := by
  by_cases q : i = f
  · rw [q]; exact h.2.2.2.1.1
  · exact (h.2.2.2.2.1 i (by omega) h1).2.1
theorem y_Bl.e {D : z_M} {a b f z : Int} (h : y_Bl D a b f z) : ∀ (m : Nat) (i : Int), f ≤ i → (m : Int) = z - i → y_e D a b i = z := by
  intro m
  induction m with
  | zero =>
    intro i h0 h1
    have e : i = z := by omega
    subst e
    exact y_e_n h.2.2.2.2.2
  | succ m ih =>
    intro i h0 h1
    rw [y_e_s ⟨by have := h.2.2.1; omega, h.2.2.2.2.1 (i + 1) (by omega) (by omega)⟩]
    exact ih (i + 1) (by omega) (by omega)
theorem y_Bl.s {D : z_M} {a b f z : Int} (h : y_Bl D a b f z) : ∀ (m : Nat) (i : Int), i ≤ z → (m : Int) = i - f → y_s D a i = f := by
  intro m
  induction m with
  | zero =>
    intro i h0 h1
    have e : i = f := by omega
    subst e
    exact y_s_n h.2.2.2.1.2
  | succ m ih =>
    intro i h0 h1
    rw [y_s_s (h.2.2.2.2.1 i (by omega) h0)]
    exact ih (i - 1) (by omega) (by omega)
theorem y_Bl.sa {D : z_M} {a b f z : Int} (h : y_Bl D a b f z) {i : Int} (h0 : f ≤ i) (h1 : i ≤ z) : y_sa D a i ↔ i = f := by
  constructor
  · intro q
    by_cases w : i = f
    · exact w
    · exact absurd (h.2.2.2.2.1 i (by omega) h1) q.2
  · rintro rfl
    exact h.2.2.2.1
theorem y_Bl.ea {D : z_M} {a b f z : Int} (h : y_Bl D a b f z) {i : Int} (h0 : f ≤ i) (h1 : i ≤ z) : y_ea D a b i ↔ i = z := by
  constructor
  · intro q
    by_cases w : i = z
    · exact w
    · exact absurd ⟨by have := h.2.2.1; omega, h.2.2.2.2.1 (i + 1) (by omega) (by omega)⟩ q.2
  · rintro rfl
    exact ⟨h.k h0 h1, h.2.2.2.2.2⟩
/-- the parts of a block that its rows tell -/
def y_BO (D : z_M) (f z : Int) : Int := y_o3 (y_sum (D 3) f (z - f + 1).toNat) (y_sum (D 4) f (z - f + 1).toNat) (y_sum (D 1) f (z - f + 1).toNat)
theorem y_Bl.ov {D : z_M} {a b f z : Int} (h : y_Bl D a b f z) : y_ov D a b f = y_BO D f z := by
  have e := h.e (z - f).toNat f (Int.le_refl f) (by have := h.2.1; omega)
  unfold y_ov y_BO
  rw [e]
theorem y_Bl.wa {D : z_M} {a b f z : Int} (h : y_Bl D a b f z) {i : Int} (h0 : f ≤ i) (h1 : i ≤ z) : y_wa D a b i = if i = f then y_BO D f z / 2 else 0 := by
  unfold y_wa
  by_cases q : i = f
  · rw [if_pos ((h.sa h0 h1).mpr q), if_pos q, q, h.ov]
  · rw [if_neg (fun x => q ((h.sa h0 h1).mp x)), if_neg q]
theorem y_Bl.wb {D : z_M} {a b f z : Int} (h : y_Bl D a b f z) {i : Int} (h0 : f ≤ i) (h1 : i ≤ z) : y_wb D a b i = if i = z then y_BO D f z - y_BO D f z / 2 else 0 := by
  unfold y_wb
  by_cases q : i = z
  · rw [if_pos ((h.ea h0 h1).mpr q), if_pos q, h.s (i - f).toNat i h1 (by omega), h.ov]
  · rw [if_neg (fun x => q ((h.ea h0 h1).mp x)), if_neg q]
theorem y_wa_n {D : z_M} {a b u : Int} (h : D 0 u ≠ 7) : y_wa D a b u = 0 := by
  unfold y_wa; rw [if_neg (fun q => h q.1)]
theorem y_wb_n {D : z_M} {a b u : Int} (h : D 0 u ≠ 7) : y_wb D a b u = 0 := by
  unfold y_wb; rw [if_neg (fun q => h q.1)]
theorem y_sum_m6 {f : Int → Int} {a : Int} : ∀ n : Nat, (∀ i : Int, a ≤ i → i < a + n → f i % 6 = 0) → y_sum f a n % 6 = 0 := by
  intro n
  induction n with
  | zero => intro _; rfl
  | succ n ih =>
    intro h
    have h1 := ih (fun i p q => h i p (by omega))
    have h2 := h (a + n) (by omega) (by omega)
    rw [y_sum_s]; omega
theorem y_sum_r {f : Int → Int} {a m : Int} : ∀ n : Nat, (∀ i : Int, a ≤ i → i < a + n → 0 ≤ f i ∧ f i ≤ m) → 0 ≤ y_sum f a n ∧ y_sum f a n ≤ m * n := by
  intro n
  induction n with
  | zero => intro _; exact ⟨Int.le_refl 0, by rw [show m * ((0 : Nat) : Int) = 0 from Int.mul_zero m]; exact Int.le_refl 0⟩
  | succ n ih =>
    intro h
    have h1 := ih (fun i p q => h i p (by omega))
    have h2 := h (a + n) (by omega) (by omega)
    rw [y_sum_s, show ((n + 1 : Nat) : Int) = (n : Int) + 1 by omega, Int.mul_add, Int.mul_one]
    omega
/-- over is 0, or 6 at least -/
theorem y_BO_b {D : z_M} {n a b f z : Int} (d : y_DF D n) (h : y_Bl D a b f z) (ha : 0 ≤ a) (hb : b < n) (hn : n ≤ 200) : y_BO D f z % 6 = 0 ∧ 0 ≤ y_BO D f z ∧ y_BO D f z ≤ 18000 := by
  have l := h.2.1
  have q : ∀ i : Int, f ≤ i → i < f + ((z - f + 1).toNat : Nat) → 0 ≤ i ∧ i < n ∧ D 0 i = 7 := fun i p q => ⟨by have := h.1; omega, by have := h.2.2.1; omega, h.k p (by omega)⟩
  have hm : ((z - f + 1).toNat : Int) ≤ 200 := by have := h.1; have := h.2.2.1; omega
  have s1 := y_sum_m6 (f := D 1) (a := f) (z - f + 1).toNat (fun i p r => ((d i (q i p r).1 (q i p r).2.1).2.2.2.1 (q i p r).2.2).1)
  have r1 := y_sum_r (f := D 1) (a := f) (m := 2400) (z - f + 1).toNat (fun i p r => (d i (q i p r).1 (q i p r).2.1).2.1)
  have r3 := y_sum_r (f := D 3) (a := f) (m := 15) (z - f + 1).toNat (fun i p r => (d i (q i p r).1 (q i p r).2.1).2.2.2.2.1)
  have r4 := y_sum_r (f := D 4) (a := f) (m := 15) (z - f + 1).toNat (fun i p r => (d i (q i p r).1 (q i p r).2.1).2.2.2.2.2)
  unfold y_BO y_o3
  generalize y_sum (D 1) f (z - f + 1).toNat = A at *
  generalize y_sum (D 3) f (z - f + 1).toNat = B at *
  generalize y_sum (D 4) f (z - f + 1).toNat = C at *
  have m1 := z_maxb B C
  have m2 := z_maxb 0 (6 * z_max B C - A)
  omega
