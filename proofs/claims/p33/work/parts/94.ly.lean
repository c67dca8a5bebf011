/-! the layout of lines, by units alone: gaps, rests, places; blocks by number. Q 0 units, Q 1 LEND, Q 2 LENGTH, Q 3 ALIGN -/
theorem T_eq {X : z_O} {x : z_V} {s : z_M} (h : z_T X (fun v s' => v = x ∧ s' = s)) : X = some (x, s) := by
  obtain ⟨v, s', e, rfl, rfl⟩ := h
  exact e
/-- a gap behind u -/
def y_gq (D : z_M) (E : Int → Int) (a b u : Int) : Int := if (y_fr D a b ≤ u ∧ u < y_to D a b) ∧ E u = 1 ∧ ¬ (D 0 u = 7 ∧ D 0 (u + 1) = 7 ∧ D 2 u = D 2 (u + 1)) then 1 else 0
theorem y_gq0 {D : z_M} {E : Int → Int} {a b u : Int} (h : ¬ ((y_fr D a b ≤ u ∧ u < y_to D a b) ∧ E u = 1 ∧ ¬ (D 0 u = 7 ∧ D 0 (u + 1) = 7 ∧ D 2 u = D 2 (u + 1)))) : 0 = y_gq D E a b u := (if_neg h).symm
theorem y_gq1 {D : z_M} {E : Int → Int} {a b u : Int} (h : (y_fr D a b ≤ u ∧ u < y_to D a b) ∧ E u = 1 ∧ ¬ (D 0 u = 7 ∧ D 0 (u + 1) = 7 ∧ D 2 u = D 2 (u + 1))) : 1 = y_gq D E a b u := (if_pos h).symm
theorem y_gq01 {D : z_M} {E : Int → Int} {a b u : Int} : y_gq D E a b u = 0 ∨ y_gq D E a b u = 1 := by
  unfold y_gq
  by_cases h : (y_fr D a b ≤ u ∧ u < y_to D a b) ∧ E u = 1 ∧ ¬ (D 0 u = 7 ∧ D 0 (u + 1) = 7 ∧ D 2 u = D 2 (u + 1))
  · rw [if_pos h]; exact Or.inr rfl
  · rw [if_neg h]; exact Or.inl rfl
/-- sums from a on to u -/
def y_su (f : Int → Int) (a u : Int) : Int := y_sum f a (u - a).toNat
theorem y_su0 {f : Int → Int} {a : Int} : y_su f a a = 0 := by
  unfold y_su; rw [show a - a = 0 by omega]; rfl
theorem y_suS {f : Int → Int} {a u : Int} (h : a ≤ u) : y_su f a (u + 1) = y_su f a u + f u := by
  unfold y_su
  rw [show (u + 1 - a).toNat = (u - a).toNat + 1 by omega, y_sum_s, show a + (((u - a).toNat : Nat) : Int) = u by omega]
theorem y_su_r {f : Int → Int} {a u m : Int} (hm : 0 ≤ m) (h : ∀ i : Int, a ≤ i → i < u → 0 ≤ f i ∧ f i ≤ m) (q : a ≤ u) (k : u - a ≤ 200) : 0 ≤ y_su f a u ∧ y_su f a u ≤ m * 200 := by
  have r := y_sum_r (f := f) (a := a) (m := m) (u - a).toNat (fun i p r => h i p (by omega))
  refine ⟨r.1, Int.le_trans r.2 (Int.mul_le_mul_of_nonneg_left (by omega) hm)⟩
theorem y_su_pt {f : Int → Int} {a x y : Int} (h0 : a ≤ x) (h1 : x ≤ y) : y_su f a y = y_su f a x + y_su f x y := y_sum_pt h0 h1
theorem y_su_cg {f g : Int → Int} {a u : Int} (h : ∀ i : Int, a ≤ i → i < u → f i = g i) : y_su f a u = y_su g a u := y_sum_cg _ (fun i p q => h i p (by omega))
theorem y_su_z {f : Int → Int} {a u : Int} (h : ∀ i : Int, a ≤ i → i < u → f i = 0) : y_su f a u = 0 := y_sum_0 (fun i p q => h i p (by omega))
/-- how many gaps from a on ahead of u -/
def y_gn (D : z_M) (E : Int → Int) (a b u : Int) : Int := y_su (y_gq D E a b) a u
theorem y_gn_b {D : z_M} {E : Int → Int} {a b u : Int} (h : a ≤ u) : 0 ≤ y_gn D E a b u ∧ y_gn D E a b u ≤ u - a := by
  have r := y_sum_r (f := y_gq D E a b) (a := a) (m := 1) (u - a).toNat (fun i _ _ => by rcases y_gq01 (D := D) (E := E) (a := a) (b := b) (u := i) with q | q <;> omega)
  unfold y_gn y_su
  omega
theorem y_gn_le {D : z_M} {E : Int → Int} {a b u v : Int} (h : a ≤ u) (k : u ≤ v) : y_gn D E a b u ≤ y_gn D E a b v := by
  have r := y_sum_r (f := y_gq D E a b) (a := u) (m := 1) (v - u).toNat (fun i _ _ => by rcases y_gq01 (D := D) (E := E) (a := a) (b := b) (u := i) with q | q <;> omega)
  have e := y_su_pt (f := y_gq D E a b) h k
  unfold y_gn
  rw [e]
  unfold y_su at *
  omega
/-- the rest that gaps share -/
def y_rs (D : z_M) (Q : Int → Int) (a b : Int) : Int := if Q 3 = 1 ∧ 0 < Q 2 - y_LG D a b (Q 1) ∧ b < Q 0 - 1 then Q 2 - y_LG D a b (Q 1) else 0
/-- what is empty behind a gap -/
def y_xv (D : z_M) (E Q : Int → Int) (a b u : Int) : Int := if y_gq D E a b u = 1 then y_rs D Q a b / y_gn D E a b (b + 1) + (if y_gn D E a b u < y_rs D Q a b % y_gn D E a b (b + 1) then 1 else 0) else 0
/-- all of a unit -/
def y_s2t (D : z_M) (E Q : Int → Int) (a b u : Int) : Int := y_one2 D a b (Q 1) u + y_xv D E Q a b u
/-- where its room begins, where its first sign stands -/
def y_cu (D : z_M) (E Q : Int → Int) (a b u : Int) : Int := y_su (y_s2t D E Q a b) a u
def y_pl (D : z_M) (E Q : Int → Int) (a b u : Int) : Int := y_cu D E Q a b u + y_pA D a b (Q 1) u + y_sA D a b u
theorem y_rs_b {D : z_M} {Q : Int → Int} {a b : Int} (h : Q 2 ≤ 10000) (l : 0 ≤ y_LG D a b (Q 1)) : 0 ≤ y_rs D Q a b ∧ y_rs D Q a b ≤ 10000 := by
  unfold y_rs
  split <;> omega
theorem y_xv_b {D : z_M} {E Q : Int → Int} {a b u : Int} (h : Q 2 ≤ 10000) (l : 0 ≤ y_LG D a b (Q 1)) (hu : a ≤ u ∧ u ≤ b) : 0 ≤ y_xv D E Q a b u ∧ y_xv D E Q a b u ≤ 10001 := by
  have r := y_rs_b (D := D) (a := a) (b := b) h l
  unfold y_xv
  by_cases g : y_gq D E a b u = 1
  · rw [if_pos g]
    have n := y_gn_b (D := D) (E := E) (a := a) (b := b) (u := u) hu.1
    have e := y_suS (f := y_gq D E a b) hu.1
    have m := y_gn_le (D := D) (E := E) (a := a) (b := b) (u := u + 1) (v := b + 1) (by omega) (by omega)
    unfold y_gn at *
    generalize y_su (y_gq D E a b) a (b + 1) = G at *
    have G1 : 1 ≤ G := by omega
    have d0 : 0 ≤ y_rs D Q a b / G := Int.ediv_nonneg r.1 (by omega)
    have d1 : y_rs D Q a b / G ≤ y_rs D Q a b := Int.ediv_le_self _ r.1
    split <;> omega
  · rw [if_neg g]; decide
theorem y_cu_b {D : z_M} {E Q : Int → Int} {n a b u : Int} (d : y_DF D n) (hA : 0 ≤ a) (hB : b < n) (hn : n ≤ 200) (hl : 0 ≤ Q 1 ∧ Q 1 ≤ 6) (h : Q 2 ≤ 10000) (hu : a ≤ u ∧ u ≤ b + 1) : 0 ≤ y_cu D E Q a b u ∧ y_cu D E Q a b u ≤ 10000000 := by
  have lb := y_LG_b d hA hB hn hl
  have r := y_su_r (f := y_s2t D E Q a b) (a := a) (u := u) (m := 50000) (by decide) (fun i p q => by
    have o := y_one2_b (ln := Q 1) d hA hB hn (u := i) ⟨p, by omega⟩ hl
    have x := y_xv_b (D := D) (E := E) (Q := Q) (a := a) (b := b) (u := i) h lb.1 ⟨p, by omega⟩
    unfold y_s2t
    omega) hu.1 (by omega)
  unfold y_cu
  omega
theorem y_pl_b {D : z_M} {E Q : Int → Int} {n a b u : Int} (d : y_DF D n) (hA : 0 ≤ a) (hB : b < n) (hn : n ≤ 200) (hl : 0 ≤ Q 1 ∧ Q 1 ≤ 6) (h : Q 2 ≤ 10000) (hu : a ≤ u ∧ u ≤ b) : 0 ≤ y_pl D E Q a b u ∧ y_pl D E Q a b u ≤ 10010000 := by
  have c := y_cu_b (E := E) d hA hB hn hl h (u := u) ⟨hu.1, by omega⟩
  have p := y_pAB_r (ln := Q 1) d hA hB hn hu hl
  have s := y_sAB_b (D := D) (a := a) (b := b) (u := u)
  unfold y_pl
  omega
/-! blocks by number -/
/-- a block begins at v -/
def y_sdd (D : z_M) (a v : Int) : Int := if y_sa D a v then 1 else 0
theorem y_sd01 {D : z_M} {a v : Int} : (y_sdd D a v = 1 ∧ y_sa D a v) ∨ (y_sdd D a v = 0 ∧ ¬ y_sa D a v) := by
  unfold y_sdd
  by_cases h : y_sa D a v
  · rw [if_pos h]; exact Or.inl ⟨rfl, h⟩
  · rw [if_neg h]; exact Or.inr ⟨rfl, h⟩
/-- how many begin from a on ahead of u -/
def y_ns (D : z_M) (a u : Int) : Int := y_su (y_sdd D a) a u
theorem y_ns_b {D : z_M} {a u : Int} (h : a ≤ u) : 0 ≤ y_ns D a u ∧ y_ns D a u ≤ u - a := by
  have r := y_sum_r (f := y_sdd D a) (a := a) (m := 1) (u - a).toNat (fun i _ _ => by rcases y_sd01 (D := D) (a := a) (v := i) with q | q <;> omega)
  unfold y_ns y_su
  omega
theorem y_ns_le {D : z_M} {a u v : Int} (h : a ≤ u) (k : u ≤ v) : y_ns D a u ≤ y_ns D a v := by
  have r := y_sum_r (f := y_sdd D a) (a := u) (m := 1) (v - u).toNat (fun i _ _ => by rcases y_sd01 (D := D) (a := a) (v := i) with q | q <;> omega)
  have e := y_su_pt (f := y_sdd D a) h k
  unfold y_ns
  rw [e]
  unfold y_su at *
  omega
/-- of a line's blocks that begins with number k -/
theorem y_Bl.ns {D : z_M} {a b f z : Int} (h : y_Bl D a b f z) : y_ns D a (z + 1) = y_ns D a f + 1 := by
  have e1 := y_su_pt (f := y_sdd D a) (a := a) (x := f) (y := z + 1) h.1 (by have := h.2.1; omega)
  have e2 := y_su_pt (f := y_sdd D a) (a := f) (x := f + 1) (y := z + 1) (by omega) (by have := h.2.1; omega)
  have e3 := y_suS (f := y_sdd D a) (a := f) (u := f) (Int.le_refl f)
  have e0 := y_su0 (f := y_sdd D a) (a := f)
  have ez : y_su (y_sdd D a) (f + 1) (z + 1) = 0 := y_su_z (fun i p q => by
    unfold y_sdd
    rw [if_neg (fun w => w.2 (h.2.2.2.2.1 i (by omega) (by omega)))])
  have ef : y_sdd D a f = 1 := by unfold y_sdd; rw [if_pos h.2.2.2.1]
  unfold y_ns
  omega
theorem y_ns_n {D : z_M} {a x y : Int} (h0 : a ≤ x) (h1 : x ≤ y) (h : ∀ i : Int, x ≤ i → i < y → D 0 i ≠ 7) : y_ns D a y = y_ns D a x := by
  have e := y_su_pt (f := y_sdd D a) h0 h1
  have z : y_su (y_sdd D a) x y = 0 := y_su_z (fun i p q => by
    unfold y_sdd; rw [if_neg (fun w => h i p q w.1)])
  unfold y_ns
  omega
/-- the blocks of a trimmed line have the numbers that their beginnings have -/
theorem y_GI.nk {D s : z_M} {o A B c0 c : Int} (g : y_GI D s o (y_fr D A B) (y_to D A B) c0 c) (hAB : A ≤ B + 1) : ∀ (m : Nat) (k : Int), c0 ≤ k → k < c → (m : Int) = k - c0 → y_ns D A (s (o + 2) k) = k - c0 := by
  have ft := y_ft (D := D) hAB
  intro m
  induction m with
  | zero =>
    intro k h0 h1 e
    have ek : k = c0 := by omega
    subst ek
    have bl := (g.2.1 k h0 h1).1
    have b1 := bl.1
    have b2 := bl.2.1
    have b3 := bl.2.2.1
    rw [y_ns_n (D := D) (a := A) (x := A) (y := s (o + 2) k) (Int.le_refl _) (by omega) (fun i p q => ?_)]
    · unfold y_ns; rw [y_su0]; omega
    · by_cases w : i < y_fr D A B
      · rw [ft.2.2.1 i p w]; decide
      · exact g.2.2.2.2 i (by omega) (by rw [if_pos h1]; exact q)
  | succ m ih =>
    intro k h0 h1 e
    have hk := ih (k - 1) (by omega) (by omega) (by omega)
    have bl := (g.2.1 (k - 1) (by omega) (by omega)).1.up hAB
    have ns := bl.ns
    have l := g.2.2.1 (k - 1) (by omega) (by omega)
    rw [show k - 1 + 1 = k by omega] at l
    have b1 := bl.1
    have b2 := bl.2.1
    rw [y_ns_n (D := D) (a := A) (x := s (o + 4) (k - 1) + 1) (y := s (o + 2) k) (by omega) (by omega) (fun i p q => l.2 i (by omega) q)]
    omega
theorem y_GI.cnt {D s : z_M} {o A B c0 c : Int} (g : y_GI D s o (y_fr D A B) (y_to D A B) c0 c) (hAB : A ≤ B + 1) : c = c0 + y_ns D A (B + 1) := by
  have ft := y_ft (D := D) hAB
  by_cases z : c0 < c
  · have hk := g.nk hAB (c - 1 - c0).toNat (c - 1) (by omega) (by omega) (by omega)
    have bl := (g.2.1 (c - 1) (by omega) (by omega)).1.up hAB
    have ns := bl.ns
    have b1 := bl.1
    have b2 := bl.2.1
    have b3 := bl.2.2.1
    rw [y_ns_n (D := D) (a := A) (x := s (o + 4) (c - 1) + 1) (y := B + 1) (by omega) (by omega) (fun i p q => ?_)]
    · omega
    · by_cases w : i ≤ y_to D A B
      · exact g.2.2.2.1 z i (by omega) w
      · rw [ft.2.2.2.1 i (by omega) (by omega)]; decide
  · have g1 := g.1
    rw [y_ns_n (D := D) (a := A) (x := A) (y := B + 1) (Int.le_refl _) hAB (fun i p q => ?_)]
    · unfold y_ns; rw [y_su0]; omega
    · by_cases w0 : i < y_fr D A B
      · rw [ft.2.2.1 i p w0]; decide
      · by_cases w : i ≤ y_to D A B
        · exact g.2.2.2.2 i (by omega) (by rw [if_neg z]; exact w)
        · rw [ft.2.2.2.1 i (by omega) (by omega)]; decide
/-- a block that begins at u has the number of its beginning -/
theorem y_GI.at {D s : z_M} {o A B c0 c u : Int} (g : y_GI D s o (y_fr D A B) (y_to D A B) c0 c) (hAB : A ≤ B + 1) (hu : A ≤ u ∧ u ≤ B) (sa : y_sa D A u) : c0 + y_ns D A u < c ∧ s (o + 2) (c0 + y_ns D A u) = u ∧ s (o + 4) (c0 + y_ns D A u) = y_e D A B u := by
  have ft := y_ft (D := D) hAB
  have k7 := sa.1
  have h0 : y_fr D A B ≤ u := by
    by_cases w : y_fr D A B ≤ u
    · exact w
    · have := ft.2.2.1 u hu.1 (by omega); omega
  have h1 : u ≤ y_to D A B := by
    by_cases w : u ≤ y_to D A B
    · exact w
    · have := ft.2.2.2.1 u (by omega) hu.2; omega
  obtain ⟨k, p0, p1, p2, p3⟩ := g.has h0 h1 k7
  have bl := (g.2.1 k p0 p1).1.up hAB
  have e := (bl.sa p2 p3).mp sa
  have nk := g.nk hAB (k - c0).toNat k p0 p1 (by omega)
  rw [← e] at nk
  have ek : c0 + y_ns D A u = k := by omega
  have ee := bl.e (s (o + 4) k - u).toNat u p2 (by omega)
  rw [ek, ee]
  exact ⟨p1, e.symm, rfl⟩
/-- a sum of what is not below 0 passes each number -/
theorem y_su_hit {f : Int → Int} {a : Int} (nn : ∀ i : Int, 0 ≤ f i) : ∀ (m : Nat) (y k : Int), (m : Int) = y - a → 0 ≤ k → k < y_su f a y → ∃ i : Int, a ≤ i ∧ i < y ∧ y_su f a i ≤ k ∧ k < y_su f a (i + 1) := by
  intro m
  induction m with
  | zero =>
    intro y k e h0 h1
    rw [show y = a by omega, y_su0] at h1
    omega
  | succ m ih =>
    intro y k e h0 h1
    by_cases z : k < y_su f a (y - 1)
    · obtain ⟨i, p, q, r, t⟩ := ih (y - 1) k (by omega) h0 z
      exact ⟨i, p, by omega, r, t⟩
    · exact ⟨y - 1, by omega, by omega, by omega, by rw [show y - 1 + 1 = y by omega]; exact h1⟩
/-- blocks ahead of line l, where lines begin as r tells -/
def y_bn (D : z_M) (r : Int → Int) (l : Int) : Int := y_su (fun j => y_ns D (r j) (r (j + 1))) 0 l
