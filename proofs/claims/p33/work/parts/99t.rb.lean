/-! how far letters and marks reach: real bounds -/
/-- units with signs from S on, C of them: 12 for each at most, 9 letters at most on a side -/
def y_RWd (D : z_M) (S C : Int → Int) (n : Int) : Prop := (∀ u : Int, 0 ≤ u → u < n → (0 ≤ S u ∧ 1 ≤ C u ∧ S u + C u ≤ 200) ∧ D 1 u ≤ 12 * C u ∧ (D 0 u = 7 → (0 ≤ D 3 u ∧ D 3 u ≤ 9) ∧ 0 ≤ D 4 u ∧ D 4 u ≤ 9)) ∧ ∀ v u : Int, 0 ≤ v → v < u → u < n → S v + C v ≤ S u
theorem y_potA {S C f : Int → Int} {n a : Int} (hS : ∀ v u : Int, 0 ≤ v → v < u → u < n → S v + C v ≤ S u) (h0 : 0 ≤ a) (hf : ∀ u : Int, a ≤ u → u < n → f u ≤ C u) : ∀ (m : Nat) (x : Int), (m : Int) = x - a → x < n → y_su f a (x + 1) ≤ S x + C x - S a := by
  intro m
  induction m with
  | zero =>
    intro x e h
    have s1 := y_suS (f := f) (a := a) (u := x) (by omega)
    have ex : x = a := by omega
    subst ex
    rw [y_su0] at s1
    have := hf x (Int.le_refl _) h
    omega
  | succ m ih =>
    intro x e h
    have i := ih (x - 1) (by omega) (by omega)
    rw [show x - 1 + 1 = x by omega] at i
    have s1 := y_suS (f := f) (a := a) (u := x) (by omega)
    have := hf x (by omega) h
    have := hS (x - 1) x (by omega) (by omega) h
    omega
theorem y_potB {S C f : Int → Int} {n a : Int} (hS : ∀ v u : Int, 0 ≤ v → v < u → u < n → S v + C v ≤ S u) (h0 : 0 ≤ a) (hf : ∀ u : Int, a ≤ u → u < n → f u ≤ 12 * C u) : ∀ (m : Nat) (x : Int), (m : Int) = x - a → x < n → y_su f a (x + 1) ≤ 12 * (S x + C x - S a) := by
  intro m
  induction m with
  | zero =>
    intro x e h
    have s1 := y_suS (f := f) (a := a) (u := x) (by omega)
    have ex : x = a := by omega
    subst ex
    rw [y_su0] at s1
    have := hf x (Int.le_refl _) h
    omega
  | succ m ih =>
    intro x e h
    have i := ih (x - 1) (by omega) (by omega)
    rw [show x - 1 + 1 = x by omega] at i
    have s1 := y_suS (f := f) (a := a) (u := x) (by omega)
    have := hf x (by omega) h
    have := hS (x - 1) x (by omega) (by omega) h
    omega
theorem y_su_1 {a : Int} : ∀ (m : Nat) (x : Int), (m : Int) = x - a → y_su (fun _ => 1) a x = x - a := by
  intro m
  induction m with
  | zero =>
    intro x e
    rw [show x = a by omega, y_su0]
    omega
  | succ m ih =>
    intro x e
    have s1 := y_suS (f := fun _ => (1 : Int)) (a := a) (u := x - 1) (by omega)
    rw [show x - 1 + 1 = x by omega, ih (x - 1) (by omega)] at s1
    omega
theorem y_su_a {f g h : Int → Int} {a : Int} : ∀ (m : Nat) (x : Int), (m : Int) = x - a → (∀ u : Int, a ≤ u → u < x → h u = f u + g u) → y_su h a x = y_su f a x + y_su g a x := by
  intro m
  induction m with
  | zero =>
    intro x e _
    rw [show x = a by omega, y_su0, y_su0, y_su0]
    rfl
  | succ m ih =>
    intro x e k
    have i := ih (x - 1) (by omega) (fun u p q => k u p (by omega))
    have s1 := y_suS (f := f) (a := a) (u := x - 1) (by omega)
    have s2 := y_suS (f := g) (a := a) (u := x - 1) (by omega)
    have s3 := y_suS (f := h) (a := a) (u := x - 1) (by omega)
    rw [show x - 1 + 1 = x by omega] at s1 s2 s3
    have := k (x - 1) (by omega) (by omega)
    omega
theorem y_su_n {f : Int → Int} {a : Int} : ∀ (m : Nat) (x : Int), (m : Int) = x - a → (∀ u : Int, a ≤ u → u < x → 0 ≤ f u) → 0 ≤ y_su f a x := by
  intro m
  induction m with
  | zero =>
    intro x e _
    rw [show x = a by omega, y_su0]
    exact Int.le_refl _
  | succ m ih =>
    intro x e k
    have i := ih (x - 1) (by omega) (fun u p q => k u p (by omega))
    have s1 := y_suS (f := f) (a := a) (u := x - 1) (by omega)
    rw [show x - 1 + 1 = x by omega] at s1
    have := k (x - 1) (by omega) (by omega)
    omega
/-- one point -/
theorem y_su_i {f : Int → Int} {a p A : Int} (hp : a ≤ p) (h1 : f p = A) : ∀ (m : Nat) (x : Int), (m : Int) = x - a → (∀ u : Int, a ≤ u → u < x → u ≠ p → f u = 0) → y_su f a x = if p < x then A else 0 := by
  intro m
  induction m with
  | zero =>
    intro x e _
    rw [show x = a by omega, y_su0, if_neg (by omega)]
  | succ m ih =>
    intro x e k
    have i := ih (x - 1) (by omega) (fun u p q => k u p (by omega))
    have s1 := y_suS (f := f) (a := a) (u := x - 1) (by omega)
    rw [show x - 1 + 1 = x by omega, i] at s1
    by_cases z : x - 1 = p
    · rw [z, h1, if_neg (by omega)] at s1
      rw [s1, if_pos (by omega)]
      omega
    · have := k (x - 1) (by omega) (by omega) z
      rw [this] at s1
      rw [s1]
      by_cases y : p < x - 1
      · rw [if_pos y, if_pos (by omega)]
        omega
      · rw [if_neg y, if_neg (by omega)]
        omega
theorem y_sAB7 {D : z_M} {a b u : Int} (h : D 0 u = 7) : y_sA D a b u = 0 ∧ y_sB D a b u = 0 := by
  unfold y_sA y_sB
  constructor
  · exact if_neg (fun q => by have := q.1; omega)
  · exact if_neg (fun q => by have := q.1; omega)
theorem y_w7 {D : z_M} {a b u : Int} (h : D 0 u = 7) (h0 : a ≤ u) (h1 : u ≤ b) : y_w D a b u = D 1 u := by
  have ft := y_ft (D := D) (a := a) (b := b) (by omega)
  have c1 : ¬ (u < y_fr D a b ∨ y_to D a b < u) := fun q => by
    rcases q with q | q
    · have := ft.2.2.1 u h0 q
      omega
    · have := ft.2.2.2.1 u q h1
      omega
  have c2 : ¬ (y_hg D a b = 1 ∧ u = y_to D a b) := fun q => by
    have g := q.1
    unfold y_hg at g
    by_cases z : D 5 0 = 1 ∧ y_fr D a b ≤ b ∧ D 0 (y_to D a b) = 3
    · have := z.2.2
      rw [← q.2] at this
      omega
    · rw [if_neg z] at g
      omega
  unfold y_w
  rw [if_neg c1, if_neg c2]
theorem y_w_le {D : z_M} {n a b u : Int} (d : y_DF D n) (h : 0 ≤ u ∧ u < n) : 0 ≤ y_w D a b u ∧ y_w D a b u ≤ D 1 u := by
  have := (d u h.1 h.2).2.1
  unfold y_w
  split
  · omega
  · split <;> omega
theorem y_lAB_b {D : z_M} {n a b ln v : Int} (d : y_DF D n) (h : 0 ≤ v ∧ v < n) (hl : 0 ≤ ln ∧ ln ≤ 6) : (0 ≤ y_lA D a b ln v ∧ y_lA D a b ln v ≤ 6) ∧ 0 ≤ y_lB D a b ln v ∧ y_lB D a b ln v ≤ 6 := by
  have w := y_w_le (a := a) (b := b) d h
  have s := y_sAB_b (D := D) (a := a) (b := b) (u := v)
  have k6 := (d v h.1 h.2).2.2.1
  unfold y_lA y_lB
  constructor
  · split
    · exact hl
    · split
      · rename_i _ z
        have := k6 z
        omega
      · exact s.2
  · split
    · exact hl
    · split
      · rename_i _ z
        have := k6 z
        omega
      · exact s.1
theorem y_mAB_b {D : z_M} {n a b ln u : Int} (d : y_DF D n) (ha : 0 ≤ a) (hb : b < n) (h : a ≤ u ∧ u ≤ b) (hl : 0 ≤ ln ∧ ln ≤ 6) : (0 ≤ y_mA D a b ln u ∧ y_mA D a b ln u ≤ 6) ∧ 0 ≤ y_mB D a b ln u ∧ y_mB D a b ln u ≤ 6 := by
  constructor
  · unfold y_mA
    by_cases z : u = a
    · rw [if_pos z]; decide
    · have l := (y_lAB_b (a := a) (b := b) (v := u - 1) d ⟨by omega, by omega⟩ hl).1
      rw [if_neg z]
      split <;> omega
  · unfold y_mB
    by_cases z : u = b
    · rw [if_pos z]; decide
    · have l := (y_lAB_b (a := a) (b := b) (v := u + 1) d ⟨by omega, by omega⟩ hl).2
      rw [if_neg z]
      split <;> omega
/-- PADS and what they were to be -/
theorem y_pAB_w {D : z_M} {n a b ln u : Int} (d : y_DF D n) (ha : 0 ≤ a) (hb : b < n) (h : a ≤ u ∧ u ≤ b) (hl : 0 ≤ ln ∧ ln ≤ 6) (wa : 0 ≤ y_wa D a b u) (wb : 0 ≤ y_wb D a b u) : (0 ≤ y_pA D a b ln u ∧ y_pA D a b ln u ≤ y_wa D a b u ∧ y_wa D a b u - 6 ≤ y_pA D a b ln u) ∧ 0 ≤ y_pB D a b ln u ∧ y_pB D a b ln u ≤ y_wb D a b u ∧ y_wb D a b u - 6 ≤ y_pB D a b ln u := by
  have m := y_mAB_b (ln := ln) (u := u) d ha hb h hl
  constructor
  · unfold y_pA
    by_cases z : 0 < y_wa D a b u
    · have x := z_maxb 0 (y_wa D a b u - y_mA D a b ln u)
      rw [if_pos z]
      omega
    · rw [if_neg z]
      omega
  · unfold y_pB
    by_cases z : 0 < y_wb D a b u
    · have x := z_maxb 0 (y_wb D a b u - y_mB D a b ln u)
      rw [if_pos z]
      omega
    · rw [if_neg z]
      omega
/-- a block: its width, how far it is to hang over, its letters -/
theorem y_RWd.bl {D : z_M} {S C : Int → Int} {n a b f z : Int} (rw0 : y_RWd D S C n) (ha : 0 ≤ a) (hb : b < n) (bl : y_Bl D a b f z) : y_su (D 1) f (z + 1) ≤ 12 * (S z + C z - S f) ∧ z - f + 1 ≤ S z + C z - S f ∧ (0 ≤ y_su (D 3) f (z + 1) ∧ y_su (D 3) f (z + 1) ≤ 9 * (z - f + 1)) ∧ (0 ≤ y_su (D 4) f (z + 1) ∧ y_su (D 4) f (z + 1) ≤ 9 * (z - f + 1)) ∧ y_BO D f z = z_max 0 (6 * z_max (y_su (D 3) f (z + 1)) (y_su (D 4) f (z + 1)) - y_su (D 1) f (z + 1)) := by
  have b1 := bl.1
  have b2 := bl.2.1
  have b3 := bl.2.2.1
  have p1 := y_potB (f := D 1) rw0.2 (a := f) (by omega) (fun u p q => (rw0.1 u (by omega) q).2.1) (z - f).toNat z (by omega) (by omega)
  have p2 := y_potA (f := fun _ => 1) rw0.2 (a := f) (by omega) (fun u p q => (rw0.1 u (by omega) q).1.2.1) (z - f).toNat z (by omega) (by omega)
  rw [y_su_1 (z + 1 - f).toNat (z + 1) (by omega)] at p2
  have k3 := y_sum_r (f := D 3) (a := f) (m := 9) (z + 1 - f).toNat (fun u p q => ((rw0.1 u (by omega) (by omega)).2.2 (bl.k p (by omega))).1)
  have k4 := y_sum_r (f := D 4) (a := f) (m := 9) (z + 1 - f).toNat (fun u p q => ((rw0.1 u (by omega) (by omega)).2.2 (bl.k p (by omega))).2)
  have e : (z - f + 1).toNat = (z + 1 - f).toNat := by omega
  have e3 : y_su (D 3) f (z + 1) = y_sum (D 3) f (z + 1 - f).toNat := rfl
  have e4 : y_su (D 4) f (z + 1) = y_sum (D 4) f (z + 1 - f).toNat := rfl
  refine ⟨p1, by omega, by omega, by omega, ?_⟩
  unfold y_BO
  rw [e]
  rfl
theorem y_RWd.b1 {D : z_M} {S C : Int → Int} {n a b f z ln : Int} (rw0 : y_RWd D S C n) (d : y_DF D n) (ha : 0 ≤ a) (hb : b < n) (hl : 0 ≤ ln ∧ ln ≤ 6) (bl : y_Bl D a b f z) : y_su (y_one2 D a b ln) f (z + 1) = y_su (D 1) f (z + 1) + y_pA D a b ln f + y_pB D a b ln z ∧ (0 ≤ y_pA D a b ln f ∧ y_pA D a b ln f ≤ y_BO D f z / 2 ∧ y_BO D f z / 2 - 6 ≤ y_pA D a b ln f) ∧ (0 ≤ y_pB D a b ln z ∧ y_pB D a b ln z ≤ y_BO D f z - y_BO D f z / 2 ∧ y_BO D f z - y_BO D f z / 2 - 6 ≤ y_pB D a b ln z) ∧ 0 ≤ y_BO D f z := by
  have b1 := bl.1
  have b2 := bl.2.1
  have b3 := bl.2.2.1
  have bo : 0 ≤ y_BO D f z := by
    rw [(rw0.bl ha hb bl).2.2.2.2]
    exact (z_maxb _ _).1
  have waf := bl.wa (Int.le_refl f) b2
  have wbz := bl.wb b2 (Int.le_refl z)
  rw [if_pos rfl] at waf wbz
  have wn : ∀ u : Int, f ≤ u → u ≤ z → 0 ≤ y_wa D a b u ∧ 0 ≤ y_wb D a b u := fun u p q => by
    rw [bl.wa p q, bl.wb p q]
    constructor
    · split <;> omega
    · split <;> omega
  have pf := (y_pAB_w (u := f) d ha hb ⟨b1, by omega⟩ hl (wn f (Int.le_refl _) b2).1 (wn f (Int.le_refl _) b2).2).1
  have pz := (y_pAB_w (u := z) d ha hb ⟨by omega, b3⟩ hl (wn z b2 (Int.le_refl _)).1 (wn z b2 (Int.le_refl _)).2).2
  rw [waf] at pf
  rw [wbz] at pz
  refine ⟨?_, pf, pz, bo⟩
  have s1 := y_su_a (f := D 1) (g := fun u => y_pA D a b ln u + y_pB D a b ln u) (h := y_one2 D a b ln) (a := f) (z + 1 - f).toNat (z + 1) (by omega) (fun u p q => by
    have k7 := bl.k p (by omega)
    have w7 := y_w7 k7 (a := a) (b := b) (by omega) (by omega)
    have sa := y_sAB7 k7 (a := a) (b := b)
    show y_w D a b u + y_sA D a b u + y_sB D a b u + y_pA D a b ln u + y_pB D a b ln u = D 1 u + (y_pA D a b ln u + y_pB D a b ln u)
    omega)
  have s2 := y_su_a (f := y_pA D a b ln) (g := y_pB D a b ln) (h := fun u => y_pA D a b ln u + y_pB D a b ln u) (a := f) (z + 1 - f).toNat (z + 1) (by omega) (fun u p q => rfl)
  have s3 := y_su_i (f := y_pA D a b ln) (a := f) (p := f) (Int.le_refl _) rfl (z + 1 - f).toNat (z + 1) (by omega) (fun u p q ne => by
    have w := bl.wa p (show u ≤ z by omega)
    rw [if_neg ne] at w
    unfold y_pA
    rw [if_neg (by omega)])
  have s4 := y_su_i (f := y_pB D a b ln) (a := f) (p := z) b2 rfl (z + 1 - f).toNat (z + 1) (by omega) (fun u p q ne => by
    have w := bl.wb p (show u ≤ z by omega)
    rw [if_neg ne] at w
    unfold y_pB
    rw [if_neg (by omega)])
  rw [if_pos (by omega)] at s3 s4
  omega
theorem y_Bl.mem {D : z_M} {a b : Int} : ∀ (m : Nat) (i : Int), (m : Int) = i - a → i ≤ b → D 0 i = 7 → ∃ f : Int, y_Bl D a b f (y_e D a b f) ∧ f ≤ i ∧ i ≤ y_e D a b f := by
  intro m
  induction m with
  | zero =>
    intro i h1 h2 k7
    have e : i = a := by omega
    subst e
    have bl := y_Bl.of (D := D) (a := i) (b := b) (Int.le_refl _) h2 ⟨k7, fun c => by have := c.1; omega⟩
    exact ⟨i, bl, Int.le_refl _, bl.2.1⟩
  | succ m ih =>
    intro i h1 h2 k7
    by_cases c : y_ct D a i
    · obtain ⟨f, bl, g1, g2⟩ := ih (i - 1) (by omega) (by omega) c.2.2.1
      refine ⟨f, bl, by omega, ?_⟩
      by_cases z : i ≤ y_e D a b f
      · exact z
      · have e : y_e D a b f = i - 1 := by omega
        exact absurd (show y_e D a b f < b ∧ y_ct D a (y_e D a b f + 1) by rw [e, show i - 1 + 1 = i by omega]; exact ⟨by omega, c⟩) bl.2.2.2.2.2
    · have bl := y_Bl.of (D := D) (a := a) (b := b) (by omega) h2 ⟨k7, c⟩
      exact ⟨i, bl, Int.le_refl _, bl.2.1⟩
/-- all from a on to where no block is open -/
theorem y_RWd.tt {D : z_M} {S C : Int → Int} {n a b ln : Int} (rw0 : y_RWd D S C n) (d : y_DF D n) (ha : 0 ≤ a) (hb : b < n) (hl : 0 ≤ ln ∧ ln ≤ 6) : ∀ (m : Nat) (x : Int), x - a ≤ m → a ≤ x → x ≤ b + 1 → ¬ (x ≤ b ∧ y_ct D a x) → y_su (y_one2 D a b ln) a x ≤ 54 * ((if x = a then S a else S (x - 1) + C (x - 1)) - S a) := by
  intro m
  induction m with
  | zero =>
    intro x h0 h1 _ _
    have e : x = a := by omega
    rw [if_pos e, e, y_su0]
    omega
  | succ m ih =>
    intro x h0 h1 h2 bd
    by_cases e : x = a
    · rw [if_pos e, e, y_su0]
      omega
    rw [if_neg e]
    have cu := (rw0.1 (x - 1) (by omega) (by omega)).1
    have tt : ∀ y : Int, a ≤ y → y ≤ x - 1 → (if y = a then S a else S (y - 1) + C (y - 1)) ≤ S y := fun y p q => by
      by_cases z : y = a
      · rw [if_pos z, z]; exact Int.le_refl _
      · rw [if_neg z]
        exact rw0.2 (y - 1) y (by omega) (by omega) (by omega)
    by_cases k7 : D 0 (x - 1) = 7
    · obtain ⟨f, bl, g1, g2⟩ := y_Bl.mem (D := D) (a := a) (b := b) (x - 1 - a).toNat (x - 1) (by omega) (by omega) k7
      have b1 := bl.1
      have b3 := bl.2.2.1
      have ez : y_e D a b f = x - 1 := by
        by_cases q : y_e D a b f = x - 1
        · exact q
        · have := bl.2.2.2.2.1 x (by omega) (by omega)
          exact absurd ⟨by omega, this⟩ bd
      rw [ez] at bl
      have i := ih f (by omega) b1 (by omega) (fun q => bl.2.2.2.1.2 q.2)
      have t := tt f b1 g1
      have pt := y_su_pt (f := y_one2 D a b ln) b1 (show f ≤ x by omega)
      obtain ⟨o1, o2, o3, o4⟩ := rw0.b1 (ln := ln) d ha hb hl bl
      obtain ⟨q1, q2, q3, q4, q5⟩ := rw0.bl ha hb bl
      rw [show x - 1 + 1 = x by omega] at o1 q1 q3 q4 q5
      have m1 := z_maxb 0 (6 * z_max (y_su (D 3) f x) (y_su (D 4) f x) - y_su (D 1) f x)
      have m2 := z_maxb (y_su (D 3) f x) (y_su (D 4) f x)
      rw [← q5] at m1
      omega
    · have i := ih (x - 1) (by omega) (by omega) (by omega) (fun q => k7 q.2.2.1)
      have t := tt (x - 1) (by omega) (Int.le_refl _)
      have s1 := y_suS (f := y_one2 D a b ln) (a := a) (u := x - 1) (by omega)
      rw [show x - 1 + 1 = x by omega] at s1
      have w := y_w_le (a := a) (b := b) (u := x - 1) d ⟨by omega, by omega⟩
      have sb := y_sAB_b (D := D) (a := a) (b := b) (u := x - 1)
      have d1 := (rw0.1 (x - 1) (by omega) (by omega)).2.1
      have pA : y_pA D a b ln (x - 1) = 0 := by
        unfold y_pA
        rw [y_wa_n k7, if_neg (by decide)]
      have pB : y_pB D a b ln (x - 1) = 0 := by
        unfold y_pB
        rw [y_wb_n k7, if_neg (by decide)]
      have e1 : y_one2 D a b ln (x - 1) = y_w D a b (x - 1) + y_sA D a b (x - 1) + y_sB D a b (x - 1) + y_pA D a b ln (x - 1) + y_pB D a b ln (x - 1) := rfl
      omega
/-- what gaps add is the rest at most -/
theorem y_xv_s {D : z_M} {E Q : Int → Int} {a b : Int} (r0 : 0 ≤ y_rs D Q a b) : ∀ (m : Nat) (x : Int), (m : Int) = x - a → x ≤ b + 1 → y_su (y_xv D E Q a b) a x ≤ y_gn D E a b x * (y_rs D Q a b / y_gn D E a b (b + 1)) + (if y_gn D E a b x < y_rs D Q a b % y_gn D E a b (b + 1) then y_gn D E a b x else y_rs D Q a b % y_gn D E a b (b + 1)) ∧ (y_gn D E a b (b + 1) = 0 → y_su (y_xv D E Q a b) a x = 0) := by
  generalize hq : y_rs D Q a b / y_gn D E a b (b + 1) = q
  generalize hr : y_rs D Q a b % y_gn D E a b (b + 1) = r
  have rr : 0 ≤ r := by
    by_cases z : y_gn D E a b (b + 1) = 0
    · rw [z, Int.emod_zero] at hr
      omega
    · rw [← hr]
      exact Int.emod_nonneg _ z
  intro m
  induction m with
  | zero =>
    intro x e h
    have ex : x = a := by omega
    rw [ex, y_su0]
    have g0 : y_gn D E a b a = 0 := y_su0
    rw [g0, Int.zero_mul]
    refine ⟨?_, fun _ => rfl⟩
    split <;> omega
  | succ m ih =>
    intro x e h
    obtain ⟨i1, i2⟩ := ih (x - 1) (by omega) (by omega)
    have s1 := y_suS (f := y_xv D E Q a b) (a := a) (u := x - 1) (by omega)
    have s2 := y_suS (f := y_gq D E a b) (a := a) (u := x - 1) (by omega)
    rw [show x - 1 + 1 = x by omega] at s1 s2
    have e1 : y_gn D E a b x = y_gn D E a b (x - 1) + y_gq D E a b (x - 1) := s2
    have gl := y_gn_le (D := D) (E := E) (a := a) (b := b) (u := x) (v := b + 1) (by omega) (by omega)
    have g1 := (y_gn_b (D := D) (E := E) (a := a) (b := b) (u := x - 1) (by omega)).1
    rw [s1]
    rcases y_gq01 (D := D) (E := E) (a := a) (b := b) (u := x - 1) with z | z
    · have x0 : y_xv D E Q a b (x - 1) = 0 := by
        unfold y_xv
        rw [if_neg (by omega)]
      rw [e1, z, x0, Int.add_zero, Int.add_zero]
      exact ⟨i1, i2⟩
    · have x1 : y_xv D E Q a b (x - 1) = q + (if y_gn D E a b (x - 1) < r then 1 else 0) := by
        unfold y_xv
        rw [if_pos z, hq, hr]
      have gp : 1 ≤ y_gn D E a b (b + 1) := by omega
      refine ⟨?_, fun w => by omega⟩
      rw [e1, z, x1]
      generalize y_gn D E a b (x - 1) = g at *
      rw [Int.add_mul, Int.one_mul]
      generalize g * q = gq at *
      by_cases c : g < r
      · rw [if_pos c] at i1
        rw [if_pos c]
        split <;> omega
      · rw [if_neg c] at i1
        rw [if_neg c, if_neg (by omega)]
        omega
theorem y_xv_r {D : z_M} {E Q : Int → Int} {a b x : Int} (r0 : 0 ≤ y_rs D Q a b) (h0 : a ≤ x) (h1 : x ≤ b + 1) : y_su (y_xv D E Q a b) a x ≤ y_rs D Q a b := by
  obtain ⟨i1, i2⟩ := y_xv_s (E := E) r0 (x - a).toNat x (by omega) h1
  have gl := y_gn_le (D := D) (E := E) (a := a) (b := b) (u := x) (v := b + 1) h0 h1
  have g1 := (y_gn_b (D := D) (E := E) (a := a) (b := b) (u := x) h0).1
  by_cases z : y_gn D E a b (b + 1) = 0
  · rw [i2 z]
    exact r0
  · have e := Int.mul_ediv_add_emod (y_rs D Q a b) (y_gn D E a b (b + 1))
    have q0 : 0 ≤ y_rs D Q a b / y_gn D E a b (b + 1) := Int.ediv_nonneg r0 (by omega)
    have m := Int.mul_le_mul_of_nonneg_right gl q0
    have rn := Int.emod_nonneg (y_rs D Q a b) z
    generalize y_rs D Q a b / y_gn D E a b (b + 1) = q at *
    generalize y_rs D Q a b % y_gn D E a b (b + 1) = r at *
    generalize y_gn D E a b (b + 1) = G at *
    generalize y_gn D E a b x = g at *
    generalize G * q = Gq at *
    generalize g * q = gq at *
    split at i1 <;> omega
/-- where a unit's room begins, truly -/
theorem y_RWd.cu {D : z_M} {S C E Q : Int → Int} {n a b x : Int} (rw0 : y_RWd D S C n) (d : y_DF D n) (ha : 0 ≤ a) (hab : a ≤ b) (hb : b < n) (hn : n ≤ 200) (hl : 0 ≤ Q 1 ∧ Q 1 ≤ 6) (hQ : Q 2 ≤ 999) (h0 : a ≤ x) (h1 : x ≤ b + 1) : y_su (y_one2 D a b (Q 1)) a x ≤ y_cu D E Q a b x ∧ y_cu D E Q a b x ≤ 10800 ∧ (0 < y_rs D Q a b → y_cu D E Q a b x ≤ 999) ∧ (y_rs D Q a b = 0 → y_cu D E Q a b x = y_su (y_one2 D a b (Q 1)) a x) := by
  have lg := y_LG_b d ha hb hn hl
  have r0 := y_rs_b (D := D) (Q := Q) (a := a) (b := b) (by omega) lg.1
  have e := y_su_a (f := y_one2 D a b (Q 1)) (g := y_xv D E Q a b) (h := y_s2t D E Q a b) (a := a) (x - a).toNat x (by omega) (fun u p q => rfl)
  have ec : y_cu D E Q a b x = y_su (y_s2t D E Q a b) a x := rfl
  have xr := y_xv_r (E := E) r0.1 h0 h1
  have xn := y_su_n (f := y_xv D E Q a b) (a := a) (x - a).toNat x (by omega) (fun u p q => (y_xv_b (E := E) (Q := Q) (by omega) lg.1 ⟨p, by omega⟩).1)
  have pt := y_su_pt (f := y_one2 D a b (Q 1)) h0 h1
  have pn := y_su_n (f := y_one2 D a b (Q 1)) (a := x) (b + 1 - x).toNat (b + 1) (by omega) (fun u p q => (y_one2_b d ha hb hn ⟨by omega, by omega⟩ hl).1)
  have tt := rw0.tt (ln := Q 1) d ha hb hl (b + 1 - a).toNat (b + 1) (by omega) (by omega) (by omega) (fun q => by omega)
  have cb := (rw0.1 b (by omega) hb).1
  have ca := (rw0.1 a ha (by omega)).1
  rw [if_neg (by omega), show b + 1 - 1 = b by omega] at tt
  have el : y_LG D a b (Q 1) = y_su (y_one2 D a b (Q 1)) a (b + 1) := rfl
  have rs : y_rs D Q a b = 0 ∨ y_rs D Q a b = Q 2 - y_LG D a b (Q 1) := by
    unfold y_rs
    split
    · exact Or.inr rfl
    · exact Or.inl rfl
  omega
/-- a block's letters stand near it -/
theorem y_pf_rb {k W BO st pA pB cz i : Int} (hk : 0 < k) (hi : 0 ≤ i ∧ i < k) (hW : 0 ≤ W ∧ W ≤ 2400) (h6 : 6 * k - W ≤ BO) (bo : 0 ≤ BO) (hA : BO / 2 - 6 ≤ pA) (hB : BO - BO / 2 - 6 ≤ pB) (hk2 : k ≤ 1800) (hst : pA ≤ st) (hz : st + W + pB ≤ cz) (hc : cz ≤ 10800) (pn : 0 ≤ pA ∧ 0 ≤ pB) : -6 ≤ y_pf k W st i ∧ y_pf k W st i + 6 ≤ cz + 6 := by
  unfold y_pf
  rw [v_wid (x := 6 * k) (by omega), v_wid (x := 2 * i) (by omega), v_wid (x := 2 * i + 1) (by omega), v_wid (x := 2 * k) (by omega), v_wid (x := 6 * i) (by omega)]
  by_cases h : 6 * k ≤ W
  · rw [if_pos h, if_neg (by omega)]
    have p0 : 0 ≤ W * (2 * i + 1) := Int.mul_nonneg hW.1 (by omega)
    have p1 : W * (2 * i + 1) ≤ W * (2 * k) := Int.mul_le_mul_of_nonneg_left (by omega) hW.1
    have p2 : W * (2 * k) ≤ 2400 * (2 * k) := Int.mul_le_mul_of_nonneg_right hW.2 (by omega)
    rw [v_wid (x := W * (2 * i + 1)) (by omega), Int.tdiv_eq_ediv_of_nonneg p0]
    have d0 : 0 ≤ W * (2 * i + 1) / (2 * k) := Int.ediv_nonneg p0 (by omega)
    have d1 : W * (2 * i + 1) / (2 * k) ≤ W := Int.ediv_le_of_le_mul (by omega) p1
    generalize W * (2 * i + 1) / (2 * k) = t at *
    rw [v_wid (x := t) (by omega), v_wid (x := st + t) (by omega), v_wid (x := st + t - 3) (by omega)]
    omega
  · rw [if_neg h, v_wid (x := 6 * k - W) (by omega), v_td2 (by omega), v_wid (x := (6 * k - W) / 2) (by omega), v_wid (x := st - (6 * k - W) / 2) (by omega), v_wid (x := st - (6 * k - W) / 2 + 6 * i) (by omega)]
    omega
/-! of the reference's state -/
theorem y_wm_le {s : z_M} (rw0 : y_Rw s) {u : Int} (h0 : 0 ≤ u) (h1 : u < s 309 20) : y_wm s u ≤ 12 * s 3222 u := by
  have uu := rw0.2.1 u h0 h1
  unfold y_wm
  split
  · have r := y_sum_r (f := y_lm s) (a := s 3221 u) (m := 12) (s 3222 u).toNat (fun i _ _ => y_lm_b)
    omega
  · omega
theorem y_OKy.rwd {s : z_M} (cr : y_CRg s) (ok : y_OKy s) : y_RWd (y_dm s) (s 3221) (s 3222) (s 309 20) := by
  refine ⟨fun u p q => ⟨ok.1.1.2.1 u p q, by rw [y_dm1 ⟨p, q⟩]; exact y_wm_le ok.1.1 p q, fun k7 => ?_⟩, ok.2.1⟩
  rw [y_dm0 ⟨p, q⟩] at k7
  obtain ⟨_, d3, d4⟩ := y_dm7 ⟨p, q⟩ k7
  rw [d3, d4]
  exact ⟨y_rl_9 cr ok.1.1 p q k7 (Or.inl rfl), y_rl_9 cr ok.1.1 p q k7 (Or.inr rfl)⟩
theorem y_gpp_b {s : z_M} (cr : y_CRg s) (ok : y_OKy s) (lm : y_LBm (y_dm s) s) (hq : s 312 0 ≤ 999) {k d i : Int} (h0 : 0 ≤ k) (h1 : k < s 309 58) (hd : d = 0 ∨ d = 1) (hi : 0 ≤ i ∧ i < y_kl s k d) : -6 ≤ y_gpp s k d i ∧ y_gpp s k d i + 6 ≤ 10806 := by
  obtain ⟨l, f, z, l01, r1, ⟨b0, b1, b2⟩, bl, k7, ⟨m1, m2⟩, ek, eb⟩ := lm.bk ok h0 h1
  have nn := ok.1.1.1
  have k9 := y_kl_9 cr ok lm h0 h1 hd
  have rw0 := y_OKy.rwd cr ok
  have dd := ok.1.2.1
  have hl : 0 ≤ y_qm s 1 ∧ y_qm s 1 ≤ 6 := by rw [y_qm1]; exact ok.1.2.2.2
  have hQ : y_qm s 2 ≤ 999 := by rw [y_qm2]; exact hq
  obtain ⟨o1, o2, o3, o4⟩ := rw0.b1 (ln := y_qm s 1) dd r1.1 (by omega) hl bl
  obtain ⟨q1, q2, q3, q4, q5⟩ := rw0.bl r1.1 (by omega) bl
  have cf := rw0.cu (E := y_me (y_dm s) (s 312 7) (s 309 20)) (Q := y_qm s) (x := f) dd r1.1 (b := s 3438 (l + 1) - 1) (by omega) (by omega) nn.2 hl hQ r1.2.1 (by omega)
  have cz := rw0.cu (E := y_me (y_dm s) (s 312 7) (s 309 20)) (Q := y_qm s) (x := z + 1) dd r1.1 (b := s 3438 (l + 1) - 1) (by omega) (by omega) nn.2 hl hQ (by omega) (by omega)
  have lg := y_LG_b dd r1.1 (b := s 3438 (l + 1) - 1) (by omega) nn.2 hl
  have pt := y_su_pt (f := y_s2t (y_dm s) (y_me (y_dm s) (s 312 7) (s 309 20)) (y_qm s) (s 3438 l) (s 3438 (l + 1) - 1)) r1.2.1 (show f ≤ z + 1 by omega)
  have sa := y_su_a (f := y_one2 (y_dm s) (s 3438 l) (s 3438 (l + 1) - 1) (y_qm s 1)) (g := y_xv (y_dm s) (y_me (y_dm s) (s 312 7) (s 309 20)) (y_qm s) (s 3438 l) (s 3438 (l + 1) - 1)) (h := y_s2t (y_dm s) (y_me (y_dm s) (s 312 7) (s 309 20)) (y_qm s) (s 3438 l) (s 3438 (l + 1) - 1)) (a := f) (z + 1 - f).toNat (z + 1) (by omega) (fun u p q => rfl)
  have xn := y_su_n (f := y_xv (y_dm s) (y_me (y_dm s) (s 312 7) (s 309 20)) (y_qm s) (s 3438 l) (s 3438 (l + 1) - 1)) (a := f) (z + 1 - f).toNat (z + 1) (by omega) (fun u p q => (y_xv_b (Q := y_qm s) (by omega) lg.1 ⟨by omega, by omega⟩).1)
  have c0 := y_su_n (f := y_one2 (y_dm s) (s 3438 l) (s 3438 (l + 1) - 1) (y_qm s 1)) (a := s 3438 l) (f - s 3438 l).toNat f (by omega) (fun u p q => (y_one2_b dd r1.1 (by omega) nn.2 ⟨by omega, by omega⟩ hl).1)
  have s7 := (y_sAB7 (D := y_dm s) (a := s 3438 l) (b := s 3438 (l + 1) - 1) (bl.k (Int.le_refl f) bl.2.1)).1
  have e1 : y_cu (y_dm s) (y_me (y_dm s) (s 312 7) (s 309 20)) (y_qm s) (s 3438 l) (s 3438 (l + 1) - 1) f = y_su (y_s2t (y_dm s) (y_me (y_dm s) (s 312 7) (s 309 20)) (y_qm s) (s 3438 l) (s 3438 (l + 1) - 1)) (s 3438 l) f := rfl
  have e2 : y_cu (y_dm s) (y_me (y_dm s) (s 312 7) (s 309 20)) (y_qm s) (s 3438 l) (s 3438 (l + 1) - 1) (z + 1) = y_su (y_s2t (y_dm s) (y_me (y_dm s) (s 312 7) (s 309 20)) (y_qm s) (s 3438 l) (s 3438 (l + 1) - 1)) (s 3438 l) (z + 1) := rfl
  have e3 : y_pl (y_dm s) (y_me (y_dm s) (s 312 7) (s 309 20)) (y_qm s) (s 3438 l) (s 3438 (l + 1) - 1) f = y_cu (y_dm s) (y_me (y_dm s) (s 312 7) (s 309 20)) (y_qm s) (s 3438 l) (s 3438 (l + 1) - 1) f + y_pA (y_dm s) (s 3438 l) (s 3438 (l + 1) - 1) (y_qm s 1) f + y_sA (y_dm s) (s 3438 l) (s 3438 (l + 1) - 1) f := rfl
  have eW : y_sum (y_dm s 1) f (z - f + 1).toNat = y_su (y_dm s 1) f (z + 1) := by
    rw [show (z - f + 1).toNat = (z + 1 - f).toNat by omega]
    rfl
  have w0 := y_su_n (f := y_dm s 1) (a := f) (z + 1 - f).toNat (z + 1) (by omega) (fun u p q => (dd u (by omega) (by omega)).2.1.1)
  have uz := (rw0.1 z (by omega) (by omega)).1
  have uf := (rw0.1 f (by omega) (by omega)).1
  have ekl : y_kl s k d = y_su (y_dm s (3 + d)) f (z + 1) := by
    unfold y_kl
    rw [b0, b1, show (z - f + 1).toNat = (z + 1 - f).toNat by omega]
    refine y_sum_cg _ (fun u p q => ?_)
    obtain ⟨_, d3, d4⟩ := y_dm7 (s := s) (u := u) ⟨by omega, by omega⟩ (k7 u p (by omega))
    rcases hd with rfl | rfl
    · exact d3.symm
    · exact d4.symm
  have x1 := z_maxb 0 (6 * z_max (y_su (y_dm s 3) f (z + 1)) (y_su (y_dm s 4) f (z + 1)) - y_su (y_dm s 1) f (z + 1))
  have x2 := z_maxb (y_su (y_dm s 3) f (z + 1)) (y_su (y_dm s 4) f (z + 1))
  have h6 : 6 * y_kl s k d - y_su (y_dm s 1) f (z + 1) ≤ y_BO (y_dm s) f z := by
    rw [← q5] at x1
    rw [ekl]
    rcases hd with rfl | rfl
    · rw [show (3 + 0 : Int) = 3 by decide]
      omega
    · rw [show (3 + 1 : Int) = 4 by decide]
      omega
  unfold y_gpp
  rw [b0, b2, m2, eW]
  have r := y_pf_rb (k := y_kl s k d) (W := y_su (y_dm s 1) f (z + 1)) (st := y_pl (y_dm s) (y_me (y_dm s) (s 312 7) (s 309 20)) (y_qm s) (s 3438 l) (s 3438 (l + 1) - 1) f) (cz := y_cu (y_dm s) (y_me (y_dm s) (s 312 7) (s 309 20)) (y_qm s) (s 3438 l) (s 3438 (l + 1) - 1) (z + 1)) (by omega) hi ⟨w0, by omega⟩ h6 o4 o2.2.2 o3.2.2 (by omega) (by omega) (by omega) cz.2.1 ⟨o2.1, o3.1⟩
  omega
theorem y_3443_b {s : z_M} (cr : y_CRg s) (ok : y_OKy s) (lm : y_LBm (y_dm s) s) (pu : y_PU s) (hq : s 312 0 ≤ 999) {l j : Int} (l0 : 0 ≤ l) (l1 : l < s 309 44) (p : y_fm s (s 3438 l) ≤ j) (q : j < y_fm s (s 3438 (l + 1))) : 0 ≤ s 3443 j ∧ s 3443 j ≤ 10806 := by
  have rr := lm.r1 l0 l1
  have nn := ok.1.1.1
  -- the unit of j
  have key : ∀ (m : Nat) (x : Int), (m : Int) = x - s 3438 l → x ≤ s 3438 (l + 1) → j < y_fm s x → ∃ u : Int, s 3438 l ≤ u ∧ u < x ∧ s 3221 u ≤ j ∧ j < s 3221 u + s 3222 u := by
    intro m
    induction m with
    | zero =>
      intro x e _ h
      have ex : x = s 3438 l := by omega
      rw [ex] at h
      omega
    | succ m ih =>
      intro x e h1 h
      obtain ⟨g1, g2⟩ := pu.fm (v := x - 1) (by omega) (by omega)
      rw [show x - 1 + 1 = x by omega] at g2
      by_cases z : j < y_fm s (x - 1)
      · obtain ⟨u, a, b, c⟩ := ih (x - 1) (by omega) (by omega) z
        exact ⟨u, a, by omega, c⟩
      · exact ⟨x - 1, by omega, by omega, by omega, by omega⟩
  obtain ⟨u, u0, u1, j0, j1⟩ := key (s 3438 (l + 1) - s 3438 l).toNat (s 3438 (l + 1)) (by omega) (Int.le_refl _) q
  have h44 : ∀ nx cc, y_LSm (y_dm s) s nx cc → s 309 44 = (cc : Int) := fun nx cc h => h.2.2.1
  obtain ⟨nx, cc, ls, ly, l58⟩ := id lm
  obtain ⟨m1, m2, m3, m4, m5⟩ := ((ly l l0 l1).2 u u0 (by omega)).1
  have rw0 := y_OKy.rwd cr ok
  have dd := ok.1.2.1
  have hl : 0 ≤ y_qm s 1 ∧ y_qm s 1 ≤ 6 := by rw [y_qm1]; exact ok.1.2.2.2
  have hQ : y_qm s 2 ≤ 999 := by rw [y_qm2]; exact hq
  rw [m5 j j0 j1]
  have c1 := rw0.cu (E := y_me (y_dm s) (s 312 7) (s 309 20)) (Q := y_qm s) (x := u) dd rr.1 (b := s 3438 (l + 1) - 1) (by omega) (by omega) nn.2 hl hQ u0 (by omega)
  have c2 := rw0.cu (E := y_me (y_dm s) (s 312 7) (s 309 20)) (Q := y_qm s) (x := u + 1) dd rr.1 (b := s 3438 (l + 1) - 1) (by omega) (by omega) nn.2 hl hQ (by omega) (by omega)
  have lg := y_LG_b dd rr.1 (b := s 3438 (l + 1) - 1) (by omega) nn.2 hl
  have xb := y_xv_b (E := y_me (y_dm s) (s 312 7) (s 309 20)) (Q := y_qm s) (by omega) lg.1 (u := u) ⟨u0, by omega⟩
  have sS := y_suS (f := y_s2t (y_dm s) (y_me (y_dm s) (s 312 7) (s 309 20)) (y_qm s) (s 3438 l) (s 3438 (l + 1) - 1)) u0
  have sb := y_sAB_b (D := y_dm s) (a := s 3438 l) (b := s 3438 (l + 1) - 1) (u := u)
  have c0 := y_su_n (f := y_one2 (y_dm s) (s 3438 l) (s 3438 (l + 1) - 1) (y_qm s 1)) (a := s 3438 l) (u - s 3438 l).toNat u (by omega) (fun v p q => (y_one2_b dd rr.1 (by omega) nn.2 ⟨by omega, by omega⟩ hl).1)
  have pr := y_pAB_r (D := y_dm s) (a := s 3438 l) (b := s 3438 (l + 1) - 1) (u := u) dd rr.1 (by omega) nn.2 ⟨u0, by omega⟩ hl
  have e1 : y_cu (y_dm s) (y_me (y_dm s) (s 312 7) (s 309 20)) (y_qm s) (s 3438 l) (s 3438 (l + 1) - 1) u = y_su (y_s2t (y_dm s) (y_me (y_dm s) (s 312 7) (s 309 20)) (y_qm s) (s 3438 l) (s 3438 (l + 1) - 1)) (s 3438 l) u := rfl
  have e2 : y_cu (y_dm s) (y_me (y_dm s) (s 312 7) (s 309 20)) (y_qm s) (s 3438 l) (s 3438 (l + 1) - 1) (u + 1) = y_su (y_s2t (y_dm s) (y_me (y_dm s) (s 312 7) (s 309 20)) (y_qm s) (s 3438 l) (s 3438 (l + 1) - 1)) (s 3438 l) (u + 1) := rfl
  have e3 : y_pl (y_dm s) (y_me (y_dm s) (s 312 7) (s 309 20)) (y_qm s) (s 3438 l) (s 3438 (l + 1) - 1) u = y_cu (y_dm s) (y_me (y_dm s) (s 312 7) (s 309 20)) (y_qm s) (s 3438 l) (s 3438 (l + 1) - 1) u + y_pA (y_dm s) (s 3438 l) (s 3438 (l + 1) - 1) (y_qm s 1) u + y_sA (y_dm s) (s 3438 l) (s 3438 (l + 1) - 1) u := rfl
  have e4 : y_s2t (y_dm s) (y_me (y_dm s) (s 312 7) (s 309 20)) (y_qm s) (s 3438 l) (s 3438 (l + 1) - 1) u = y_w (y_dm s) (s 3438 l) (s 3438 (l + 1) - 1) u + y_sA (y_dm s) (s 3438 l) (s 3438 (l + 1) - 1) u + y_sB (y_dm s) (s 3438 l) (s 3438 (l + 1) - 1) u + y_pA (y_dm s) (s 3438 l) (s 3438 (l + 1) - 1) (y_qm s 1) u + y_pB (y_dm s) (s 3438 l) (s 3438 (l + 1) - 1) (y_qm s 1) u + y_xv (y_dm s) (y_me (y_dm s) (s 312 7) (s 309 20)) (y_qm s) (s 3438 l) (s 3438 (l + 1) - 1) u := rfl
  have uu := ok.1.1.2.1 u (by omega) (by omega)
  have ul := (rw0.1 (s 3438 l) rr.1 (by omega)).1
  have sm : 0 ≤ y_sm2 s u j ∧ y_sm2 s u j ≤ y_wm s u ∧ y_sm2 s u j ≤ 12 * s 3222 u := by
    have w := y_wm_le ok.1.1 (u := u) (by omega) (by omega)
    unfold y_sm2 y_wm at *
    by_cases z : y_am s u = 0
    · rw [if_pos z] at w ⊢
      rw [if_pos z]
      have pt := y_su_pt (f := y_lm s) j0 (show j ≤ s 3221 u + s 3222 u by omega)
      have n1 := y_su_n (f := y_lm s) (a := s 3221 u) (j - s 3221 u).toNat j (by omega) (fun i _ _ => y_lm_b.1)
      have n2 := y_su_n (f := y_lm s) (a := j) (s 3221 u + s 3222 u - j).toNat (s 3221 u + s 3222 u) (by omega) (fun i _ _ => y_lm_b.1)
      have e : y_su (y_lm s) (s 3221 u) (s 3221 u + s 3222 u) = y_sum (y_lm s) (s 3221 u) (s 3222 u).toNat := by
        unfold y_su
        rw [show s 3221 u + s 3222 u - s 3221 u = s 3222 u by omega]
      omega
    · rw [if_neg z] at w ⊢
      rw [if_neg z]
      omega
  by_cases k7 : y_dm s 0 u = 7
  · have w7 := y_w7 k7 (a := s 3438 l) (b := s 3438 (l + 1) - 1) u0 (by omega)
    rw [y_dm1 ⟨by omega, by omega⟩] at w7
    omega
  · have pA : y_pA (y_dm s) (s 3438 l) (s 3438 (l + 1) - 1) (y_qm s 1) u = 0 := by
      unfold y_pA
      rw [y_wa_n k7, if_neg (by decide)]
    have tt := rw0.tt (ln := y_qm s 1) dd rr.1 (b := s 3438 (l + 1) - 1) (by omega) hl (u - s 3438 l).toNat u (by omega) u0 (by omega) (fun q => k7 q.2.2.1)
    have t2 : (if u = s 3438 l then s 3221 (s 3438 l) else s 3221 (u - 1) + s 3222 (u - 1)) ≤ s 3221 u := by
      by_cases z : u = s 3438 l
      · rw [if_pos z, z]; exact Int.le_refl _
      · rw [if_neg z]
        exact rw0.2 (u - 1) u (by omega) (by omega) (by omega)
    have rs := (y_rs_b (D := y_dm s) (Q := y_qm s) (a := s 3438 l) (b := s 3438 (l + 1) - 1) (by omega) lg.1).1
    by_cases z : y_rs (y_dm s) (y_qm s) (s 3438 l) (s 3438 (l + 1) - 1) = 0
    · have c3 := c1.2.2.2 z
      omega
    · have c3 := c1.2.2.1 (by omega)
      omega
/-- all on a line's sides is where the class paints -/
theorem y_CVV_b {s : z_M} (cr : y_CRg s) (ok : y_OKy s) (lm : y_LBm (y_dm s) s) (pu : y_PU s) (hq : s 312 0 ≤ 999) {l d x : Int} (l0 : 0 ≤ l) (l1 : l < s 309 44) (hd : d = 0 ∨ d = 1) (h : y_CVV s d l x) : y_ra x := by
  rcases h with ⟨k, j, p, e, r, t⟩ | ⟨j, p, e, t⟩
  · have g := y_gpp_b cr ok lm hq p.1 p.2 hd r
    unfold y_ra
    omega
  · have g := y_3443_b cr ok lm pu hq l0 l1 p.1 p.2
    unfold y_ra
    omega
