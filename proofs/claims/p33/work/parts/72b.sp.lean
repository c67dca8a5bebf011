/-! spaces, what hangs, widths of a trimmed line -/
/-- a line that was trimmed -/
def y_TR (D s : z_M) (a b : Int) : Prop := s 220 4 = y_fr D a b ∧ s 220 5 = y_to D a b ∧ (0 ≤ a ∧ a ≤ b + 1 ∧ b < s 191 16) ∧ (a = b + 1 → a = 0)
theorem y_TR.fr {D s s' : z_M} {a b : Int} (h : y_TR D s a b) (e4 : s' 220 4 = s 220 4) (e5 : s' 220 5 = s 220 5) (e : s' 191 16 = s 191 16) : y_TR D s' a b :=
  ⟨e4.trans h.1, e5.trans h.2.1, by rw [e]; exact h.2.2.1, h.2.2.2⟩
theorem e_sp22 {fu : Nat} {D s : z_M} (h : y_CU2 D s) {a b u : Int} (tr : y_TR D s a b) (hu : 0 ≤ u ∧ u ≤ y_to D a b) : fX5_spaceOf_J22 fu s 220 u = some (vI (if u < y_to D a b ∧ D 0 (u + 1) ≠ 3 ∧ D 0 (u + 1) ≠ 5 then 6 else 0), s) := by
  have ft := y_ft (D := D) tr.2.2.1.2.1
  have n2 := h.1.2
  have l := tr.2.2.1
  unfold fX5_spaceOf_J22 fX5_spaceOf_J54 fX5_spaceOf_J60
  simp only [z_let, if_pos v_220.1, v_220.2.1, if_pos v_ob191, v_g2, if_pos v_rw192.1, e_get v_rw192, zb_I, tr.2.1, v_wid (show -2147483648 ≤ u + 1 ∧ u + 1 ≤ 2147483647 by omega)]
  by_cases q : u = y_to D a b
  · rw [if_pos q, if_neg (by omega)]
  · rw [if_neg q, v_rgn v_c192 v_l192 ⟨by omega, by omega⟩, (h.2.2.1 (u + 1) (by omega) (by omega)).1]
    by_cases k3 : D 0 (u + 1) = 3
    · rw [if_pos k3, if_neg (by omega)]
    · rw [if_neg k3]
      by_cases k5 : D 0 (u + 1) = 5
      · rw [if_neg (by omega), if_neg (by omega)]
      · rw [if_pos k5, if_pos ⟨by omega, k3, k5⟩]
theorem y_sA_n {D : z_M} {a b u : Int} (h : D 0 u ≠ 4) : y_sA D a b u = 0 := by unfold y_sA; rw [if_neg (fun x => h x.1)]
theorem y_sB_n {D : z_M} {a b u : Int} (h : D 0 u ≠ 3) (h5 : D 0 u ≠ 5) : y_sB D a b u = 0 := by unfold y_sB; rw [if_neg (fun x => x.1.elim h h5)]
theorem e_spaceOf {fu : Nat} {D s : z_M} (h : y_CU2 D s) {a b u : Int} (tr : y_TR D s a b) (hu : y_fr D a b ≤ u ∧ u ≤ y_to D a b) : fX5_spaceOf fu s 220 u = some (vI (y_sA D a b u + y_sB D a b u), s) := by
  have ft := y_ft (D := D) tr.2.2.1.2.1
  have n2 := h.1.2
  have l := tr.2.2.1
  have eK := (h.2.2.1 u (by omega) (by omega)).1
  unfold fX5_spaceOf fX5_spaceOf_J103 fX5_spaceOf_J109
  simp only [z_let, if_pos v_220.1, v_220.2.1, if_pos v_ob191, v_g2, if_pos v_rw192.1, e_get v_rw192, zb_I, tr.1, v_wid (show -2147483648 ≤ u - 1 ∧ u - 1 ≤ 2147483647 by omega), v_rgn v_c192 v_l192 (show 0 ≤ u ∧ u < 200 by omega), eK, e_sp22 h tr (show 0 ≤ u ∧ u ≤ y_to D a b by omega)]
  by_cases k3 : D 0 u = 3
  · rw [if_pos k3, y_sA_n (by omega), Int.zero_add]
    unfold y_sB
    by_cases g : u < y_to D a b ∧ D 0 (u + 1) ≠ 3 ∧ D 0 (u + 1) ≠ 5
    · rw [if_pos g, if_pos ⟨Or.inl k3, g⟩]
    · rw [if_neg g, if_neg (fun x => g x.2)]
  · rw [if_neg k3]
    by_cases k5 : D 0 u = 5
    · rw [if_neg (by omega), y_sA_n (by omega), Int.zero_add]
      unfold y_sB
      by_cases g : u < y_to D a b ∧ D 0 (u + 1) ≠ 3 ∧ D 0 (u + 1) ≠ 5
      · rw [if_pos g, if_pos ⟨Or.inr k5, g⟩]
      · rw [if_neg g, if_neg (fun x => g x.2)]
    · rw [if_pos k5, y_sB_n k3 k5, Int.add_zero]
      unfold y_sA
      by_cases k4 : D 0 u = 4
      · rw [if_neg (by omega)]
        by_cases q : u = y_fr D a b
        · rw [if_pos q, if_neg (by omega)]
        · rw [if_neg q, v_rgn v_c192 v_l192 ⟨by omega, by omega⟩, (h.2.2.1 (u - 1) (by omega) (by omega)).1]
          by_cases j3 : D 0 (u - 1) = 3
          · rw [if_pos j3, if_neg (by omega)]
          · rw [if_neg j3]
            by_cases j5 : D 0 (u - 1) = 5
            · rw [if_pos j5, if_neg (by omega)]
            · rw [if_neg j5]
              by_cases j4 : D 0 (u - 1) = 4
              · rw [if_neg (by omega), if_neg (by omega)]
              · rw [if_pos j4, if_pos ⟨k4, by omega, j3, j5, j4⟩]
      · rw [if_pos k4, if_neg (by omega)]
theorem v_set6 : z_gr 220 1 = 2 ∧ z_rw 2 ∧ z_gr 2 0 = 3 ∧ z_ln 2 = 9 := by decide +kernel
theorem e_hangsOut {fu : Nat} {D s : z_M} (h : y_CU2 D s) {a b u : Int} (tr : y_TR D s a b) (hu : u ≤ y_to D a b) (h0 : y_fr D a b ≤ u ∨ u = y_to D a b) : fX5_hangsOut fu s 220 u = some (vI (if y_hg D a b = 1 ∧ u = y_to D a b then 1 else 0), s) := by
  have ft := y_ft (D := D) tr.2.2.1.2.1
  have n2 := h.1.2
  have l := tr.2.2.1
  unfold fX5_hangsOut fX5_hangsOut_J40 fX5_hangsOut_J41
  simp only [z_let, if_pos v_220.1, v_220.2.1, v_set6.1, if_pos v_s2.1.1, e_get v_s2.1, v_rgn v_s2.2.1 v_s2.2.2 (show (0 : Int) ≤ 6 ∧ (6 : Int) < 9 by decide), zb_I, if_pos v_ob191, v_g2, if_pos v_rw192.1, e_get v_rw192, tr.2.1, h.2.1, if_pos bl0, if_pos bl1]
  unfold y_hg
  by_cases q : D 5 0 = 1
  · rw [if_neg (by omega)]
    by_cases q2 : u = y_to D a b
    · rw [if_neg (by omega)]
      by_cases q3 : y_fr D a b ≤ b
      · have ft5 := ft.2.2.2.2.1 q3
        rw [v_rgn v_c192 v_l192 ⟨by omega, by omega⟩, (h.2.2.1 u (by omega) (by omega)).1]
        by_cases q4 : D 0 u = 3
        · rw [if_neg (by omega), if_pos ⟨if_pos ⟨q, q3, by rw [← q2]; exact q4⟩, q2⟩]
        · rw [if_pos q4, if_neg (fun x => ?_)]
          rw [if_neg (fun y => q4 (by rw [q2]; exact y.2.2))] at x
          exact absurd x.1 (by decide)
      · have z : z_rg s 192 u ≠ 3 := by
          have e := ft.2.2.2.2.2 (by omega)
          by_cases w : 0 ≤ u
          · rw [v_rgn v_c192 v_l192 ⟨by omega, by omega⟩, (h.2.2.1 u (by omega) (by omega)).1]
            have := ft.2.2.1 u (by have := l.2.1; have := tr.2.2.2; omega) (by omega)
            omega
          · rw [v_rg0 (by omega)]; decide
        rw [if_pos z, if_neg (fun x => ?_)]
        rw [if_neg (fun y => q3 y.2.1)] at x
        exact absurd x.1 (by decide)
    · rw [if_pos q2, if_neg (fun x => q2 x.2)]
  · rw [if_pos q, if_neg (fun x => ?_)]
    rw [if_neg (fun y => q y.1)] at x
    exact absurd x.1 (by decide)
theorem y_hg_01 {D : z_M} {a b : Int} : y_hg D a b = 0 ∨ y_hg D a b = 1 := by
  unfold y_hg
  by_cases h : D 5 0 = 1 ∧ y_fr D a b ≤ b ∧ D 0 (y_to D a b) = 3
  · rw [if_pos h]; exact Or.inr rfl
  · rw [if_neg h]; exact Or.inl rfl
theorem e_widthOf {fu : Nat} {D s : z_M} (h : y_CU2 D s) {a b u : Int} (tr : y_TR D s a b) (hu : a ≤ u ∧ u ≤ b) : fX5_widthOf fu s 220 u = some (vI (y_w D a b u), s) := by
  have ft := y_ft (D := D) tr.2.2.1.2.1
  have n2 := h.1.2
  have l := tr.2.2.1
  unfold fX5_widthOf fX5_widthOf_J24 fX5_widthOf_J39
  simp only [z_let, if_pos v_220.1, v_220.2.1, tr.1, tr.2.1, if_pos v_ob191, v_u5, if_pos v_r198.1.1, e_get v_r198.1, v_rgn v_r198.2.1 v_r198.2.2 (show 0 ≤ u ∧ u < 200 by omega), zb_I]
  unfold y_w
  by_cases q1 : u < y_fr D a b
  · rw [if_pos q1, if_pos (Or.inl q1)]
  · rw [if_neg q1]
    by_cases q2 : y_to D a b < u
    · rw [if_pos q2, if_pos (Or.inr q2)]
    · rw [if_neg q2, if_neg (by omega), e_hangsOut h tr (by omega) (Or.inl (by omega))]
      simp only [zb_I]
      by_cases q3 : y_hg D a b = 1 ∧ u = y_to D a b
      · rw [if_pos q3, if_pos q3, if_neg (by decide)]
      · rw [if_neg q3, if_neg q3, if_pos rfl, (h.2.2.1 u (by omega) (by omega)).2.1]
/-- spaces of a line, together -/
theorem y_sAB0 {D : z_M} {a b u : Int} (h : D 0 u = 6 ∨ D 0 u = 7) : y_sA D a b u = 0 ∧ y_sB D a b u = 0 := by
  unfold y_sA y_sB
  exact ⟨if_neg (by omega), if_neg (by omega)⟩
theorem y_sAB_b {D : z_M} {a b u : Int} : (0 ≤ y_sA D a b u ∧ y_sA D a b u ≤ 6) ∧ 0 ≤ y_sB D a b u ∧ y_sB D a b u ≤ 6 := by
  unfold y_sA y_sB
  constructor
  · split <;> decide
  · split <;> decide
theorem e_spL {fu : Nat} {D s : z_M} (h : y_CU2 D s) {a b : Int} (tr : y_TR D s a b) {ln c0 : Int} {k : z_M → Int → z_O} (hc : -1000000 ≤ c0 ∧ c0 ≤ 1000000) : ∀ (m F : Nat) (c u : Int), (m : Int) = y_to D a b + 1 - u → m < F → y_fr D a b ≤ u → c = c0 + y_sum (fun i => y_sA D a b i + y_sB D a b i) (y_fr D a b) (u - y_fr D a b).toNat → fX5_longWith_L75 fu 220 ln F s c u k = k s (c0 + y_sum (fun i => y_sA D a b i + y_sB D a b i) (y_fr D a b) (y_to D a b + 1 - y_fr D a b).toNat) := by
  have ft := y_ft (D := D) tr.2.2.1.2.1
  have n2 := h.1.2
  have l := tr.2.2.1
  intro m
  induction m with
  | zero =>
    intro F c u h1 hF h3 h4
    obtain ⟨F, rfl⟩ : ∃ F2, F = F2 + 1 := ⟨F - 1, by omega⟩
    rw [fX5_longWith_L75.eq_2]
    simp only [z_let, if_pos v_220.1, tr.2.1]
    rw [if_pos (by omega), h4, show u = y_to D a b + 1 by omega]
  | succ m ih =>
    intro F c u h1 hF h3 h4
    obtain ⟨F, rfl⟩ : ∃ F2, F = F2 + 1 := ⟨F - 1, by omega⟩
    have b1 := y_sAB_b (D := D) (a := a) (b := b) (u := u)
    have b2 := y_sum_r (f := fun i => y_sA D a b i + y_sB D a b i) (a := y_fr D a b) (m := 12) (u - y_fr D a b).toNat (fun i _ _ => by have := y_sAB_b (D := D) (a := a) (b := b) (u := i); show 0 ≤ y_sA D a b i + y_sB D a b i ∧ y_sA D a b i + y_sB D a b i ≤ 12; omega)
    rw [fX5_longWith_L75.eq_2]
    simp only [z_let, if_pos v_220.1, tr.2.1]
    rw [if_neg (by omega), e_spaceOf h tr ⟨h3, by omega⟩]
    simp only [zb_I]
    rw [v_wid (by omega), v_wid (by omega)]
    refine ih F _ _ (by omega) (by omega) (by omega) ?_
    rw [show (u + 1 - y_fr D a b).toNat = (u - y_fr D a b).toNat + 1 by omega, y_sum_s]
    show c + (y_sA D a b u + y_sB D a b u) = c0 + (_ + (y_sA D a b (y_fr D a b + ((u - y_fr D a b).toNat : Nat)) + y_sB D a b (y_fr D a b + ((u - y_fr D a b).toNat : Nat))))
    rw [show y_fr D a b + (((u - y_fr D a b).toNat : Nat) : Int) = u by omega]
    omega
/-- a sum over a line whose ends give nothing -/
theorem y_sum_in {f : Int → Int} {a b x y : Int} (h0 : a ≤ x) (h1 : x ≤ y + 1) (h2 : y ≤ b) (hl : ∀ i : Int, a ≤ i → i < x → f i = 0) (hr : ∀ i : Int, y < i → i ≤ b → f i = 0) : y_sum f a (b + 1 - a).toNat = y_sum f x (y + 1 - x).toNat := by
  have e1 := y_sum_add (f := f) (a := a) (x - a).toNat ((y + 1 - x).toNat + (b - y).toNat)
  have e2 := y_sum_add (f := f) (a := a + ((x - a).toNat : Nat)) (y + 1 - x).toNat (b - y).toNat
  rw [show (b + 1 - a).toNat = (x - a).toNat + ((y + 1 - x).toNat + (b - y).toNat) by omega, e1, e2, y_sum_0 (f := f) (a := a) (n := (x - a).toNat) (fun i p q => hl i p (by omega)), show a + (((x - a).toNat : Nat) : Int) = x by omega, y_sum_0 (f := f) (a := x + ((y + 1 - x).toNat : Nat)) (n := (b - y).toNat) (fun i p q => hr i (by omega) (by omega))]
  omega
theorem y_sum_sp {D : z_M} {a b : Int} (h : a ≤ b + 1) : y_sum (fun i => y_sA D a b i + y_sB D a b i) a (b + 1 - a).toNat = y_sum (fun i => y_sA D a b i + y_sB D a b i) (y_fr D a b) (y_to D a b + 1 - y_fr D a b).toNat := by
  have ft := y_ft (D := D) h
  refine y_sum_in ft.1.1 (by omega) ft.2.1.1 (fun i p q => ?_) (fun i p q => ?_)
  · have := y_sAB0 (D := D) (a := a) (b := b) (u := i) (Or.inl (ft.2.2.1 i p q))
    show y_sA D a b i + y_sB D a b i = 0
    omega
  · have := y_sAB0 (D := D) (a := a) (b := b) (u := i) (Or.inl (ft.2.2.2.1 i p q))
    show y_sA D a b i + y_sB D a b i = 0
    omega
/-- widths of a line, together -/
theorem y_sum_w {D : z_M} {a b : Int} (h : a ≤ b + 1) : y_sum (y_w D a b) a (b + 1 - a).toNat = y_sum (D 1) (y_fr D a b) (y_to D a b + 1 - y_fr D a b).toNat - (if y_hg D a b = 1 then D 1 (y_to D a b) else 0) := by
  have ft := y_ft (D := D) h
  rw [y_sum_in (f := y_w D a b) ft.1.1 (show y_fr D a b ≤ y_to D a b + 1 by omega) ft.2.1.1 (fun i p q => by unfold y_w; rw [if_pos (Or.inl q)]) (fun i p q => by unfold y_w; rw [if_pos (Or.inr p)])]
  by_cases q : y_hg D a b = 1
  · have q3 : y_fr D a b ≤ b := by
      by_cases z : y_fr D a b ≤ b
      · exact z
      · unfold y_hg at q
        rw [if_neg (fun x => z x.2.1)] at q
        omega
    have g := (ft.2.2.2.2.1 q3).2.2
    rw [if_pos q, show (y_to D a b + 1 - y_fr D a b).toNat = (y_to D a b - y_fr D a b).toNat + 1 by omega, y_sum_s, y_sum_s, show y_fr D a b + (((y_to D a b - y_fr D a b).toNat : Nat) : Int) = y_to D a b by omega]
    have e : y_w D a b (y_to D a b) = 0 := by
      unfold y_w; rw [if_neg (by omega), if_pos ⟨q, rfl⟩]
    rw [e, y_sum_cg (f := y_w D a b) (f' := D 1) _ (fun i p r => by unfold y_w; rw [if_neg (by omega), if_neg (by omega)])]
    omega
  · rw [if_neg q, y_sum_cg (f := y_w D a b) (f' := D 1) _ (fun i p r => by unfold y_w; rw [if_neg (by omega), if_neg (fun x => q x.1)])]
    omega
