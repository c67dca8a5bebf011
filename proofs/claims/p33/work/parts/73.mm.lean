/-! The reference's units: widths, groups, letters; a line's spaces and blocks; LONG -/
def y_wi (c : Int) : Int := if c = 105 ∨ c = 106 ∨ c = 108 then 4 else if c = 109 ∨ c = 119 then 9 else 6
theorem em_wide {fu : Nat} {s : z_M} {c : Int} : fX12_wide fu s c = some (vI (y_wi c), s) := by
  unfold fX12_wide fX12_wide_J18 fX12_wide_J34 fX12_wide_J41 y_wi
  by_cases c1 : c = 105
  · rw [if_pos c1, if_pos (Or.inl c1)]
  · rw [if_neg c1]
    by_cases c2 : c = 106
    · rw [if_pos c2, if_pos (Or.inr (Or.inl c2))]
    · rw [if_neg c2]
      by_cases c3 : c = 108
      · rw [if_neg (show ¬ c ≠ 108 from fun x => x c3), if_pos (Or.inr (Or.inr c3))]
      · rw [if_pos (show c ≠ 108 from c3), if_neg (show ¬ (c = 105 ∨ c = 106 ∨ c = 108) by omega)]
        by_cases c4 : c = 109
        · rw [if_pos c4, if_pos (Or.inl c4)]
        · rw [if_neg c4]
          by_cases c5 : c = 119
          · rw [if_neg (show ¬ c ≠ 119 from fun x => x c5), if_pos (Or.inr c5)]
          · rw [if_pos (show c ≠ 119 from c5), if_neg (show ¬ (c = 109 ∨ c = 119) by omega)]
/-- a sign by itself -/
def y_lm (s : z_M) (i : Int) : Int := if s 346 i = 1 then y_wi (s 331 i) else if s 346 i = 2 then (if y_am s (s 3223 i) = 0 then 6 else 12) else if s 346 i = 0 ∨ s 346 i = 7 then 12 else if s 346 i = 6 then 4 else 6
theorem y_lm_b {s : z_M} {i : Int} : 0 ≤ y_lm s i ∧ y_lm s i ≤ 12 := by
  unfold y_lm y_wi
  repeat (first | split | decide)
theorem em_signLong {fu : Nat} {s : z_M} {i : Int} (h : 0 ≤ i ∧ i < 200) (hu : 0 ≤ s 3223 i ∧ s 3223 i < 200) : fX12_signLong fu s 309 i = some (vI (y_lm s i), s) := by
  unfold fX12_signLong fX12_signLong_J58 fX12_signLong_J83 fX12_signLong_J107
  simp only [z_let, if_pos v_ob309, v_gm24, v_gm14, v_gm13, v_gz345.1, if_pos v_gz345.2, v_gz330.1, if_pos v_gz330.2, if_pos (v_x3223 h), if_pos (v_x346 h), if_pos (v_x331 h), em_wide, em_isAcross hu, zb_I]
  unfold y_lm
  by_cases k1 : s 346 i = 1
  · rw [if_neg (show ¬ s 346 i ≠ 1 from fun x => x k1), if_pos k1]
  · rw [if_pos (show s 346 i ≠ 1 from k1), if_neg k1]
    by_cases k2 : s 346 i = 2
    · rw [if_neg (show ¬ s 346 i ≠ 2 from fun x => x k2), if_pos k2]
      by_cases a : y_am s (s 3223 i) = 0
      · rw [if_pos a, if_pos a]
      · rw [if_neg a, if_neg a]
    · rw [if_pos (show s 346 i ≠ 2 from k2), if_neg k2]
      by_cases k0 : s 346 i = 0
      · rw [if_pos k0, if_pos (Or.inl k0)]
      · rw [if_neg k0]
        by_cases k7 : s 346 i = 7
        · rw [if_neg (show ¬ s 346 i ≠ 7 from fun x => x k7), if_pos (Or.inr k7)]
        · rw [if_pos (show s 346 i ≠ 7 from k7), if_neg (show ¬ (s 346 i = 0 ∨ s 346 i = 7) by omega)]
          by_cases k6 : s 346 i = 6
          · rw [if_neg (show ¬ s 346 i ≠ 6 from fun x => x k6), if_pos k6]
          · rw [if_pos (show s 346 i ≠ 6 from k6), if_neg k6]
def y_wm (s : z_M) (u : Int) : Int := if y_am s u = 0 then y_sum (y_lm s) (s 3221 u) (s 3222 u).toNat else 12
/-- where units and signs of the reference lie -/
def y_Rw (s : z_M) : Prop := (0 ≤ s 309 20 ∧ s 309 20 ≤ 200) ∧ (∀ u : Int, 0 ≤ u → u < s 309 20 → 0 ≤ s 3221 u ∧ 1 ≤ s 3222 u ∧ s 3221 u + s 3222 u ≤ 200) ∧ (∀ j : Int, 0 ≤ s 3223 j ∧ s 3223 j < 200) ∧ ∀ u : Int, 0 ≤ u → u < s 309 20 → s 3220 u = 7 → 0 ≤ s 361 (s 3221 u) ∧ s 361 (s 3221 u) < 200
theorem em_wdL {fu : Nat} {s : z_M} (h : y_Rw s) {u : Int} (hu : 0 ≤ u ∧ u < s 309 20) {k : z_M → Int → z_O} : ∀ (m F : Nat) (t i : Int), (m : Int) = s 3221 u + s 3222 u - i → m < F → s 3221 u ≤ i → t = y_sum (y_lm s) (s 3221 u) (i - s 3221 u).toNat → fX12_width_L20 fu 309 u F s t i k = k s (y_sum (y_lm s) (s 3221 u) (s 3222 u).toNat) := by
  have n := h.1
  have w := h.2.1 u hu.1 hu.2
  have u2 : 0 ≤ u ∧ u < 200 := by omega
  intro m
  induction m with
  | zero =>
    intro F t i h1 hF h3 h4
    obtain ⟨F, rfl⟩ : ∃ F2, F = F2 + 1 := ⟨F - 1, by omega⟩
    rw [fX12_width_L20.eq_2]
    simp only [z_let, if_pos v_ob309, v_gm22, v_gm23, if_pos (v_x3221 u2), if_pos (v_x3222 u2)]
    rw [v_wid (by omega), if_pos (show s 3221 u + s 3222 u ≤ i by omega), h4, show (i - s 3221 u).toNat = (s 3222 u).toNat by omega]
  | succ m ih =>
    intro F t i h1 hF h3 h4
    obtain ⟨F, rfl⟩ : ∃ F2, F = F2 + 1 := ⟨F - 1, by omega⟩
    have b := y_sum_r (f := y_lm s) (a := s 3221 u) (m := 12) (i - s 3221 u).toNat (fun j _ _ => y_lm_b)
    have b2 := y_lm_b (s := s) (i := i)
    rw [fX12_width_L20.eq_2]
    simp only [z_let, if_pos v_ob309, v_gm22, v_gm23, if_pos (v_x3221 u2), if_pos (v_x3222 u2)]
    rw [v_wid (by omega), if_neg (show ¬ s 3221 u + s 3222 u ≤ i by omega), em_signLong ⟨by omega, by omega⟩ (h.2.2.1 i)]
    simp only [zb_I]
    rw [v_wid (by omega), v_wid (by omega)]
    refine ih F _ _ (by omega) (by omega) (by omega) ?_
    rw [show (i + 1 - s 3221 u).toNat = (i - s 3221 u).toNat + 1 by omega, y_sum_s, h4, show s 3221 u + (((i - s 3221 u).toNat : Nat) : Int) = i by omega]
theorem em_width {fu : Nat} (hfu : 8589934592 ≤ fu) {s : z_M} (h : y_Rw s) {u : Int} (hu : 0 ≤ u ∧ u < s 309 20) : fX12_width fu s 309 u = some (vI (y_wm s u), s) := by
  have n := h.1
  have w := h.2.1 u hu.1 hu.2
  have u2 : 0 ≤ u ∧ u < 200 := by omega
  unfold fX12_width
  rw [if_pos v_ob309, em_isAcross u2]
  simp only [zb_I]
  unfold y_wm
  by_cases a : y_am s u = 0
  · rw [if_pos a, if_pos a]
    simp only [z_let, if_pos v_ob309, v_gm22, if_pos (v_x3221 u2)]
    rw [em_wdL h hu (s 3222 u).toNat fu 0 (s 3221 u) (by omega) (by omega) (Int.le_refl _) (by rw [show s 3221 u - s 3221 u = 0 by omega]; rfl)]
  · rw [if_neg a, if_neg a]
def y_gm (s : z_M) (u : Int) : Int := if s 3220 u = 7 then s 391 (s 361 (s 3221 u)) else -1
def y_rl (s : z_M) (u d : Int) : Int := s (407 + s 361 (s 3221 u)) (10 * d)
theorem em_group {fu : Nat} {s : z_M} (h : y_Rw s) {u : Int} (hu : 0 ≤ u ∧ u < s 309 20) : fX12_group fu s 309 u = some (vI (y_gm s u), s) := by
  have n := h.1
  have w := h.2.1 u hu.1 hu.2
  have u2 : 0 ≤ u ∧ u < 200 := by omega
  have a2 : 0 ≤ s 3221 u ∧ s 3221 u < 200 := by omega
  unfold fX12_group fX12_group_J35 y_gm
  simp only [z_let, if_pos v_ob309, v_gm21, v_gm17, v_gm15, v_gm22, v_gz390.1, if_pos v_gz390.2, v_gz360.1, if_pos v_gz360.2, if_pos (v_x3220 u2), if_pos (v_x3221 u2), if_pos (v_x361 a2)]
  by_cases k7 : s 3220 u = 7
  · rw [if_neg (show ¬ s 3220 u ≠ 7 from fun x => x k7), if_pos (v_x391 (h.2.2.2 u hu.1 hu.2 k7)), if_pos k7]
  · rw [if_pos (show s 3220 u ≠ 7 from k7), if_neg k7]
theorem em_lettersOf {fu : Nat} {s : z_M} (h : y_Rw s) {u d : Int} (hu : 0 ≤ u ∧ u < s 309 20) (k7 : s 3220 u = 7) (hd : d = 0 ∨ d = 1) : fX12_lettersOf fu s 309 u d = some (vI (y_rl s u d), s) := by
  have n := h.1
  have w := h.2.1 u hu.1 hu.2
  have u2 : 0 ≤ u ∧ u < 200 := by omega
  have a2 : 0 ≤ s 3221 u ∧ s 3221 u < 200 := by omega
  have b2 := h.2.2.2 u hu.1 hu.2 k7
  unfold fX12_lettersOf y_rl
  simp only [z_let, if_pos v_ob309, v_gm18, v_gm15, v_gm22, v_gz405.1, if_pos v_gz405.2, v_gz360.1, if_pos v_gz360.2, if_pos (v_x3221 u2), if_pos (v_x361 a2), if_pos (v_x406 b2), gr_406]
  rw [v_wid (by omega), if_pos (v_xl b2 (by omega))]
/-- the reference's units, as D tells them -/
def y_MU2 (D s : z_M) : Prop := y_Rw s ∧ s 312 6 = D 5 0 ∧ (∀ u : Int, 0 ≤ u → u < s 309 20 → s 3220 u = D 0 u ∧ y_wm s u = D 1 u ∧ (D 0 u = 7 → y_gm s u = D 2 u ∧ y_rl s u 0 = D 3 u ∧ y_rl s u 1 = D 4 u)) ∧ y_DF D (s 309 20)
theorem y_MU2.fr {D s s' : z_M} (h : y_MU2 D s) (e : s' 309 20 = s 309 20) (f : ∀ a b : Int, 316 ≤ a → a ≤ 3223 → s' a b = s a b) (g : ∀ j : Int, j ≠ 2 → s' 312 j = s 312 j) : y_MU2 D s' := by
  obtain ⟨⟨r1, r2, r3, r4⟩, h2, h3, h4⟩ := h
  have am : y_am s' = y_am s := funext fun u => by
    unfold y_am; rw [f 3220 u (by decide) (by decide), g 5 (by decide), f 3222 u (by decide) (by decide), g 1 (by decide)]
  have lm : y_lm s' = y_lm s := funext fun i => by
    unfold y_lm; rw [f 346 i (by decide) (by decide), f 331 i (by decide) (by decide), am, f 3223 i (by decide) (by decide)]
  refine ⟨⟨by rw [e]; exact r1, fun u p q => ?_, fun j => ?_, fun u p q k => ?_⟩, (g 6 (by decide)).trans h2, fun u p q => ?_, by rw [e]; exact h4⟩
  · rw [f 3221 u (by decide) (by decide), f 3222 u (by decide) (by decide)]; exact r2 u p (by omega)
  · rw [f 3223 j (by decide) (by decide)]; exact r3 j
  · rw [f 3221 u (by decide) (by decide), f 361 _ (by decide) (by decide)]
    rw [f 3220 u (by decide) (by decide)] at k
    exact r4 u p (by omega) k
  · obtain ⟨x1, x2, x3⟩ := h3 u p (by omega)
    refine ⟨(f 3220 u (by decide) (by decide)).trans x1, ?_, fun k => ?_⟩
    · unfold y_wm at x2 ⊢
      rw [am, lm, f 3221 u (by decide) (by decide), f 3222 u (by decide) (by decide)]; exact x2
    · obtain ⟨y1, y2, y3⟩ := x3 k
      have b := r4 u p (by omega) (x1.trans k)
      unfold y_gm at y1 ⊢
      unfold y_rl at y2 y3 ⊢
      rw [f 3220 u (by decide) (by decide), f 3221 u (by decide) (by decide), f 361 _ (by decide) (by decide), f 391 _ (by decide) (by decide), f _ (10 * 0) (by omega) (by omega), f _ (10 * 1) (by omega) (by omega)]
      exact ⟨y1, y2, y3⟩
theorem em_isPoint {fu : Nat} {s : z_M} {u : Int} (h : 0 ≤ u ∧ u < 200) : fX12_isPoint fu s 309 u = some (vI (if s 3220 u = 3 ∨ s 3220 u = 5 then 1 else 0), s) := by
  unfold fX12_isPoint fX12_isPoint_J20 fX12_isPoint_J25
  simp only [z_let, if_pos v_ob309, v_gm21, if_pos (v_x3220 h), if_pos bl0, if_pos bl1]
  by_cases k3 : s 3220 u = 3
  · rw [if_pos k3, if_pos (Or.inl k3)]
  · rw [if_neg k3]
    by_cases k5 : s 3220 u = 5
    · rw [if_neg (show ¬ s 3220 u ≠ 5 from fun x => x k5), if_pos (Or.inr k5)]
    · rw [if_pos (show s 3220 u ≠ 5 from k5), if_neg (show ¬ (s 3220 u = 3 ∨ s 3220 u = 5) by omega)]
/-! spaces -/
theorem em_sp1 {fu : Nat} {D s : z_M} (h : y_MU2 D s) {b a1 a4 : Int} {k : z_M → Int → z_O} (hb : b < s 309 20) : ∀ (m F : Nat) (i : Int), (m : Int) = b + 1 - i → m < F → 0 ≤ i → fX12_laysSpaces_L5 fu 309 a1 b a4 F s i k = k s (y_ik (D 0) b m i) := by
  have n := h.1.1
  intro m
  induction m with
  | zero =>
    intro F i h1 hF h0
    obtain ⟨F, rfl⟩ : ∃ F2, F = F2 + 1 := ⟨F - 1, by omega⟩
    rw [fX12_laysSpaces_L5.eq_2, if_pos (show b < i by omega)]; rfl
  | succ m ih =>
    intro F i h1 hF h0
    obtain ⟨F, rfl⟩ : ∃ F2, F = F2 + 1 := ⟨F - 1, by omega⟩
    rw [fX12_laysSpaces_L5.eq_2, if_neg (show ¬ b < i by omega)]
    simp only [z_let, if_pos v_ob309, v_gm21, if_pos (v_x3220 (show 0 ≤ i ∧ i < 200 by omega)), (h.2.2.1 i h0 (by omega)).1]
    rw [y_ik_e, if_pos (show i ≤ b by omega)]
    by_cases q : D 0 i = 6
    · rw [if_neg (show ¬ D 0 i ≠ 6 from fun x => x q), if_pos q, v_wid (by omega)]
      exact ih F (i + 1) (by omega) (by omega) (by omega)
    · rw [if_pos (show D 0 i ≠ 6 from q), if_neg q]
theorem em_sp2 {fu : Nat} {D s : z_M} (h : y_MU2 D s) {g a1 a2 : Int} {k : z_M → Int → z_O} (hg : 0 ≤ g) : ∀ (m F : Nat) (j : Int), (m : Int) = j + 1 - g → m < F → j < s 309 20 → fX12_laysSpaces_L27 fu 309 a1 a2 g F s j k = k s (y_lk (D 0) g m j) := by
  have n := h.1.1
  intro m
  induction m with
  | zero =>
    intro F i h1 hF h0
    obtain ⟨F, rfl⟩ : ∃ F2, F = F2 + 1 := ⟨F - 1, by omega⟩
    rw [fX12_laysSpaces_L27.eq_2, if_pos (show i < g by omega)]; rfl
  | succ m ih =>
    intro F i h1 hF h0
    obtain ⟨F, rfl⟩ : ∃ F2, F = F2 + 1 := ⟨F - 1, by omega⟩
    rw [fX12_laysSpaces_L27.eq_2, if_neg (show ¬ i < g by omega)]
    simp only [z_let, if_pos v_ob309, v_gm21, if_pos (v_x3220 (show 0 ≤ i ∧ i < 200 by omega)), (h.2.2.1 i (by omega) h0).1]
    rw [y_lk_e, if_pos (show g ≤ i by omega)]
    by_cases q : D 0 i = 6
    · rw [if_neg (show ¬ D 0 i ≠ 6 from fun x => x q), if_pos q, v_wid (by omega)]
      exact ih F (i - 1) (by omega) (by omega) (by omega)
    · rw [if_pos (show D 0 i ≠ 6 from q), if_neg q]
/-- width of a unit before hanging is told -/
def y_w0 (D : z_M) (a b u : Int) : Int := if u < y_fr D a b ∨ y_to D a b < u then 0 else D 1 u
theorem em_sp195 {fu : Nat} {s : z_M} {b f t u x : Int} {r : z_M → Int → z_O} {k : z_M → z_O} (hu : 0 ≤ u ∧ u < 200) : fX12_laysSpaces_J195 fu s 309 b f t u 3226 u x r k = r (z_up s 3226 u x) (u + 1) := by
  unfold fX12_laysSpaces_J195
  simp only [z_let, if_pos (v_x3226 hu)]
  rw [v_wid (by omega)]
theorem em_sp155 {fu : Nat} {D s : z_M} (h : y_MU2 D s) {a b u x : Int} {r : z_M → Int → z_O} {k : z_M → z_O} (hb : b < s 309 20) (ha : 0 ≤ a) (hu : a ≤ u ∧ u ≤ b) : fX12_laysSpaces_J155 fu s 309 b (y_fr D a b) (y_to D a b) u 3225 u x r k = r (z_up (z_up s 3225 u x) 3226 u (y_sB D a b u)) (u + 1) := by
  have n := h.1.1
  have ft := y_ft (D := D) (show a ≤ b + 1 by omega)
  have u2 : 0 ≤ u ∧ u < 200 := by omega
  have e0 : z_up s 3225 u x 3220 u = D 0 u := (z_up_k (by decide)).trans (h.2.2.1 u (by omega) (by omega)).1
  unfold fX12_laysSpaces_J155 fX12_laysSpaces_J194
  simp only [z_let, if_pos (v_x3225 u2), if_pos v_ob309, v_gm27, em_isPoint u2, zb_I, em_sp195 u2, e0]
  by_cases p : D 0 u = 3 ∨ D 0 u = 5
  · rw [if_pos p, if_neg (show ¬ (1 : Int) = 0 by decide)]
    by_cases q : y_to D a b ≤ u
    · rw [if_pos q]
      unfold y_sB
      rw [if_neg (show ¬ ((D 0 u = 3 ∨ D 0 u = 5) ∧ u < y_to D a b ∧ D 0 (u + 1) ≠ 3 ∧ D 0 (u + 1) ≠ 5) by omega)]
    · have u3 : 0 ≤ u + 1 ∧ u + 1 < 200 := by omega
      have e1 : z_up s 3225 u x 3220 (u + 1) = D 0 (u + 1) := (z_up_k (by decide)).trans (h.2.2.1 (u + 1) (by omega) (by omega)).1
      rw [if_neg q, v_wid (by omega), em_isPoint u3]
      simp only [zb_I, e1]
      by_cases p2 : D 0 (u + 1) = 3 ∨ D 0 (u + 1) = 5
      · rw [if_pos p2, if_pos (show (1 : Int) ≠ 0 by decide)]
        unfold y_sB
        rw [if_neg (show ¬ ((D 0 u = 3 ∨ D 0 u = 5) ∧ u < y_to D a b ∧ D 0 (u + 1) ≠ 3 ∧ D 0 (u + 1) ≠ 5) by omega)]
      · rw [if_neg p2, if_neg (show ¬ (0 : Int) ≠ 0 by decide)]
        unfold y_sB
        rw [if_pos (show (D 0 u = 3 ∨ D 0 u = 5) ∧ u < y_to D a b ∧ D 0 (u + 1) ≠ 3 ∧ D 0 (u + 1) ≠ 5 by omega)]
  · rw [if_neg p, if_pos rfl, y_sB_n (fun x => p (Or.inl x)) (fun x => p (Or.inr x))]
theorem em_sp101 {fu : Nat} {D s : z_M} (h : y_MU2 D s) {a b u x : Int} {r : z_M → Int → z_O} {k : z_M → z_O} (hb : b < s 309 20) (ha : 0 ≤ a) (hu : a ≤ u ∧ u ≤ b) : fX12_laysSpaces_J101 fu s 309 b (y_fr D a b) (y_to D a b) u 3224 u x r k = r (z_up (z_up (z_up s 3224 u x) 3225 u (y_sA D a b u)) 3226 u (y_sB D a b u)) (u + 1) := by
  have n := h.1.1
  have ft := y_ft (D := D) (show a ≤ b + 1 by omega)
  have u2 : 0 ≤ u ∧ u < 200 := by omega
  have h1 : y_MU2 D (z_up s 3224 u x) := h.fr (z_up_k (by decide)) (fun c d p q => z_up_k (by omega)) (fun j q => z_up_k (by decide))
  have hb1 : b < z_up s 3224 u x 309 20 := by rw [z_up_k (by decide)]; exact hb
  have e0 : z_up s 3224 u x 3220 u = D 0 u := (h1.2.2.1 u (by omega) (by omega)).1
  unfold fX12_laysSpaces_J101 fX12_laysSpaces_J154
  simp only [z_let, if_pos (v_x3224 u2), if_pos v_ob309, v_gm26, v_gm21, if_pos (v_x3220 u2), em_sp155 h1 hb1 ha hu, e0]
  by_cases k4 : D 0 u = 4
  · rw [if_neg (show ¬ D 0 u ≠ 4 from fun x => x k4)]
    by_cases q : u ≤ y_fr D a b
    · rw [if_pos q]
      have e : y_sA D a b u = 0 := by
        unfold y_sA
        rw [if_neg (show ¬ (D 0 u = 4 ∧ y_fr D a b < u ∧ D 0 (u - 1) ≠ 3 ∧ D 0 (u - 1) ≠ 5 ∧ D 0 (u - 1) ≠ 4) by omega)]
      rw [e]
    · have u3 : 0 ≤ u - 1 ∧ u - 1 < 200 := by omega
      have e1 : z_up s 3224 u x 3220 (u - 1) = D 0 (u - 1) := (h1.2.2.1 (u - 1) (by omega) (by omega)).1
      rw [if_neg q, v_wid (show -2147483648 ≤ u - 1 ∧ u - 1 ≤ 2147483647 by omega), em_isPoint u3]
      simp only [zb_I, e1, if_pos (v_x3220 u3)]
      by_cases p2 : D 0 (u - 1) = 3 ∨ D 0 (u - 1) = 5
      · have e : y_sA D a b u = 0 := by
          unfold y_sA
          rw [if_neg (show ¬ (D 0 u = 4 ∧ y_fr D a b < u ∧ D 0 (u - 1) ≠ 3 ∧ D 0 (u - 1) ≠ 5 ∧ D 0 (u - 1) ≠ 4) by omega)]
        rw [if_pos p2, if_pos (show (1 : Int) ≠ 0 by decide), e]
        exact em_sp155 h1 hb1 ha hu
      · rw [if_neg p2, if_neg (show ¬ (0 : Int) ≠ 0 by decide)]
        by_cases p4 : D 0 (u - 1) = 4
        · have e : y_sA D a b u = 0 := by
            unfold y_sA
            rw [if_neg (show ¬ (D 0 u = 4 ∧ y_fr D a b < u ∧ D 0 (u - 1) ≠ 3 ∧ D 0 (u - 1) ≠ 5 ∧ D 0 (u - 1) ≠ 4) by omega)]
          rw [if_pos p4, e]
          exact em_sp155 h1 hb1 ha hu
        · have e : y_sA D a b u = 6 := by
            unfold y_sA
            rw [if_pos (show D 0 u = 4 ∧ y_fr D a b < u ∧ D 0 (u - 1) ≠ 3 ∧ D 0 (u - 1) ≠ 5 ∧ D 0 (u - 1) ≠ 4 by omega)]
          rw [if_neg p4, e]
          exact em_sp155 h1 hb1 ha hu
  · rw [if_pos (show D 0 u ≠ 4 from k4), y_sA_n k4]
theorem em_spL {fu : Nat} (hfu : 8589934592 ≤ fu) {D : z_M} {a b : Int} {s0 : z_M} {k : z_M → z_O} {P : z_V → z_M → Prop} (h : y_MU2 D s0) (hb : b < s0 309 20) (ha : 0 ≤ a)
    (hk : ∀ s' : z_M, (∀ v : Int, a ≤ v → v ≤ b → s' 3224 v = y_w0 D a b v ∧ s' 3225 v = y_sA D a b v ∧ s' 3226 v = y_sB D a b v) → (∀ x y : Int, ¬ (3224 ≤ x ∧ x ≤ 3226) → s' x y = s0 x y) → z_T (k s') P) :
    ∀ (m F : Nat) (s : z_M) (u : Int), (m : Int) = b + 1 - u → m < F → a ≤ u → (∀ v : Int, a ≤ v → v < u → s 3224 v = y_w0 D a b v ∧ s 3225 v = y_sA D a b v ∧ s 3226 v = y_sB D a b v) → (∀ x y : Int, ¬ (3224 ≤ x ∧ x ≤ 3226) → s x y = s0 x y) → z_T (fX12_laysSpaces_L54 fu 309 b (y_fr D a b) (y_to D a b) F s u k) P := by
  intro m
  induction m with
  | zero =>
    intro F s u h1 hF h3 g f
    obtain ⟨F, rfl⟩ : ∃ F2, F = F2 + 1 := ⟨F - 1, by omega⟩
    refine T_of (fX12_laysSpaces_L54.eq_2 ..) ?_
    refine T_if1 (show b < u by omega) ?_
    exact hk s (fun v p q => g v p (by omega)) f
  | succ m ih =>
    intro F s u h1 hF h3 g f
    obtain ⟨F, rfl⟩ : ∃ F2, F = F2 + 1 := ⟨F - 1, by omega⟩
    have hs : y_MU2 D s := h.fr (f _ _ (by decide)) (fun c d p q => f c d (by omega)) (fun j q => f _ _ (by decide))
    have e20 : s 309 20 = s0 309 20 := f _ _ (by decide)
    have n := hs.1.1
    have ft := y_ft (D := D) (show a ≤ b + 1 by omega)
    have u2 : 0 ≤ u ∧ u < 200 := by omega
    have step : ∀ x : Int, x = y_w0 D a b u → z_T (fX12_laysSpaces_J101 fu s 309 b (y_fr D a b) (y_to D a b) u 3224 u x (fun w v5 => fX12_laysSpaces_L54 fu 309 b (y_fr D a b) (y_to D a b) F w v5 k) k) P := fun x ex => by
      refine T_of (em_sp101 hs (by omega) ha ⟨h3, by omega⟩) ?_
      refine ih F _ (u + 1) (by omega) (by omega) (by omega) (fun v p q => ?_) (fun c d q => ?_)
      · by_cases z : v = u
        · subst z
          rw [z_up_k (by decide), z_up_k (by decide), z_up_s, z_up_k (by decide), z_up_s, z_up_s]
          exact ⟨ex, rfl, rfl⟩
        · rw [z_up_k (by decide), z_up_k (by decide), z_up_j z, z_up_k (by decide), z_up_j z, z_up_k (by decide), z_up_j z, z_up_k (by decide), z_up_k (by decide)]
          exact g v p (by omega)
      · rw [z_up_k (by omega), z_up_k (by omega), z_up_k (by omega)]
        exact f c d q
    have full : y_fr D a b ≤ u → u ≤ y_to D a b → z_T (fX12_laysSpaces_J95 fu s 309 b (y_fr D a b) (y_to D a b) u 3224 u (fun w v5 => fX12_laysSpaces_L54 fu 309 b (y_fr D a b) (y_to D a b) F w v5 k) k) P := fun q1 q2 => by
      refine T_of (fX12_laysSpaces_J95.eq_1 ..) ?_
      refine T_if1 v_ob309 ?_
      refine T_bI (T_of (em_width hfu hs.1 ⟨by omega, by omega⟩) (T_rI ?_))
      rw [(hs.2.2.1 u (by omega) (by omega)).2.1]
      refine step _ ?_
      unfold y_w0
      rw [if_neg (show ¬ (u < y_fr D a b ∨ y_to D a b < u) by omega)]
    have none0 : u < y_fr D a b ∨ y_to D a b < u → z_T (fX12_laysSpaces_J91 fu s 309 b (y_fr D a b) (y_to D a b) u 3224 u (fun w v5 => fX12_laysSpaces_L54 fu 309 b (y_fr D a b) (y_to D a b) F w v5 k) k) P := fun q => by
      refine T_of (fX12_laysSpaces_J91.eq_1 ..) ?_
      refine step 0 ?_
      unfold y_w0
      rw [if_pos q]
    refine T_of (fX12_laysSpaces_L54.eq_2 ..) ?_
    refine T_if0 (show ¬ b < u by omega) ?_
    refine T_if1 v_ob309 ?_
    refine T_let 3224 v_gm25 ?_
    refine T_if1 v_ob309 ?_
    refine T_let 3220 v_gm21 ?_
    refine T_if1 (v_x3220 u2) ?_
    refine T_let (D 0 u) (hs.2.2.1 u (by omega) (by omega)).1 ?_
    refine T_ite (fun k6 => ?_) (fun k6 => ?_)
    · refine full ?_ ?_
      · by_cases z : y_fr D a b ≤ u
        · exact z
        · exact absurd (ft.2.2.1 u h3 (by omega)) k6
      · by_cases z : u ≤ y_to D a b
        · exact z
        · exact absurd (ft.2.2.2.1 u (by omega) (by omega)) k6
    · refine T_ite (fun q => none0 (Or.inl q)) (fun q => ?_)
      exact T_ite (fun q2 => full (by omega) q2) (fun q2 => none0 (Or.inr (by omega)))
/-- what laysSpaces leaves -/
def y_LS (D s s' : z_M) (a b : Int) : Prop := (∀ v : Int, a ≤ v → v ≤ b → s' 3224 v = y_w D a b v ∧ s' 3225 v = y_sA D a b v ∧ s' 3226 v = y_sB D a b v) ∧ s' 309 35 = y_hg D a b ∧ ∀ x y : Int, ¬ (3224 ≤ x ∧ x ≤ 3226) → ¬ (x = 309 ∧ y = 35) → s' x y = s x y
theorem em_sp235 {fu : Nat} {D s s0 : z_M} {a b t1 : Int} (ht : t1 = y_hg D a b) (h0 : y_to D a b < 200) (h1 : t1 = 1 → 0 ≤ y_to D a b) (g : ∀ v : Int, a ≤ v → v ≤ b → s 3224 v = y_w0 D a b v ∧ s 3225 v = y_sA D a b v ∧ s 3226 v = y_sB D a b v) (f : ∀ x y : Int, ¬ (3224 ≤ x ∧ x ≤ 3226) → s x y = s0 x y) : z_T (fX12_laysSpaces_J235 fu s 309 (y_to D a b) 309 t1) (fun v s' => v = vN ∧ y_LS D s0 s' a b) := by
  have h01 := y_hg_01 (D := D) (a := a) (b := b)
  refine T_of (fX12_laysSpaces_J235.eq_1 ..) ?_
  refine T_if1 ⟨v_ob309, by unfold z_bl; omega⟩ ?_
  refine T_up ?_
  refine T_if1 v_ob309 ?_
  refine T_let t1 z_up_s ?_
  refine T_ite (fun q => ?_) (fun q => ?_)
  · refine T_of (fX12_laysSpaces_J253.eq_1 ..) ?_
    refine T_ret ⟨rfl, fun v p r => ?_, z_up_s.trans ht, fun x y p r => (z_up_k2 r).trans (f x y p)⟩
    rw [z_up_k (by decide), z_up_k (by decide), z_up_k (by decide)]
    obtain ⟨g1, g2⟩ := g v p r
    refine ⟨?_, g2⟩
    rw [g1]
    unfold y_w y_w0
    by_cases z : v < y_fr D a b ∨ y_to D a b < v
    · rw [if_pos z, if_pos z]
    · rw [if_neg z, if_neg z, if_neg (show ¬ (y_hg D a b = 1 ∧ v = y_to D a b) by omega)]
  · have t : t1 = 1 := by omega
    refine T_if1 v_ob309 ?_
    refine T_let 3224 v_gm25 ?_
    refine T_if1 (v_x3224 ⟨h1 t, h0⟩) ?_
    refine T_up ?_
    refine T_of (fX12_laysSpaces_J253.eq_1 ..) ?_
    refine T_ret ⟨rfl, fun v p r => ?_, (z_up_k (by decide)).trans (z_up_s.trans ht), fun x y p r => (z_up_k (by omega)).trans ((z_up_k2 r).trans (f x y p))⟩
    obtain ⟨g1, g2⟩ := g v p r
    rw [z_up_k (show (3225 : Int) ≠ 3224 by decide), z_up_k (show (3226 : Int) ≠ 3224 by decide), z_up_k (show (3225 : Int) ≠ 309 by decide), z_up_k (show (3226 : Int) ≠ 309 by decide)]
    refine ⟨?_, g2⟩
    by_cases z2 : v = y_to D a b
    · rw [z2, z_up_s]
      unfold y_w
      by_cases z : y_to D a b < y_fr D a b ∨ y_to D a b < y_to D a b
      · rw [if_pos z]
      · rw [if_neg z, if_pos ⟨by omega, rfl⟩]
    · rw [z_up_j z2, z_up_k (by decide), g1]
      unfold y_w y_w0
      by_cases z : v < y_fr D a b ∨ y_to D a b < v
      · rw [if_pos z, if_pos z]
      · rw [if_neg z, if_neg z, if_neg (show ¬ (y_hg D a b = 1 ∧ v = y_to D a b) by omega)]
theorem em_laysSpaces {fu : Nat} (hfu : 8589934592 ≤ fu) {D s : z_M} (h : y_MU2 D s) {a b : Int} (ha : 0 ≤ a ∧ a ≤ b) (hb : b < s 309 20) : z_T (fX12_laysSpaces fu s 309 a b) (fun v s' => v = vN ∧ y_LS D s s' a b) := by
  have n := h.1.1
  have ft := y_ft (D := D) (show a ≤ b + 1 by omega)
  unfold fX12_laysSpaces
  rw [em_sp1 h hb (b + 1 - a).toNat fu a (by omega) (by omega) ha.1]
  show z_T (fX12_laysSpaces_L27 fu 309 a b (y_fr D a b) fu s b _) _
  rw [em_sp2 h (show 0 ≤ y_fr D a b by omega) (b + 1 - y_fr D a b).toNat fu b (by omega) (by omega) hb]
  show z_T (fX12_laysSpaces_J51 fu s 309 a b (y_fr D a b) (y_to D a b)) _
  refine T_of (fX12_laysSpaces_J51.eq_1 ..) ?_
  refine em_spL hfu h hb ha.1 (fun s' g f => ?_) (b + 1 - a).toNat fu s a (by omega) (by omega) (Int.le_refl _) (fun v p q => by omega) (fun _ _ _ => rfl)
  have e6 : s' 312 6 = D 5 0 := (f _ _ (by decide)).trans h.2.1
  have z0 : y_hg D a b = 0 → z_T (fX12_laysSpaces_J234 fu s' 309 (y_to D a b) 309) (fun v s' => v = vN ∧ y_LS D s s' a b) := fun q => by
    refine T_of (fX12_laysSpaces_J234.eq_1 ..) ?_
    exact em_sp235 q.symm (by omega) (fun w => by omega) g f
  refine T_if1 v_ob309 ?_
  refine T_let 312 v_gm9 ?_
  refine T_if1 (v_x312 (by decide)) ?_
  refine T_let (D 5 0) e6 ?_
  refine T_ite (fun q => ?_) (fun q => ?_)
  · refine z0 ?_
    unfold y_hg; rw [if_neg (fun x => q x.1)]
  refine T_ite (fun q2 => ?_) (fun q2 => ?_)
  · refine z0 ?_
    unfold y_hg; rw [if_neg (fun x => by have := x.2.1; omega)]
  have t2 := (ft.2.2.2.2.1 (by omega)).2.2
  refine T_if1 v_ob309 ?_
  refine T_let 3220 v_gm21 ?_
  refine T_if1 (v_x3220 ⟨by omega, by omega⟩) ?_
  refine T_let (D 0 (y_to D a b)) ((f _ _ (by decide)).trans (h.2.2.1 _ (by omega) (by omega)).1) ?_
  refine T_ite (fun q3 => ?_) (fun q3 => ?_)
  · refine z0 ?_
    unfold y_hg; rw [if_neg (fun x => q3 x.2.2)]
  · refine em_sp235 ?_ (by omega) (fun _ => by omega) g f
    unfold y_hg; rw [if_pos ⟨by omega, by omega, by omega⟩]
