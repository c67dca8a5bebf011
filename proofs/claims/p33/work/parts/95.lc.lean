/-! the class's layout: a line measured, its units placed, all lines -/
section TV
variable {P : z_V → z_M → Prop} {fu : Nat} {s : z_M} {k c i n v : Int}
theorem T_getV {f : Int → z_M → z_O} (hr : z_rw k ∧ z_gr k 0 = c ∧ z_ln k = n) (h : 0 ≤ i ∧ i < n) (e : s c i = v) (kk : z_T (f v s) P) : z_T (z_bI (fX7_get fu s k i) f) P := T_getX hr h (by rw [e]; exact kk)
theorem T_addG {f : z_M → z_O} (hr : z_rw k ∧ z_gr k 0 = c ∧ z_ln k = n) (h : 0 ≤ i ∧ i < n) (hv : -2147483648 ≤ s c i + v ∧ s c i + v ≤ 2147483647) (kk : ∀ s' : z_M, s' c i = s c i + v → (∀ a b : Int, ¬ (a = c ∧ b = i) → s' a b = s a b) → z_T (f s') P) : z_T (z_bN (fX7_add fu s k i v) f) P := T_addX hr h (by rw [v_wid hv]; exact kk _ z_up_s (fun _ _ q => z_up_k2 q))
end TV
theorem w_r2 : z_rw 2 ∧ z_gr 2 0 = 3 ∧ z_ln 2 = 9 := by decide +kernel
theorem w_r192 : z_rw 192 ∧ z_gr 192 0 = 193 ∧ z_ln 192 = 200 := by decide +kernel
theorem w_r200 : z_rw 200 ∧ z_gr 200 0 = 201 ∧ z_ln 200 = 200 := by decide +kernel
theorem w_r208 : z_rw 208 ∧ z_gr 208 0 = 209 ∧ z_ln 208 = 200 := by decide +kernel
theorem w_r247 : z_rw 247 ∧ z_gr 247 0 = 248 ∧ z_ln 247 = 201 := by decide +kernel
theorem w_r269 : z_rw 269 ∧ z_gr 269 0 = 270 ∧ z_ln 269 = 200 := by decide +kernel
theorem w_r271 : z_rw 271 ∧ z_gr 271 0 = 272 ∧ z_ln 271 = 200 := by decide +kernel
theorem w_r273 : z_rw 273 ∧ z_gr 273 0 = 274 ∧ z_ln 273 = 200 := by decide +kernel
theorem w_r275 : z_rw 275 ∧ z_gr 275 0 = 276 ∧ z_ln 275 = 200 := by decide +kernel
theorem w_r277 : z_rw 277 ∧ z_gr 277 0 = 278 ∧ z_ln 277 = 201 := by decide +kernel
theorem e_spaceOfL {fu : Nat} {D s : z_M} (h : y_CU2 D s) {a b u : Int} (tr : y_TR D s a b) (hu : a ≤ u ∧ u ≤ b) : fX5_spaceOf fu s 220 u = some (vI (y_sA D a b u + y_sB D a b u), s) := by
  have ft := y_ft (D := D) tr.2.2.1.2.1
  by_cases q : y_fr D a b ≤ u ∧ u ≤ y_to D a b
  · exact e_spaceOf h tr q
  · have k6 : D 0 u = 6 := by
      by_cases w : u < y_fr D a b
      · exact ft.2.2.1 u hu.1 w
      · exact ft.2.2.2.1 u (by omega) hu.2
    have n2 := h.1.2
    have l := tr.2.2.1
    have eK := (h.2.2.1 u (by omega) (by omega)).1
    have z := y_sAB0 (D := D) (a := a) (b := b) (u := u) (Or.inl k6)
    unfold fX5_spaceOf fX5_spaceOf_J103 fX5_spaceOf_J109
    simp only [z_let, if_pos v_220.1, v_220.2.1, if_pos v_ob191, v_g2, if_pos v_rw192.1, e_get v_rw192, zb_I, v_rgn v_c192 v_l192 (show 0 ≤ u ∧ u < 200 by omega), eK]
    rw [if_neg (show ¬ D 0 u = 3 by omega), if_pos (show D 0 u ≠ 5 by omega), if_pos (show D 0 u ≠ 4 by omega), z.1, z.2]
    rfl
theorem y_hgs {D : z_M} {a b : Int} : (if y_hg D a b = 1 ∧ y_to D a b = y_to D a b then (1 : Int) else 0) = y_hg D a b := by
  rcases y_hg_01 (D := D) (a := a) (b := b) with q | q
  · rw [q, if_neg (fun w => absurd w.1 (by decide))]
  · rw [q, if_pos ⟨rfl, rfl⟩]
/-- cells up to what the measure keeps are alike -/
theorem y_CM.fw {D : z_M} {E : Int → Int} {s0 s s' : z_M} (h : y_CM D E s0 s) (f : ∀ x y : Int, x ≤ 219 → s' x y = s x y) (f2 : ∀ y : Int, s' 222 y = s 222 y) : y_CM D E s' s' := by
  obtain ⟨h1, h2, h3, h4, h5, h6⟩ := h
  refine ⟨h1.fr (f _ _ (by decide)) (f _ _ (by decide)) (fun a b p q => f a b (by omega)), h2.fr (f _ _ (by decide)) (f _ _ (by decide)) f2, by rw [f 3 2 (by decide)]; exact h3, fun u p q => ?_, fun v p q => ?_, fun _ _ _ _ => rfl⟩
  · rw [f 209 u (by decide)]; rw [f 191 16 (by decide)] at q; exact h4 u p q
  · rw [f 213 v (by decide)]; rw [f 191 16 (by decide)] at q; exact h5 v p q
theorem e_hasGap {fu : Nat} {D s : z_M} {E : Int → Int} (h : y_CU2 D s) (hE : ∀ u : Int, 0 ≤ u → u < s 191 16 → s 209 u = E u) (hE1 : ∀ u : Int, E u = 0 ∨ E u = 1) {a b u : Int} (tr : y_TR D s a b) (hu : a ≤ u ∧ u ≤ b) : fX3_hasGapBehind fu s 258 u = some (vI (y_gq D E a b u), s) := by
  have ft := y_ft (D := D) tr.2.2.1.2.1
  have n2 := h.1.2
  have l := tr.2.2.1
  have e01 := hE1 u
  have dn := (h.2.2.2.2 u (by omega) (by omega)).2.2.2.1
  refine T_eq ?_
  refine T_of (fX3_hasGapBehind.eq_1 ..) ?_
  refine T_if1 (by decide +kernel) ?_
  refine T_let 220 (by decide +kernel) ?_
  refine T_if1 (by decide +kernel) ?_
  refine T_let (y_fr D a b) tr.1 ?_
  refine T_ite (fun h1 => ?_) (fun h1 => ?_)
  · refine T_of (fX3_hasGapBehind_J36.eq_1 ..) ?_
    refine T_if1 bl0 ?_
    exact T_ret ⟨congrArg vI (y_gq0 (by omega)), rfl⟩
  · refine T_if1 (by decide +kernel) ?_
    refine T_let 220 (by decide +kernel) ?_
    refine T_if1 (by decide +kernel) ?_
    refine T_let (y_to D a b) tr.2.1 ?_
    refine T_ite (fun h2 => ?_) (fun h2 => ?_)
    · refine T_of (fX3_hasGapBehind_J36.eq_1 ..) ?_
      refine T_if1 bl0 ?_
      exact T_ret ⟨congrArg vI (y_gq0 (by omega)), rfl⟩
    · refine T_if1 (by decide +kernel) ?_
      refine T_let 191 (by decide +kernel) ?_
      refine T_if1 v_ob191 ?_
      refine T_let 208 (by decide +kernel) ?_
      refine T_if1 (by decide +kernel) ?_
      refine T_getV w_r208 (by omega) (hE _ (by omega) (by omega)) ?_
      refine T_ite (fun h3 => ?_) (fun h3 => ?_)
      · refine T_if1 (by decide +kernel) ?_
        refine T_let 191 (by decide +kernel) ?_
        refine T_if1 v_ob191 ?_
        refine T_let 192 (by decide +kernel) ?_
        refine T_if1 (by decide +kernel) ?_
        refine T_getV w_r192 (by omega) ((h.2.2.1 _ (by omega) (by omega)).1) ?_
        refine T_ite (fun h4 => ?_) (fun h4 => ?_)
        · refine T_of (fX3_hasGapBehind_J81.eq_1 ..) ?_
          refine T_of (fX3_hasGapBehind_J86.eq_1 ..) ?_
          refine T_if1 bl1 ?_
          exact T_ret ⟨congrArg vI (y_gq1 (by omega)), rfl⟩
        · refine T_if1 (by decide +kernel) ?_
          refine T_let 191 (by decide +kernel) ?_
          refine T_if1 v_ob191 ?_
          refine T_let 200 (by decide +kernel) ?_
          refine T_if1 (by decide +kernel) ?_
          refine T_getV w_r200 (by omega) (((h.2.2.1 _ (by omega) (by omega)).2.2.1 (by omega)).1) ?_
          refine T_if1 (by decide +kernel) ?_
          refine T_let 191 (by decide +kernel) ?_
          refine T_if1 v_ob191 ?_
          refine T_let 200 (by decide +kernel) ?_
          refine T_let (u + 1) (v_wid (by omega)) ?_
          refine T_if1 (by decide +kernel) ?_
          refine T_getV w_r200 (by omega) rfl ?_
          refine T_ite (fun h5 => ?_) (fun h5 => ?_)
          · have g1 := (h.2.2.1 (u + 1) (by omega) (by omega)).2.2
            refine T_of (fX3_hasGapBehind_J86.eq_1 ..) ?_
            refine T_if1 bl0 ?_
            exact T_ret ⟨congrArg vI (y_gq0 (by omega)), rfl⟩
          · have g1 := (h.2.2.1 (u + 1) (by omega) (by omega)).2.2
            refine T_of (fX3_hasGapBehind_J81.eq_1 ..) ?_
            refine T_of (fX3_hasGapBehind_J86.eq_1 ..) ?_
            refine T_if1 bl1 ?_
            exact T_ret ⟨congrArg vI (y_gq1 (by omega)), rfl⟩
      · refine T_of (fX3_hasGapBehind_J36.eq_1 ..) ?_
        refine T_if1 bl0 ?_
        exact T_ret ⟨congrArg vI (y_gq0 (by omega)), rfl⟩
theorem e_gapsL {fu : Nat} {D s : z_M} {E : Int → Int} (h : y_CU2 D s) (hE : ∀ u : Int, 0 ≤ u → u < s 191 16 → s 209 u = E u) (hE1 : ∀ u : Int, E u = 0 ∨ E u = 1) {l a b : Int} (tr : y_TR D s a b) {k : z_M → Int → z_O} : ∀ (m F : Nat) (c u : Int), (m : Int) = b + 1 - u → m < F → a ≤ u → c = y_gn D E a b u → fX3_measureLine_L171 fu 258 l b F s c u k = k s (y_gn D E a b (b + 1)) := by
  have n2 := h.1.2
  have l2 := tr.2.2.1
  intro m
  induction m with
  | zero =>
    intro F c u h1 hF h3 h4
    obtain ⟨F, rfl⟩ : ∃ F2, F = F2 + 1 := ⟨F - 1, by omega⟩
    rw [fX3_measureLine_L171.eq_2, if_pos (show b < u by omega), h4, show u = b + 1 by omega]
  | succ m ih =>
    intro F c u h1 hF h3 h4
    obtain ⟨F, rfl⟩ : ∃ F2, F = F2 + 1 := ⟨F - 1, by omega⟩
    have gb := y_gn_b (D := D) (E := E) (a := a) (b := b) (u := u) h3
    have gs := y_suS (f := y_gq D E a b) h3
    rw [fX3_measureLine_L171.eq_2, if_neg (show ¬ b < u by omega), if_pos (by decide +kernel), e_hasGap h hE hE1 tr ⟨h3, by omega⟩]
    simp only [zb_I]
    unfold fX3_measureLine_J193
    simp only [z_let]
    rcases y_gq01 (D := D) (E := E) (a := a) (b := b) (u := u) with g | g
    · rw [if_pos g, v_wid (by omega), v_wid (by omega)]
      exact ih F _ _ (by omega) (by omega) (by omega) (by unfold y_gn at h4 ⊢; omega)
    · rw [if_neg (by omega), v_wid (by omega), v_wid (by omega)]
      exact ih F _ _ (by omega) (by omega) (by omega) (by unfold y_gn at h4 ⊢; omega)
/-- cells that measuring line l writes on, its blocks being those from c0 on -/
abbrev y_mlw (l c0 x y : Int) : Prop := y_mw x y ∨ x = 222 ∨ ((x = 270 ∨ x = 272 ∨ x = 274 ∨ x = 276 ∨ x = 278) ∧ y = l) ∨ ((y_gaw 279 x ∨ x = 289 ∨ x = 291) ∧ c0 ≤ y) ∨ (x = 279 ∧ y = 9)
/-- line l from a to b, measured: its blocks are those from c0 to c -/
def y_ML (D : z_M) (E : Int → Int) (ln l a b c0 c : Int) (s : z_M) : Prop := s 270 l = y_LG D a b ln ∧ s 272 l = y_gn D E a b (b + 1) ∧ s 274 l = y_pd D a b ln (b + 1) ∧ s 276 l = y_hg D a b ∧ s 278 l = c0 ∧ y_GI D s 279 (y_fr D a b) (y_to D a b) c0 c ∧ y_HB D s 279 a b ln c0 c
theorem y_HB.fr {D s s' : z_M} {o A B ln c0 c : Int} (h : y_HB D s o A B ln c0 c) (f : ∀ x k : Int, (y_gaw o x ∨ x = o + 10 ∨ x = o + 12) → c0 ≤ k → k < c → s' x k = s x k) : y_HB D s' o A B ln c0 c := fun k p q => by
  have g := h k p q
  rw [f (o + 10) k (by omega) p q, f (o + 12) k (by omega) p q, f (o + 8) k (by omega) p q, f (o + 2) k (by omega) p q, f (o + 4) k (by omega) p q]
  exact g
theorem e_measureLine {fu : Nat} (hfu : 8589934592 ≤ fu) {D s : z_M} {E : Int → Int} (cm : y_CM D E s s) (hE1 : ∀ u : Int, E u = 0 ∨ E u = 1) {l a b c0 ln : Int} (hl : 0 ≤ l ∧ l < 200) (ha : s 248 l = a) (hb : s 248 (l + 1) = b + 1) (hab : 0 ≤ a ∧ a ≤ b) (hbn : b < s 191 16) (e32 : s 3 2 = ln) (hc : s 279 9 = c0) (hc0 : 0 ≤ c0 ∧ c0 ≤ a) :
    z_T (fX3_measureLine fu s 258 l) (fun v s' => v = vN ∧ (∃ c, y_ML D E ln l a b c0 c s' ∧ s' 279 9 = c) ∧ y_TR D s' a b ∧ y_CM D E s' s' ∧ ∀ x y : Int, ¬ y_mlw l c0 x y → s' x y = s x y) := by
  have hu := cm.1
  have n2 := hu.1.2
  have oo : y_ob2 279 := Or.inr rfl
  have l6 : 0 ≤ ln ∧ ln ≤ 6 := by rw [← e32]; exact cm.2.2.1
  have ft := y_ft (D := D) (a := a) (b := b) (by omega)
  have lb := y_LG_b hu.2.2.2.2 hab.1 hbn n2 l6
  have fr : ∀ x y : Int, ¬ y_mlw l c0 x y → s x y = s x y := fun _ _ _ => rfl
  refine T_of (fX3_measureLine.eq_1 ..) ?_
  refine T_if1 (by decide +kernel) ?_
  refine T_let 240 (by decide +kernel) ?_
  refine T_if1 (by decide +kernel) ?_
  refine T_let 247 (by decide +kernel) ?_
  refine T_if1 (by decide +kernel) ?_
  refine T_getV w_r247 (by omega) ha ?_
  refine T_if1 (by decide +kernel) ?_
  refine T_let 240 (by decide +kernel) ?_
  refine T_if1 (by decide +kernel) ?_
  refine T_let 247 (by decide +kernel) ?_
  refine T_let (l + 1) (v_wid (by omega)) ?_
  refine T_if1 (by decide +kernel) ?_
  refine T_getV w_r247 (by omega) hb ?_
  refine T_let b (by rw [v_wid (by omega)]; omega) ?_
  refine T_if1 (by decide +kernel) ?_
  refine T_let 269 (by decide +kernel) ?_
  refine T_if1 (by decide +kernel) ?_
  refine T_let 220 (by decide +kernel) ?_
  refine T_if1 (by decide +kernel) ?_
  refine T_useI (e_CMlen hfu cm (a := a) (b := b) hab hbn) (fun v8 sx6 hq7 => ?_)
  obtain ⟨rfl, cm0⟩ := hq7
  refine T_vI ?_
  have f9 : ∀ x y : Int, ¬ (y_mw x y ∨ x = 222) → sx6 x y = s x y := fun x y q => cm0.2.2.2.2.2 x y (fun w => q (Or.inl w)) (fun w => q (Or.inr w))
  have fr10 : ∀ x y : Int, ¬ y_mlw l c0 x y → sx6 x y = s x y := fun x y q => (f9 x y (by omega)).trans (fr x y q)
  have c911 := (f9 279 9 (by omega)).trans hc
  have cm1 := cm0.at
  rw [e32]
  refine T_if1 (by decide +kernel) ?_
  refine T_putG w_r269 (by omega) (fun sx12 a13 f14 => ?_)
  have fr15 : ∀ x y : Int, ¬ y_mlw l c0 x y → sx12 x y = s x y := fun x y q => (f14 x y (by omega)).trans (fr10 x y q)
  have cm16 := cm1.self (fun x y q => f14 x y (by omega))
  have c917 := (f14 279 9 (by omega)).trans c911
  have k7018 : sx12 270 l = y_LG D a b ln := a13
  refine T_if1 (by decide +kernel) ?_
  refine T_let 220 (by decide +kernel) ?_
  refine T_if1 (by decide +kernel) ?_
  have ensx19 : sx12 191 16 = s 191 16 := fr15 191 16 (by omega)
  refine T_useN (e_trim hfu cm16.1 (a := a) (b := b) ⟨hab.1, by omega⟩ (by omega)) (fun v21 sx19 hq20 => ?_)
  obtain ⟨rfl, t4, t5, f22⟩ := hq20
  refine T_vN ?_
  have fr23 : ∀ x y : Int, ¬ y_mlw l c0 x y → sx19 x y = s x y := fun x y q => (f22 x y (by omega)).trans (fr15 x y q)
  have cm24 := cm16.fw (fun x y q => f22 x y (by omega)) (fun y => f22 _ _ (by omega))
  have c925 := (f22 279 9 (by omega)).trans c917
  have k7026 : sx19 270 l = y_LG D a b ln := (f22 270 l (by omega)).trans k7018
  have en2 : sx19 191 16 = s 191 16 := fr23 191 16 (by omega)
  have tr : y_TR D sx19 a b := ⟨t4, t5, ⟨hab.1, by omega, by omega⟩, fun q => by omega⟩
  refine T_if1 (by decide +kernel) ?_
  refine T_let 275 (by decide +kernel) ?_
  refine T_if1 (by decide +kernel) ?_
  refine T_let 220 (by decide +kernel) ?_
  refine T_if1 (by decide +kernel) ?_
  refine T_let 220 (by decide +kernel) ?_
  refine T_if1 (by decide +kernel) ?_
  refine T_let (y_to D a b) tr.2.1 ?_
  refine T_if1 (by decide +kernel) ?_
  refine T_bI (T_of (e_hangsOut cm24.1 tr (Int.le_refl _) (Or.inr rfl)) (T_rI ?_))
  rw [y_hgs]
  have fin : z_T (fX3_measureLine_J81 fu sx19 258 l a b 275 l (y_hg D a b)) (fun v s' => v = vN ∧ (∃ c, y_ML D E ln l a b c0 c s' ∧ s' 279 9 = c) ∧ y_TR D s' a b ∧ y_CM D E s' s' ∧ ∀ x y : Int, ¬ y_mlw l c0 x y → s' x y = s x y) := by
    refine T_of (fX3_measureLine_J81.eq_1 ..) ?_
    refine T_if1 (by decide +kernel) ?_
    refine T_putG w_r275 (by omega) (fun sx27 a28 f29 => ?_)
    have fr30 : ∀ x y : Int, ¬ y_mlw l c0 x y → sx27 x y = s x y := fun x y q => (f29 x y (by omega)).trans (fr23 x y q)
    have cm31 := cm24.self (fun x y q => f29 x y (by omega))
    have c932 := (f29 279 9 (by omega)).trans c925
    have tr33 := tr.fr (f29 _ _ (by omega)) (f29 _ _ (by omega)) (f29 _ _ (by omega))
    have k7034 : sx27 270 l = y_LG D a b ln := (f29 270 l (by omega)).trans k7026
    have k7635 : sx27 276 l = y_hg D a b := a28
    refine T_if1 (by decide +kernel) ?_
    refine T_let 277 (by decide +kernel) ?_
    refine T_if1 (by decide +kernel) ?_
    refine T_let 279 (by decide +kernel) ?_
    refine T_if1 (by decide +kernel) ?_
    refine T_let c0 c932 ?_
    refine T_if1 (by decide +kernel) ?_
    refine T_putG w_r277 (by omega) (fun sx36 a37 f38 => ?_)
    have fr39 : ∀ x y : Int, ¬ y_mlw l c0 x y → sx36 x y = s x y := fun x y q => (f38 x y (by omega)).trans (fr30 x y q)
    have cm40 := cm31.self (fun x y q => f38 x y (by omega))
    have c941 := (f38 279 9 (by omega)).trans c932
    have tr42 := tr33.fr (f38 _ _ (by omega)) (f38 _ _ (by omega)) (f38 _ _ (by omega))
    have k7043 : sx36 270 l = y_LG D a b ln := (f38 270 l (by omega)).trans k7034
    have k7644 : sx36 276 l = y_hg D a b := (f38 276 l (by omega)).trans k7635
    have k7845 : sx36 278 l = c0 := a37
    refine T_if1 (by decide +kernel) ?_
    refine T_let 279 (by decide +kernel) ?_
    refine T_if1 (by decide +kernel) ?_
    refine T_let 220 (by decide +kernel) ?_
    refine T_if1 (by decide +kernel) ?_
    refine T_let (y_fr D a b) tr42.1 ?_
    refine T_if1 (by decide +kernel) ?_
    refine T_let 220 (by decide +kernel) ?_
    refine T_if1 (by decide +kernel) ?_
    refine T_let (y_to D a b) tr42.2.1 ?_
    refine T_if1 (by decide +kernel) ?_
    have enG : sx36 191 16 = s 191 16 := fr39 191 16 (by omega)
    refine T_useN (e_gather hfu oo cm40.1 (a := y_fr D a b) (t := y_to D a b) (c0 := c0) (by omega) (by omega) (by omega) (by omega) c941) (fun v48 sx46 hq47 => ?_)
    obtain ⟨rfl, ⟨cc, gi, g9⟩, gf⟩ := hq47
    refine T_vN ?_
    have f49 : ∀ x y : Int, ¬ ((y_gaw 279 x ∧ c0 ≤ y) ∨ (x = 279 ∧ y = 9)) → sx46 x y = sx36 x y := fun x y q => gf x y (fun w => q (Or.inl w)) (fun w => q (Or.inr w))
    have fr50 : ∀ x y : Int, ¬ y_mlw l c0 x y → sx46 x y = s x y := fun x y q => (f49 x y (by omega)).trans (fr39 x y q)
    have cm51 := cm40.self (fun x y q => f49 x y (by omega))
    have tr52 := tr42.fr (f49 _ _ (by omega)) (f49 _ _ (by omega)) (f49 _ _ (by omega))
    have k7053 : sx46 270 l = y_LG D a b ln := (f49 270 l (by omega)).trans k7043
    have k7654 : sx46 276 l = y_hg D a b := (f49 276 l (by omega)).trans k7644
    have k7855 : sx46 278 l = c0 := (f49 278 l (by omega)).trans k7845
    have gi1 := gi.1
    clear gf
    refine T_if1 (by decide +kernel) ?_
    refine T_let 273 (by decide +kernel) ?_
    refine T_if1 (by decide +kernel) ?_
    refine T_let 279 (by decide +kernel) ?_
    refine T_if1 (by decide +kernel) ?_
    refine T_let 277 (by decide +kernel) ?_
    refine T_if1 (by decide +kernel) ?_
    refine T_getV w_r277 (by omega) k7855 ?_
    refine T_if1 (by decide +kernel) ?_
    refine T_let 220 (by decide +kernel) ?_
    refine T_if1 (by decide +kernel) ?_
    refine T_let (y_fr D a b) tr52.1 ?_
    refine T_if1 (by decide +kernel) ?_
    refine T_let 220 (by decide +kernel) ?_
    refine T_if1 (by decide +kernel) ?_
    refine T_let (y_to D a b) tr52.2.1 ?_
    refine T_if1 (by decide +kernel) ?_
    refine T_let 2 (by decide +kernel) ?_
    refine T_if1 (by decide +kernel) ?_
    refine T_getV w_r2 (by omega) ((fr50 3 2 (by omega)).trans e32) ?_
    refine T_if1 (by decide +kernel) ?_
    have enH : sx46 191 16 = s 191 16 := fr50 191 16 (by omega)
    refine T_bI (T_of (fX0_hang.eq_1 ..) ?_)
    refine e_hangL (D := D) (A := a) (B := b) (c0 := c0) (c := cc) oo cm51.1 ⟨hab.1, by omega⟩ (by omega) hc0.1 l6 (by omega) g9 gi (fun sx56 hb9 hf9 => ?_) (cc - c0).toNat fu sx46 0 c0 a (by omega) (by omega) (Int.le_refl _) (fun _ _ _ => rfl) (fun k p q => by omega) (by unfold y_pd; rw [show a - a = 0 by omega]; rfl) (Int.le_refl _) (fun _ => rfl) (fun q => by omega) ⟨Int.le_refl 0, by omega⟩
    refine T_rI ?_
    have f57 : ∀ x y : Int, ¬ ((x = 289 ∨ x = 291) ∧ c0 ≤ y) → sx56 x y = sx46 x y := fun x y q => hf9 x y q
    have fr58 : ∀ x y : Int, ¬ y_mlw l c0 x y → sx56 x y = s x y := fun x y q => (f57 x y (by omega)).trans (fr50 x y q)
    have cm59 := cm51.self (fun x y q => f57 x y (by omega))
    have tr60 := tr52.fr (f57 _ _ (by omega)) (f57 _ _ (by omega)) (f57 _ _ (by omega))
    have gi61 := gi.fr (fun x k q p => f57 x k (by omega))
    have g962 := (f57 279 9 (by omega)).trans g9
    have k7063 : sx56 270 l = y_LG D a b ln := (f57 270 l (by omega)).trans k7053
    have k7664 : sx56 276 l = y_hg D a b := (f57 276 l (by omega)).trans k7654
    have k7865 : sx56 278 l = c0 := (f57 278 l (by omega)).trans k7855
    clear hf9
    refine T_if1 (by decide +kernel) ?_
    refine T_putG w_r273 (by omega) (fun sx66 a67 f68 => ?_)
    have fr69 : ∀ x y : Int, ¬ y_mlw l c0 x y → sx66 x y = s x y := fun x y q => (f68 x y (by omega)).trans (fr58 x y q)
    have cm70 := cm59.self (fun x y q => f68 x y (by omega))
    have tr71 := tr60.fr (f68 _ _ (by omega)) (f68 _ _ (by omega)) (f68 _ _ (by omega))
    have gi72 := gi61.fr (fun x k q p => f68 x k (by omega))
    have g973 := (f68 279 9 (by omega)).trans g962
    have hb74 := hb9.fr (fun x k q p _ => f68 x k (by omega))
    have k7075 : sx66 270 l = y_LG D a b ln := (f68 270 l (by omega)).trans k7063
    have k7676 : sx66 276 l = y_hg D a b := (f68 276 l (by omega)).trans k7664
    have k7877 : sx66 278 l = c0 := (f68 278 l (by omega)).trans k7865
    have k7478 : sx66 274 l = y_pd D a b ln (b + 1) := a67
    have hu9 := cm70.1
    refine T_of (e_gapsL hu9 cm70.2.2.2.1 hE1 tr71 (b + 1 - a).toNat fu 0 a (by omega) (by omega) (Int.le_refl _) (by unfold y_gn; rw [y_su0])) ?_
    refine T_if1 (by decide +kernel) ?_
    refine T_let 271 (by decide +kernel) ?_
    refine T_if1 (by decide +kernel) ?_
    refine T_putG w_r271 (by omega) (fun sx79 a80 f81 => ?_)
    have fr82 : ∀ x y : Int, ¬ y_mlw l c0 x y → sx79 x y = s x y := fun x y q => (f81 x y (by omega)).trans (fr69 x y q)
    have cm83 := cm70.self (fun x y q => f81 x y (by omega))
    have tr84 := tr71.fr (f81 _ _ (by omega)) (f81 _ _ (by omega)) (f81 _ _ (by omega))
    have gi85 := gi72.fr (fun x k q p => f81 x k (by omega))
    have g986 := (f81 279 9 (by omega)).trans g973
    have hb87 := hb74.fr (fun x k q p _ => f81 x k (by omega))
    have k7088 : sx79 270 l = y_LG D a b ln := (f81 270 l (by omega)).trans k7075
    have k7689 : sx79 276 l = y_hg D a b := (f81 276 l (by omega)).trans k7676
    have k7890 : sx79 278 l = c0 := (f81 278 l (by omega)).trans k7877
    have k7491 : sx79 274 l = y_pd D a b ln (b + 1) := (f81 274 l (by omega)).trans k7478
    have k7292 : sx79 272 l = y_gn D E a b (b + 1) := a80
    exact T_ret ⟨rfl, ⟨cc, ⟨k7088, k7292, k7491, k7689, k7890, gi85, hb87⟩, g986⟩, tr84, cm83, fr82⟩
  exact T_ite (fun q0 => by rw [q0] at fin; exact fin) (fun q0 => by rw [show y_hg D a b = 1 by rcases y_hg_01 (D := D) (a := a) (b := b) with q | q <;> omega] at fin; exact fin)
