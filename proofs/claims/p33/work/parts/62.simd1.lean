/-! UNITS of the class, all rows: its functions once more (by program, wip/tool/mksimd.py) -/
abbrev P_X10_build_191D (r0 : z_M) : z_V → z_M → Prop := fun v s' => z_CI s' ∧ z_Fr R_X10_build_191 r0 s' ∧ (y_U2 s') ∧ (v = vN)
theorem sf_X10_build_191D {fu : Nat} (hfu : 8589934592 ≤ fu) (r0 : z_M) (c0 : z_CI r0) (p0 : y_B0 r0) : z_T (fX10_build fu r0 191) (P_X10_build_191D r0) := by
  refine T_mono (T_and (sf_X10_build_191T hfu r0 c0) (e_buildT hfu c0 p0)) (fun v s h => ?_)
  obtain ⟨⟨c, f, u, e⟩, b, d⟩ := h
  have t : y_TOK s ↔ y_TOK r0 := y_TOK.eq (f 6 6 (by unfold R_X10_build_191; omega)) (fun b => f 8 b (by unfold R_X10_build_191; omega)) (fun b => f 12 b (by unfold R_X10_build_191; omega)) (fun b => f 14 b (by unfold R_X10_build_191; omega))
  exact ⟨c, f, ⟨b, u, fun q => d (t.mp q)⟩, e⟩
abbrev P_X11_tapeNumber_1D (r0 : z_M) : z_V → z_M → Prop := fun v s' => z_CI s' ∧ z_Fr R_X11_tapeNumber_1 r0 s' ∧ (s' 1 12 = r0 1 12 + 4) ∧ (y_V2 s') ∧ (v = vN)
theorem sl_X11_tapeNumber_1D_L3 {fu : Nat} (hfu : 8589934592 ≤ fu) (r0 : z_M) (a1 : Int) (b1 : -2147483648 ≤ a1 ∧ a1 ≤ 2147483647) (q0 : r0 1 12 ≤ 296) {k : z_M → z_O} (hk : ∀ (s' : z_M), z_CI s' → z_Fr R_X11_tapeNumber_1 r0 s' → (8 * s' 1 12 = 8 * r0 1 12 + 32) → (y_V2 s') → z_T (k s') (P_X11_tapeNumber_1D r0)) : ∀ (F : Nat) (s : z_M) (a2 : Int), z_CI s → z_Fr R_X11_tapeNumber_1 r0 s → ((-8) ≤ a2 ∧ a2 ≤ 24) → (8 * s 1 12 + a2 = 8 * r0 1 12 + 24) → (y_V2 s) → (a2 + 2147483648 < (F : Int)) → z_T (fX11_tapeNumber_L3 fu 1 a1 F s a2 k) (P_X11_tapeNumber_1D r0) := by
  intro F
  induction F with
  | zero =>
    intro s a2 c f b2 i0 i1 hm
    have u40 := CI_b c (k := 1) (j := 12) bd_1_12
    have u41 := CI_b c (k := 1) (j := 16) bd_1_16
    exfalso; omega
  | succ F ih =>
    intro s a2 c f b2 i0 i1 hm
    refine T_of (fX11_tapeNumber_L3.eq_2 ..) ?_
    have u1 := CI_b c (k := 1) (j := 12) bd_1_12
    have u2 := CI_b c (k := 1) (j := 16) bd_1_16
    refine T_ite (fun h3 => ?_) (fun h3 => ?_)
    · exact hk s c f (by omega) i1
    · refine T_if1 (by decide +kernel) ?_
      refine T_let 4 (by decide +kernel) ?_
      refine T_if1 (by decide +kernel) ?_
      refine T_leq (fun x4 e5 => ?_)
      have u6 := CI_b c (k := 1) (j := 12) bd_1_12
      refine T_leq (fun x7 e8 => ?_)
      have w9 : -2147483648 ≤ x7 ∧ x7 ≤ 2147483647 := by rw [← e8]; exact z_i32b _
      refine T_leq (fun x10 e11 => ?_)
      have w12 : -2147483648 ≤ x10 ∧ x10 ≤ 2147483647 := by rw [← e11]; exact z_i32b _
      refine T_if1 (by decide +kernel) ?_
      refine T_put (by decide +kernel) (c := 5) (by decide +kernel) bdr_5 (by omega) c (fun s13 e16 c14 g17 => ?_)
      have f15 := z_Fr.up (R := R_X11_tapeNumber_1) f g17 (fun _ => (Or.inl (⟨by decide, by decide⟩)))
      have t18 : s13 1 12 = s 1 12 := g17 1 12 (by decide)
      have t19 : s13 1 16 = s 1 16 := g17 1 16 (by decide)
      have r20 := y_V2.fr i1 (g17 1 16 (by decide)) (g17 191 16 (by decide)) (g17 6 6 (by decide)) (g17 191 17 (by decide)) (g17 191 18 (by decide)) (fun b => g17 3 b (by decide)) (fun b => g17 8 b (by decide)) (fun b => g17 12 b (by decide)) (fun b => g17 14 b (by decide)) (fun b => g17 16 b (by decide)) (fun b => g17 18 b (by decide)) (fun b => g17 193 b (by decide)) (fun b => g17 195 b (by decide)) (fun b => g17 197 b (by decide)) (fun b => g17 199 b (by decide)) (fun b => g17 201 b (by decide)) (fun b => g17 203 b (by decide)) (fun b => g17 205 b (by decide)) (fun b => g17 207 b (by decide)) (fun b => g17 209 b (by decide)) (fun b => g17 211 b (by decide)) (fun b => g17 213 b (by decide)) (fun b => g17 215 b (by decide)) (fun b => g17 217 b (by decide)) (fun b => g17 219 b (by decide))
      have r21 := y_B0.fr i1.1 (g17 211 0 (by decide)) (g17 213 0 (by decide))
      refine T_if1 (by decide +kernel) ?_
      refine T_leq (fun x22 e23 => ?_)
      have u24 := CI_b c14 (k := 1) (j := 12) bd_1_12
      refine T_leq (fun x25 e26 => ?_)
      have w27 := z_wb e26
      refine T_if1 (by decide +kernel) ?_
      refine T_upg c14 bd_1_12 (by omega) (fun s28 c29 g31 g32 e33 => ?_)
      have f30 := z_Fr.upf (R := R_X11_tapeNumber_1) f15 g31 g32 (Or.inr (⟨rfl, by decide⟩))
      have t34 : s28 1 16 = s13 1 16 := g32 16 (by decide)
      have r35 := y_V2.fr r20 (g32 16 (by decide)) (g31 191 16 (by decide)) (g31 6 6 (by decide)) (g31 191 17 (by decide)) (g31 191 18 (by decide)) (fun b => g31 3 b (by decide)) (fun b => g31 8 b (by decide)) (fun b => g31 12 b (by decide)) (fun b => g31 14 b (by decide)) (fun b => g31 16 b (by decide)) (fun b => g31 18 b (by decide)) (fun b => g31 193 b (by decide)) (fun b => g31 195 b (by decide)) (fun b => g31 197 b (by decide)) (fun b => g31 199 b (by decide)) (fun b => g31 201 b (by decide)) (fun b => g31 203 b (by decide)) (fun b => g31 205 b (by decide)) (fun b => g31 207 b (by decide)) (fun b => g31 209 b (by decide)) (fun b => g31 211 b (by decide)) (fun b => g31 213 b (by decide)) (fun b => g31 215 b (by decide)) (fun b => g31 217 b (by decide)) (fun b => g31 219 b (by decide))
      have r36 := y_B0.fr r21 (g31 211 0 (by decide)) (g31 213 0 (by decide))
      refine T_leq (fun x37 e38 => ?_)
      have w39 := z_wb e38
      exact ih s28 x37 c29 f30 (by omega) (by omega) r35 (by omega)
theorem sf_X11_tapeNumber_1D {fu : Nat} (hfu : 8589934592 ≤ fu) (r0 : z_M) (c0 : z_CI r0) (a1 : Int) (b1 : -2147483648 ≤ a1 ∧ a1 ≤ 2147483647) (p0 : r0 1 12 ≤ 296) (p1 : y_V2 r0) : z_T (fX11_tapeNumber fu r0 1 a1) (P_X11_tapeNumber_1D r0) := by
  refine T_of (fX11_tapeNumber.eq_1 ..) ?_
  refine sl_X11_tapeNumber_1D_L3 hfu r0 a1 (by omega) (by omega) (fun s1 c2 f3 g4 g5 => ?_) fu r0 24 c0 z_Fr.rf (by omega) (by omega) p1 (by omega)
  have u6 := CI_b c2 (k := 1) (j := 12) bd_1_12
  have u7 := CI_b c2 (k := 1) (j := 16) bd_1_16
  exact T_ret ⟨c2, f3, by omega, g5, rfl⟩
abbrev P_X11_feed_1D (r0 : z_M) : z_V → z_M → Prop := fun v s' => z_CI s' ∧ z_Fr R_X11_feed_1 r0 s' ∧ (y_V2 s') ∧ (∃ x, v = vI x ∧ -2147483648 ≤ x ∧ x ≤ 2147483647 ∧ ((r0 1 12 ≤ 280 ∧ s' 1 12 = r0 1 12 + 20 ∧ x = r0 1 12 + 20) ∨ (280 < r0 1 12 ∧ x = -1 ∧ s' 1 12 = r0 1 12)))
theorem nr_X11_tapeNumber_1__3 (b : Int) : ¬ R_X11_tapeNumber_1 3 b := by
  unfold R_X11_tapeNumber_1; omega
theorem nr_X11_tapeNumber_1__16 (b : Int) : ¬ R_X11_tapeNumber_1 16 b := by
  unfold R_X11_tapeNumber_1; omega
theorem nr_X11_tapeNumber_1__18 (b : Int) : ¬ R_X11_tapeNumber_1 18 b := by
  unfold R_X11_tapeNumber_1; omega
theorem nr_X11_tapeNumber_1__199 (b : Int) : ¬ R_X11_tapeNumber_1 199 b := by
  unfold R_X11_tapeNumber_1; omega
theorem nr_X11_tapeNumber_1__201 (b : Int) : ¬ R_X11_tapeNumber_1 201 b := by
  unfold R_X11_tapeNumber_1; omega
theorem nr_X11_tapeNumber_1__203 (b : Int) : ¬ R_X11_tapeNumber_1 203 b := by
  unfold R_X11_tapeNumber_1; omega
theorem nr_X11_tapeNumber_1__205 (b : Int) : ¬ R_X11_tapeNumber_1 205 b := by
  unfold R_X11_tapeNumber_1; omega
theorem nr_X11_tapeNumber_1__207 (b : Int) : ¬ R_X11_tapeNumber_1 207 b := by
  unfold R_X11_tapeNumber_1; omega
theorem nr_X11_tapeNumber_1__209 (b : Int) : ¬ R_X11_tapeNumber_1 209 b := by
  unfold R_X11_tapeNumber_1; omega
theorem nr_X11_tapeNumber_1__211 (b : Int) : ¬ R_X11_tapeNumber_1 211 b := by
  unfold R_X11_tapeNumber_1; omega
theorem nr_X11_tapeNumber_1__213 (b : Int) : ¬ R_X11_tapeNumber_1 213 b := by
  unfold R_X11_tapeNumber_1; omega
theorem nr_X11_tapeNumber_1__217 (b : Int) : ¬ R_X11_tapeNumber_1 217 b := by
  unfold R_X11_tapeNumber_1; omega
theorem nr_X11_tapeNumber_1__219 (b : Int) : ¬ R_X11_tapeNumber_1 219 b := by
  unfold R_X11_tapeNumber_1; omega
set_option maxHeartbeats 4000000 in
theorem sf_X11_feed_1D {fu : Nat} (hfu : 8589934592 ≤ fu) (r0 : z_M) (c0 : z_CI r0) (a1 : Int) (a2 : Int) (a3 : Int) (a4 : Int) (a5 : Int) (b1 : -2147483648 ≤ a1 ∧ a1 ≤ 2147483647) (b2 : -2147483648 ≤ a2 ∧ a2 ≤ 2147483647) (b3 : -2147483648 ≤ a3 ∧ a3 ≤ 2147483647) (b4 : -2147483648 ≤ a4 ∧ a4 ≤ 2147483647) (b5 : -2147483648 ≤ a5 ∧ a5 ≤ 2147483647) (p0 : y_V2 r0) : z_T (fX11_feed fu r0 1 a1 a2 a3 a4 a5) (P_X11_feed_1D r0) := by
  refine T_of (fX11_feed.eq_1 ..) ?_
  refine T_if1 (by decide +kernel) ?_
  refine T_leq (fun x1 e2 => ?_)
  have u3 := CI_b c0 (k := 1) (j := 12) bd_1_12
  refine T_ite (fun h4 => ?_) (fun h4 => ?_)
  · refine T_if1 (by decide +kernel) ?_
    refine T_useN (sf_X11_tapeNumber_1D hfu r0 c0 a1 (by omega) (by omega) p0) (fun v10 s5 hq => ?_)
    obtain ⟨c6, f7, o11, o12, rfl⟩ := hq
    refine T_vN ?_
    have f8 := z_Fr.tr (R := R_X11_feed_1) z_Fr.rf f7 rs_X11_tapeNumber_1__X11_feed_1
    have u15 := CI_b c6 (k := 1) (j := 12) bd_1_12
    have r16 := y_V2.fr p0 (f7 1 16 (by decide)) (f7 191 16 (by decide)) (f7 6 6 (by decide)) (f7 191 17 (by decide)) (f7 191 18 (by decide)) (fun b => f7 3 b (nr_X11_tapeNumber_1__3 b)) (fun b => f7 8 b (nr_X11_tapeNumber_1__8 b)) (fun b => f7 12 b (nr_X11_tapeNumber_1__12 b)) (fun b => f7 14 b (nr_X11_tapeNumber_1__14 b)) (fun b => f7 16 b (nr_X11_tapeNumber_1__16 b)) (fun b => f7 18 b (nr_X11_tapeNumber_1__18 b)) (fun b => f7 193 b (nr_X11_tapeNumber_1__193 b)) (fun b => f7 195 b (nr_X11_tapeNumber_1__195 b)) (fun b => f7 197 b (nr_X11_tapeNumber_1__197 b)) (fun b => f7 199 b (nr_X11_tapeNumber_1__199 b)) (fun b => f7 201 b (nr_X11_tapeNumber_1__201 b)) (fun b => f7 203 b (nr_X11_tapeNumber_1__203 b)) (fun b => f7 205 b (nr_X11_tapeNumber_1__205 b)) (fun b => f7 207 b (nr_X11_tapeNumber_1__207 b)) (fun b => f7 209 b (nr_X11_tapeNumber_1__209 b)) (fun b => f7 211 b (nr_X11_tapeNumber_1__211 b)) (fun b => f7 213 b (nr_X11_tapeNumber_1__213 b)) (fun b => f7 215 b (nr_X11_tapeNumber_1__215 b)) (fun b => f7 217 b (nr_X11_tapeNumber_1__217 b)) (fun b => f7 219 b (nr_X11_tapeNumber_1__219 b))
    have r17 := y_B0.fr p0.1 (f7 211 0 (by decide)) (f7 213 0 (by decide))
    refine T_if1 (by decide +kernel) ?_
    refine T_useN (sf_X11_tapeNumber_1D hfu s5 c6 a2 (by omega) (by omega) o12) (fun v23 s18 hq => ?_)
    obtain ⟨c19, f20, o24, o25, rfl⟩ := hq
    refine T_vN ?_
    have f21 := z_Fr.tr (R := R_X11_feed_1) f8 f20 rs_X11_tapeNumber_1__X11_feed_1
    have u28 := CI_b c19 (k := 1) (j := 12) bd_1_12
    have r29 := y_V2.fr o12 (f20 1 16 (by decide)) (f20 191 16 (by decide)) (f20 6 6 (by decide)) (f20 191 17 (by decide)) (f20 191 18 (by decide)) (fun b => f20 3 b (nr_X11_tapeNumber_1__3 b)) (fun b => f20 8 b (nr_X11_tapeNumber_1__8 b)) (fun b => f20 12 b (nr_X11_tapeNumber_1__12 b)) (fun b => f20 14 b (nr_X11_tapeNumber_1__14 b)) (fun b => f20 16 b (nr_X11_tapeNumber_1__16 b)) (fun b => f20 18 b (nr_X11_tapeNumber_1__18 b)) (fun b => f20 193 b (nr_X11_tapeNumber_1__193 b)) (fun b => f20 195 b (nr_X11_tapeNumber_1__195 b)) (fun b => f20 197 b (nr_X11_tapeNumber_1__197 b)) (fun b => f20 199 b (nr_X11_tapeNumber_1__199 b)) (fun b => f20 201 b (nr_X11_tapeNumber_1__201 b)) (fun b => f20 203 b (nr_X11_tapeNumber_1__203 b)) (fun b => f20 205 b (nr_X11_tapeNumber_1__205 b)) (fun b => f20 207 b (nr_X11_tapeNumber_1__207 b)) (fun b => f20 209 b (nr_X11_tapeNumber_1__209 b)) (fun b => f20 211 b (nr_X11_tapeNumber_1__211 b)) (fun b => f20 213 b (nr_X11_tapeNumber_1__213 b)) (fun b => f20 215 b (nr_X11_tapeNumber_1__215 b)) (fun b => f20 217 b (nr_X11_tapeNumber_1__217 b)) (fun b => f20 219 b (nr_X11_tapeNumber_1__219 b))
    have r30 := y_B0.fr o12.1 (f20 211 0 (by decide)) (f20 213 0 (by decide))
    refine T_if1 (by decide +kernel) ?_
    refine T_useN (sf_X11_tapeNumber_1D hfu s18 c19 a3 (by omega) (by omega) o25) (fun v36 s31 hq => ?_)
    obtain ⟨c32, f33, o37, o38, rfl⟩ := hq
    refine T_vN ?_
    have f34 := z_Fr.tr (R := R_X11_feed_1) f21 f33 rs_X11_tapeNumber_1__X11_feed_1
    have u41 := CI_b c32 (k := 1) (j := 12) bd_1_12
    have r42 := y_V2.fr o25 (f33 1 16 (by decide)) (f33 191 16 (by decide)) (f33 6 6 (by decide)) (f33 191 17 (by decide)) (f33 191 18 (by decide)) (fun b => f33 3 b (nr_X11_tapeNumber_1__3 b)) (fun b => f33 8 b (nr_X11_tapeNumber_1__8 b)) (fun b => f33 12 b (nr_X11_tapeNumber_1__12 b)) (fun b => f33 14 b (nr_X11_tapeNumber_1__14 b)) (fun b => f33 16 b (nr_X11_tapeNumber_1__16 b)) (fun b => f33 18 b (nr_X11_tapeNumber_1__18 b)) (fun b => f33 193 b (nr_X11_tapeNumber_1__193 b)) (fun b => f33 195 b (nr_X11_tapeNumber_1__195 b)) (fun b => f33 197 b (nr_X11_tapeNumber_1__197 b)) (fun b => f33 199 b (nr_X11_tapeNumber_1__199 b)) (fun b => f33 201 b (nr_X11_tapeNumber_1__201 b)) (fun b => f33 203 b (nr_X11_tapeNumber_1__203 b)) (fun b => f33 205 b (nr_X11_tapeNumber_1__205 b)) (fun b => f33 207 b (nr_X11_tapeNumber_1__207 b)) (fun b => f33 209 b (nr_X11_tapeNumber_1__209 b)) (fun b => f33 211 b (nr_X11_tapeNumber_1__211 b)) (fun b => f33 213 b (nr_X11_tapeNumber_1__213 b)) (fun b => f33 215 b (nr_X11_tapeNumber_1__215 b)) (fun b => f33 217 b (nr_X11_tapeNumber_1__217 b)) (fun b => f33 219 b (nr_X11_tapeNumber_1__219 b))
    have r43 := y_B0.fr o25.1 (f33 211 0 (by decide)) (f33 213 0 (by decide))
    refine T_if1 (by decide +kernel) ?_
    refine T_useN (sf_X11_tapeNumber_1D hfu s31 c32 a4 (by omega) (by omega) o38) (fun v49 s44 hq => ?_)
    obtain ⟨c45, f46, o50, o51, rfl⟩ := hq
    refine T_vN ?_
    have f47 := z_Fr.tr (R := R_X11_feed_1) f34 f46 rs_X11_tapeNumber_1__X11_feed_1
    have u54 := CI_b c45 (k := 1) (j := 12) bd_1_12
    have r55 := y_V2.fr o38 (f46 1 16 (by decide)) (f46 191 16 (by decide)) (f46 6 6 (by decide)) (f46 191 17 (by decide)) (f46 191 18 (by decide)) (fun b => f46 3 b (nr_X11_tapeNumber_1__3 b)) (fun b => f46 8 b (nr_X11_tapeNumber_1__8 b)) (fun b => f46 12 b (nr_X11_tapeNumber_1__12 b)) (fun b => f46 14 b (nr_X11_tapeNumber_1__14 b)) (fun b => f46 16 b (nr_X11_tapeNumber_1__16 b)) (fun b => f46 18 b (nr_X11_tapeNumber_1__18 b)) (fun b => f46 193 b (nr_X11_tapeNumber_1__193 b)) (fun b => f46 195 b (nr_X11_tapeNumber_1__195 b)) (fun b => f46 197 b (nr_X11_tapeNumber_1__197 b)) (fun b => f46 199 b (nr_X11_tapeNumber_1__199 b)) (fun b => f46 201 b (nr_X11_tapeNumber_1__201 b)) (fun b => f46 203 b (nr_X11_tapeNumber_1__203 b)) (fun b => f46 205 b (nr_X11_tapeNumber_1__205 b)) (fun b => f46 207 b (nr_X11_tapeNumber_1__207 b)) (fun b => f46 209 b (nr_X11_tapeNumber_1__209 b)) (fun b => f46 211 b (nr_X11_tapeNumber_1__211 b)) (fun b => f46 213 b (nr_X11_tapeNumber_1__213 b)) (fun b => f46 215 b (nr_X11_tapeNumber_1__215 b)) (fun b => f46 217 b (nr_X11_tapeNumber_1__217 b)) (fun b => f46 219 b (nr_X11_tapeNumber_1__219 b))
    have r56 := y_B0.fr o38.1 (f46 211 0 (by decide)) (f46 213 0 (by decide))
    refine T_if1 (by decide +kernel) ?_
    refine T_useN (sf_X11_tapeNumber_1D hfu s44 c45 a5 (by omega) (by omega) o51) (fun v62 s57 hq => ?_)
    obtain ⟨c58, f59, o63, o64, rfl⟩ := hq
    refine T_vN ?_
    have f60 := z_Fr.tr (R := R_X11_feed_1) f47 f59 rs_X11_tapeNumber_1__X11_feed_1
    have u67 := CI_b c58 (k := 1) (j := 12) bd_1_12
    have r68 := y_V2.fr o51 (f59 1 16 (by decide)) (f59 191 16 (by decide)) (f59 6 6 (by decide)) (f59 191 17 (by decide)) (f59 191 18 (by decide)) (fun b => f59 3 b (nr_X11_tapeNumber_1__3 b)) (fun b => f59 8 b (nr_X11_tapeNumber_1__8 b)) (fun b => f59 12 b (nr_X11_tapeNumber_1__12 b)) (fun b => f59 14 b (nr_X11_tapeNumber_1__14 b)) (fun b => f59 16 b (nr_X11_tapeNumber_1__16 b)) (fun b => f59 18 b (nr_X11_tapeNumber_1__18 b)) (fun b => f59 193 b (nr_X11_tapeNumber_1__193 b)) (fun b => f59 195 b (nr_X11_tapeNumber_1__195 b)) (fun b => f59 197 b (nr_X11_tapeNumber_1__197 b)) (fun b => f59 199 b (nr_X11_tapeNumber_1__199 b)) (fun b => f59 201 b (nr_X11_tapeNumber_1__201 b)) (fun b => f59 203 b (nr_X11_tapeNumber_1__203 b)) (fun b => f59 205 b (nr_X11_tapeNumber_1__205 b)) (fun b => f59 207 b (nr_X11_tapeNumber_1__207 b)) (fun b => f59 209 b (nr_X11_tapeNumber_1__209 b)) (fun b => f59 211 b (nr_X11_tapeNumber_1__211 b)) (fun b => f59 213 b (nr_X11_tapeNumber_1__213 b)) (fun b => f59 215 b (nr_X11_tapeNumber_1__215 b)) (fun b => f59 217 b (nr_X11_tapeNumber_1__217 b)) (fun b => f59 219 b (nr_X11_tapeNumber_1__219 b))
    have r69 := y_B0.fr o51.1 (f59 211 0 (by decide)) (f59 213 0 (by decide))
    refine T_if1 (by decide +kernel) ?_
    refine T_leq (fun x70 e71 => ?_)
    have u72 := CI_b c58 (k := 1) (j := 12) bd_1_12
    exact T_ret ⟨c58, f60, o64, ⟨x70, rfl, by omega, by omega, by omega⟩⟩
  · exact T_ret ⟨c0, z_Fr.rf, p0, ⟨(-1), rfl, by omega, by omega, by omega⟩⟩
abbrev P_X11_readTape_1D (r0 : z_M) : z_V → z_M → Prop := fun v s' => z_CI s' ∧ z_Fr R_X11_readTape_1 r0 s' ∧ (y_V2 s') ∧ (s' 1 12 = 0) ∧ (∃ x, v = vI x ∧ -2147483648 ≤ x ∧ x ≤ 2147483647)
theorem nr_X6_read_32_4__3 (b : Int) : ¬ R_X6_read_32_4 3 b := by
  unfold R_X6_read_32_4; omega
theorem nr_X6_read_32_4__16 (b : Int) : ¬ R_X6_read_32_4 16 b := by
  unfold R_X6_read_32_4; omega
theorem nr_X6_read_32_4__18 (b : Int) : ¬ R_X6_read_32_4 18 b := by
  unfold R_X6_read_32_4; omega
theorem nr_X6_read_32_4__199 (b : Int) : ¬ R_X6_read_32_4 199 b := by
  unfold R_X6_read_32_4; omega
theorem nr_X6_read_32_4__201 (b : Int) : ¬ R_X6_read_32_4 201 b := by
  unfold R_X6_read_32_4; omega
theorem nr_X6_read_32_4__203 (b : Int) : ¬ R_X6_read_32_4 203 b := by
  unfold R_X6_read_32_4; omega
theorem nr_X6_read_32_4__205 (b : Int) : ¬ R_X6_read_32_4 205 b := by
  unfold R_X6_read_32_4; omega
theorem nr_X6_read_32_4__207 (b : Int) : ¬ R_X6_read_32_4 207 b := by
  unfold R_X6_read_32_4; omega
theorem nr_X6_read_32_4__209 (b : Int) : ¬ R_X6_read_32_4 209 b := by
  unfold R_X6_read_32_4; omega
theorem nr_X6_read_32_4__211 (b : Int) : ¬ R_X6_read_32_4 211 b := by
  unfold R_X6_read_32_4; omega
theorem nr_X6_read_32_4__213 (b : Int) : ¬ R_X6_read_32_4 213 b := by
  unfold R_X6_read_32_4; omega
theorem nr_X6_read_32_4__217 (b : Int) : ¬ R_X6_read_32_4 217 b := by
  unfold R_X6_read_32_4; omega
theorem nr_X6_read_32_4__219 (b : Int) : ¬ R_X6_read_32_4 219 b := by
  unfold R_X6_read_32_4; omega
theorem sj_X11_readTape_1D_J68 {fu : Nat} (hfu : 8589934592 ≤ fu) (r0 s : z_M) (c : z_CI s) (f : z_Fr R_X11_readTape_1 r0 s) (a2 : Int) (b2 : -2147483648 ≤ a2 ∧ a2 ≤ 2147483647) (p0 : s 1 12 = 0) (p1 : y_V2 s) : z_T (fX11_readTape_J68 fu s a2) (P_X11_readTape_1D r0) := by
  refine T_of (fX11_readTape_J68.eq_1 ..) ?_
  have u1 := CI_b c (k := 1) (j := 12) bd_1_12
  have u2 := CI_b c (k := 32) (j := 7) bd_32_7
  exact T_ret ⟨c, f, p1, by omega, ⟨a2, rfl, by omega, by omega⟩⟩
theorem nr_X2_keep_33_6__3 (b : Int) : ¬ R_X2_keep_33_6 3 b := by
  unfold R_X2_keep_33_6; omega
theorem nr_X2_keep_33_6__16 (b : Int) : ¬ R_X2_keep_33_6 16 b := by
  unfold R_X2_keep_33_6; omega
theorem nr_X2_keep_33_6__18 (b : Int) : ¬ R_X2_keep_33_6 18 b := by
  unfold R_X2_keep_33_6; omega
theorem nr_X2_keep_33_6__199 (b : Int) : ¬ R_X2_keep_33_6 199 b := by
  unfold R_X2_keep_33_6; omega
theorem nr_X2_keep_33_6__201 (b : Int) : ¬ R_X2_keep_33_6 201 b := by
  unfold R_X2_keep_33_6; omega
theorem nr_X2_keep_33_6__203 (b : Int) : ¬ R_X2_keep_33_6 203 b := by
  unfold R_X2_keep_33_6; omega
theorem nr_X2_keep_33_6__205 (b : Int) : ¬ R_X2_keep_33_6 205 b := by
  unfold R_X2_keep_33_6; omega
theorem nr_X2_keep_33_6__207 (b : Int) : ¬ R_X2_keep_33_6 207 b := by
  unfold R_X2_keep_33_6; omega
theorem nr_X2_keep_33_6__209 (b : Int) : ¬ R_X2_keep_33_6 209 b := by
  unfold R_X2_keep_33_6; omega
theorem nr_X2_keep_33_6__211 (b : Int) : ¬ R_X2_keep_33_6 211 b := by
  unfold R_X2_keep_33_6; omega
theorem nr_X2_keep_33_6__213 (b : Int) : ¬ R_X2_keep_33_6 213 b := by
  unfold R_X2_keep_33_6; omega
theorem nr_X2_keep_33_6__217 (b : Int) : ¬ R_X2_keep_33_6 217 b := by
  unfold R_X2_keep_33_6; omega
theorem nr_X2_keep_33_6__219 (b : Int) : ¬ R_X2_keep_33_6 219 b := by
  unfold R_X2_keep_33_6; omega
theorem nr_X9_copyFrom_6_19__3 (b : Int) : ¬ R_X9_copyFrom_6_19 3 b := by
  unfold R_X9_copyFrom_6_19; omega
theorem nr_X9_copyFrom_6_19__199 (b : Int) : ¬ R_X9_copyFrom_6_19 199 b := by
  unfold R_X9_copyFrom_6_19; omega
theorem nr_X9_copyFrom_6_19__201 (b : Int) : ¬ R_X9_copyFrom_6_19 201 b := by
  unfold R_X9_copyFrom_6_19; omega
theorem nr_X9_copyFrom_6_19__203 (b : Int) : ¬ R_X9_copyFrom_6_19 203 b := by
  unfold R_X9_copyFrom_6_19; omega
theorem nr_X9_copyFrom_6_19__205 (b : Int) : ¬ R_X9_copyFrom_6_19 205 b := by
  unfold R_X9_copyFrom_6_19; omega
theorem nr_X9_copyFrom_6_19__207 (b : Int) : ¬ R_X9_copyFrom_6_19 207 b := by
  unfold R_X9_copyFrom_6_19; omega
theorem nr_X9_copyFrom_6_19__209 (b : Int) : ¬ R_X9_copyFrom_6_19 209 b := by
  unfold R_X9_copyFrom_6_19; omega
theorem nr_X9_copyFrom_6_19__211 (b : Int) : ¬ R_X9_copyFrom_6_19 211 b := by
  unfold R_X9_copyFrom_6_19; omega
theorem nr_X9_copyFrom_6_19__213 (b : Int) : ¬ R_X9_copyFrom_6_19 213 b := by
  unfold R_X9_copyFrom_6_19; omega
theorem nr_X9_copyFrom_6_19__217 (b : Int) : ¬ R_X9_copyFrom_6_19 217 b := by
  unfold R_X9_copyFrom_6_19; omega
theorem nr_X9_copyFrom_6_19__219 (b : Int) : ¬ R_X9_copyFrom_6_19 219 b := by
  unfold R_X9_copyFrom_6_19; omega
theorem sj_X11_readTape_1D_J29 {fu : Nat} (hfu : 8589934592 ≤ fu) (r0 s : z_M) (c : z_CI s) (f : z_Fr R_X11_readTape_1 r0 s) (a2 : Int) (t1 : Int) (b2 : -2147483648 ≤ a2 ∧ a2 ≤ 2147483647) (d1 : -2147483648 ≤ t1 ∧ t1 ≤ 2147483647) (p0 : y_V2 s) : z_T (fX11_readTape_J29 fu s 1 a2 1 t1) (P_X11_readTape_1D r0) := by
  refine T_of (fX11_readTape_J29.eq_1 ..) ?_
  have u1 := CI_b c (k := 1) (j := 12) bd_1_12
  have u2 := CI_b c (k := 32) (j := 7) bd_32_7
  refine T_if1 (by decide +kernel) ?_
  refine T_upg c bd_1_13 (by omega) (fun s3 c4 g6 g7 e8 => ?_)
  have f5 := z_Fr.upf (R := R_X11_readTape_1) f g6 g7 (Or.inr (Or.inr (Or.inl (⟨rfl, by decide⟩))))
  have t9 : s3 1 12 = s 1 12 := g7 12 (by decide)
  have t10 : s3 32 7 = s 32 7 := g6 32 7 (by decide)
  have r11 := y_V2.fr p0 (g7 16 (by decide)) (g6 191 16 (by decide)) (g6 6 6 (by decide)) (g6 191 17 (by decide)) (g6 191 18 (by decide)) (fun b => g6 3 b (by decide)) (fun b => g6 8 b (by decide)) (fun b => g6 12 b (by decide)) (fun b => g6 14 b (by decide)) (fun b => g6 16 b (by decide)) (fun b => g6 18 b (by decide)) (fun b => g6 193 b (by decide)) (fun b => g6 195 b (by decide)) (fun b => g6 197 b (by decide)) (fun b => g6 199 b (by decide)) (fun b => g6 201 b (by decide)) (fun b => g6 203 b (by decide)) (fun b => g6 205 b (by decide)) (fun b => g6 207 b (by decide)) (fun b => g6 209 b (by decide)) (fun b => g6 211 b (by decide)) (fun b => g6 213 b (by decide)) (fun b => g6 215 b (by decide)) (fun b => g6 217 b (by decide)) (fun b => g6 219 b (by decide))
  have r12 := y_B0.fr p0.1 (g6 211 0 (by decide)) (g6 213 0 (by decide))
  refine T_if1 (by decide +kernel) ?_
  refine T_upg c4 bd_1_12 (by omega) (fun s13 c14 g16 g17 e18 => ?_)
  have f15 := z_Fr.upf (R := R_X11_readTape_1) f5 g16 g17 (Or.inr (Or.inr (Or.inl (⟨rfl, by decide⟩))))
  have t19 : s13 32 7 = s3 32 7 := g16 32 7 (by decide)
  have r20 := y_V2.fr r11 (g17 16 (by decide)) (g16 191 16 (by decide)) (g16 6 6 (by decide)) (g16 191 17 (by decide)) (g16 191 18 (by decide)) (fun b => g16 3 b (by decide)) (fun b => g16 8 b (by decide)) (fun b => g16 12 b (by decide)) (fun b => g16 14 b (by decide)) (fun b => g16 16 b (by decide)) (fun b => g16 18 b (by decide)) (fun b => g16 193 b (by decide)) (fun b => g16 195 b (by decide)) (fun b => g16 197 b (by decide)) (fun b => g16 199 b (by decide)) (fun b => g16 201 b (by decide)) (fun b => g16 203 b (by decide)) (fun b => g16 205 b (by decide)) (fun b => g16 207 b (by decide)) (fun b => g16 209 b (by decide)) (fun b => g16 211 b (by decide)) (fun b => g16 213 b (by decide)) (fun b => g16 215 b (by decide)) (fun b => g16 217 b (by decide)) (fun b => g16 219 b (by decide))
  have r21 := y_B0.fr r12 (g16 211 0 (by decide)) (g16 213 0 (by decide))
  refine T_ite (fun h22 => ?_) (fun h22 => ?_)
  · exact sj_X11_readTape_1D_J68 hfu r0 s13 c14 f15 a2 (by omega) (by omega) r20
  · refine T_if1 (by decide +kernel) ?_
    refine T_let 33 (by decide +kernel) ?_
    refine T_if1 (by decide +kernel) ?_
    refine T_let 6 (by decide +kernel) ?_
    refine T_if1 (by decide +kernel) ?_
    refine T_useN (sf_X2_keep_33_6 hfu s13 c14) (fun v28 s23 hq => ?_)
    obtain ⟨c24, f25, rfl⟩ := hq
    refine T_vN ?_
    have f26 := z_Fr.tr (R := R_X11_readTape_1) f15 f25 rs_X2_keep_33_6__X11_readTape_1
    have t31 : s23 1 12 = s13 1 12 := f25 1 12 (by decide)
    have t32 : s23 32 7 = s13 32 7 := f25 32 7 (by decide)
    have r33 := y_V2.fr r20 (f25 1 16 (by decide)) (f25 191 16 (by decide)) (f25 6 6 (by decide)) (f25 191 17 (by decide)) (f25 191 18 (by decide)) (fun b => f25 3 b (nr_X2_keep_33_6__3 b)) (fun b => f25 8 b (nr_X2_keep_33_6__8 b)) (fun b => f25 12 b (nr_X2_keep_33_6__12 b)) (fun b => f25 14 b (nr_X2_keep_33_6__14 b)) (fun b => f25 16 b (nr_X2_keep_33_6__16 b)) (fun b => f25 18 b (nr_X2_keep_33_6__18 b)) (fun b => f25 193 b (nr_X2_keep_33_6__193 b)) (fun b => f25 195 b (nr_X2_keep_33_6__195 b)) (fun b => f25 197 b (nr_X2_keep_33_6__197 b)) (fun b => f25 199 b (nr_X2_keep_33_6__199 b)) (fun b => f25 201 b (nr_X2_keep_33_6__201 b)) (fun b => f25 203 b (nr_X2_keep_33_6__203 b)) (fun b => f25 205 b (nr_X2_keep_33_6__205 b)) (fun b => f25 207 b (nr_X2_keep_33_6__207 b)) (fun b => f25 209 b (nr_X2_keep_33_6__209 b)) (fun b => f25 211 b (nr_X2_keep_33_6__211 b)) (fun b => f25 213 b (nr_X2_keep_33_6__213 b)) (fun b => f25 215 b (nr_X2_keep_33_6__215 b)) (fun b => f25 217 b (nr_X2_keep_33_6__217 b)) (fun b => f25 219 b (nr_X2_keep_33_6__219 b))
    have r34 := y_B0.fr r21 (f25 211 0 (by decide)) (f25 213 0 (by decide))
    refine T_if1 (by decide +kernel) ?_
    refine T_let 6 (by decide +kernel) ?_
    refine T_if1 (by decide +kernel) ?_
    refine T_let 19 (by decide +kernel) ?_
    refine T_if1 (by decide +kernel) ?_
    refine T_useN (sf_X9_copyFrom_6_19 hfu s23 c24) (fun v40 s35 hq => ?_)
    obtain ⟨c36, f37, rfl⟩ := hq
    refine T_vN ?_
    have f38 := z_Fr.tr (R := R_X11_readTape_1) f26 f37 rs_X9_copyFrom_6_19__X11_readTape_1
    have t43 : s35 1 12 = s23 1 12 := f37 1 12 (by decide)
    have t44 : s35 32 7 = s23 32 7 := f37 32 7 (by decide)
    have r45 := y_B0.fr r34 (f37 211 0 (by decide)) (f37 213 0 (by decide))
    refine T_if1 ⟨(by decide +kernel), by unfold z_bl; omega⟩ ?_
    refine T_upg c36 bd_1_16 (by omega) (fun s46 c47 g49 g50 e51 => ?_)
    have f48 := z_Fr.upf (R := R_X11_readTape_1) f38 g49 g50 (Or.inr (Or.inr (Or.inl (⟨rfl, by decide⟩))))
    have t52 : s46 1 12 = s35 1 12 := g50 12 (by decide)
    have t53 : s46 32 7 = s35 32 7 := g49 32 7 (by decide)
    have r54 := y_B0.fr r45 (g49 211 0 (by decide)) (g49 213 0 (by decide))
    exact sj_X11_readTape_1D_J68 hfu r0 s46 c47 f48 a2 (by omega) (by omega) ⟨r54, Or.inl (by omega)⟩
theorem sf_X11_readTape_1D {fu : Nat} (hfu : 8589934592 ≤ fu) (r0 : z_M) (c0 : z_CI r0) (a1 : Int) (b1 : -2147483648 ≤ a1 ∧ a1 ≤ 2147483647) (p0 : y_V2 r0) : z_T (fX11_readTape fu r0 1 a1) (P_X11_readTape_1D r0) := by
  refine T_of (fX11_readTape.eq_1 ..) ?_
  refine T_if1 (by decide +kernel) ?_
  refine T_let 32 (by decide +kernel) ?_
  refine T_if1 (by decide +kernel) ?_
  refine T_let 4 (by decide +kernel) ?_
  refine T_if1 (by decide +kernel) ?_
  refine T_useI (sf_X6_read_32_4 hfu r0 c0 a1 (by omega)) (fun v6 s1 hq => ?_)
  obtain ⟨c2, f3, ⟨x5, rfl, b7, b8⟩⟩ := hq
  refine T_vI ?_
  have f4 := z_Fr.tr (R := R_X11_readTape_1) z_Fr.rf f3 rs_X6_read_32_4__X11_readTape_1
  have t9 : s1 1 12 = r0 1 12 := f3 1 12 (by decide)
  have u10 := CI_b c2 (k := 32) (j := 7) bd_32_7
  have r11 := y_V2.fr p0 (f3 1 16 (by decide)) (f3 191 16 (by decide)) (f3 6 6 (by decide)) (f3 191 17 (by decide)) (f3 191 18 (by decide)) (fun b => f3 3 b (nr_X6_read_32_4__3 b)) (fun b => f3 8 b (nr_X6_read_32_4__8 b)) (fun b => f3 12 b (nr_X6_read_32_4__12 b)) (fun b => f3 14 b (nr_X6_read_32_4__14 b)) (fun b => f3 16 b (nr_X6_read_32_4__16 b)) (fun b => f3 18 b (nr_X6_read_32_4__18 b)) (fun b => f3 193 b (nr_X6_read_32_4__193 b)) (fun b => f3 195 b (nr_X6_read_32_4__195 b)) (fun b => f3 197 b (nr_X6_read_32_4__197 b)) (fun b => f3 199 b (nr_X6_read_32_4__199 b)) (fun b => f3 201 b (nr_X6_read_32_4__201 b)) (fun b => f3 203 b (nr_X6_read_32_4__203 b)) (fun b => f3 205 b (nr_X6_read_32_4__205 b)) (fun b => f3 207 b (nr_X6_read_32_4__207 b)) (fun b => f3 209 b (nr_X6_read_32_4__209 b)) (fun b => f3 211 b (nr_X6_read_32_4__211 b)) (fun b => f3 213 b (nr_X6_read_32_4__213 b)) (fun b => f3 215 b (nr_X6_read_32_4__215 b)) (fun b => f3 217 b (nr_X6_read_32_4__217 b)) (fun b => f3 219 b (nr_X6_read_32_4__219 b))
  have r12 := y_B0.fr p0.1 (f3 211 0 (by decide)) (f3 213 0 (by decide))
  refine T_ite (fun h13 => ?_) (fun h13 => ?_)
  · refine T_if1 (by decide +kernel) ?_
    refine T_let 32 (by decide +kernel) ?_
    refine T_if1 (by decide +kernel) ?_
    refine T_leq (fun x14 e15 => ?_)
    have u16 := CI_b c2 (k := 32) (j := 7) bd_32_7
    exact sj_X11_readTape_1D_J29 hfu r0 s1 c2 f4 x5 x14 (by omega) (by omega) r11
  · exact sj_X11_readTape_1D_J29 hfu r0 s1 c2 f4 x5 (-1) (by omega) (by omega) r11
abbrev P_X11_refresh_1D (r0 : z_M) : z_V → z_M → Prop := fun v s' => z_CI s' ∧ z_Fr R_X11_refresh_1 r0 s' ∧ (y_U2 s') ∧ (v = vN)
theorem sj_X11_refresh_1D_J78 {fu : Nat} (hfu : 8589934592 ≤ fu) (r0 s : z_M) (c : z_CI s) (f : z_Fr R_X11_refresh_1 r0 s) (p0 : y_U2 s) : z_T (fX11_refresh_J78 fu s) (P_X11_refresh_1D r0) := by
  refine T_of (fX11_refresh_J78.eq_1 ..) ?_
  have u1 := CI_b c (k := 1) (j := 16) bd_1_16
  have u2 := CI_b c (k := 1) (j := 17) bd_1_17
  exact T_ret ⟨c, f, p0, rfl⟩
theorem nr_X1_go_240__3 (b : Int) : ¬ R_X1_go_240 3 b := by
  unfold R_X1_go_240; omega
theorem nr_X1_go_240__16 (b : Int) : ¬ R_X1_go_240 16 b := by
  unfold R_X1_go_240; omega
theorem nr_X1_go_240__18 (b : Int) : ¬ R_X1_go_240 18 b := by
  unfold R_X1_go_240; omega
theorem nr_X1_go_240__199 (b : Int) : ¬ R_X1_go_240 199 b := by
  unfold R_X1_go_240; omega
theorem nr_X1_go_240__201 (b : Int) : ¬ R_X1_go_240 201 b := by
  unfold R_X1_go_240; omega
theorem nr_X1_go_240__203 (b : Int) : ¬ R_X1_go_240 203 b := by
  unfold R_X1_go_240; omega
theorem nr_X1_go_240__205 (b : Int) : ¬ R_X1_go_240 205 b := by
  unfold R_X1_go_240; omega
theorem nr_X1_go_240__207 (b : Int) : ¬ R_X1_go_240 207 b := by
  unfold R_X1_go_240; omega
theorem nr_X1_go_240__209 (b : Int) : ¬ R_X1_go_240 209 b := by
  unfold R_X1_go_240; omega
theorem nr_X1_go_240__211 (b : Int) : ¬ R_X1_go_240 211 b := by
  unfold R_X1_go_240; omega
theorem nr_X1_go_240__213 (b : Int) : ¬ R_X1_go_240 213 b := by
  unfold R_X1_go_240; omega
theorem nr_X1_go_240__217 (b : Int) : ¬ R_X1_go_240 217 b := by
  unfold R_X1_go_240; omega
theorem nr_X1_go_240__219 (b : Int) : ¬ R_X1_go_240 219 b := by
  unfold R_X1_go_240; omega
theorem nr_X3_build_258__3 (b : Int) : ¬ R_X3_build_258 3 b := by
  unfold R_X3_build_258; omega
theorem nr_X3_build_258__16 (b : Int) : ¬ R_X3_build_258 16 b := by
  unfold R_X3_build_258; omega
theorem nr_X3_build_258__18 (b : Int) : ¬ R_X3_build_258 18 b := by
  unfold R_X3_build_258; omega
theorem nr_X3_build_258__199 (b : Int) : ¬ R_X3_build_258 199 b := by
  unfold R_X3_build_258; omega
theorem nr_X3_build_258__201 (b : Int) : ¬ R_X3_build_258 201 b := by
  unfold R_X3_build_258; omega
theorem nr_X3_build_258__203 (b : Int) : ¬ R_X3_build_258 203 b := by
  unfold R_X3_build_258; omega
theorem nr_X3_build_258__205 (b : Int) : ¬ R_X3_build_258 205 b := by
  unfold R_X3_build_258; omega
theorem nr_X3_build_258__207 (b : Int) : ¬ R_X3_build_258 207 b := by
  unfold R_X3_build_258; omega
theorem nr_X3_build_258__209 (b : Int) : ¬ R_X3_build_258 209 b := by
  unfold R_X3_build_258; omega
theorem nr_X3_build_258__211 (b : Int) : ¬ R_X3_build_258 211 b := by
  unfold R_X3_build_258; omega
theorem nr_X3_build_258__213 (b : Int) : ¬ R_X3_build_258 213 b := by
  unfold R_X3_build_258; omega
theorem nr_X3_build_258__217 (b : Int) : ¬ R_X3_build_258 217 b := by
  unfold R_X3_build_258; omega
theorem nr_X3_build_258__219 (b : Int) : ¬ R_X3_build_258 219 b := by
  unfold R_X3_build_258; omega
theorem sj_X11_refresh_1D_J31 {fu : Nat} (hfu : 8589934592 ≤ fu) (r0 s : z_M) (c : z_CI s) (f : z_Fr R_X11_refresh_1 r0 s) (p0 : y_U2 s) : z_T (fX11_refresh_J31 fu s 1) (P_X11_refresh_1D r0) := by
  refine T_of (fX11_refresh_J31.eq_1 ..) ?_
  have u1 := CI_b c (k := 1) (j := 16) bd_1_16
  have u2 := CI_b c (k := 1) (j := 17) bd_1_17
  refine T_if1 (by decide +kernel) ?_
  refine T_leq (fun x3 e4 => ?_)
  have u5 := CI_b c (k := 1) (j := 17) bd_1_17
  refine T_ite (fun h6 => ?_) (fun h6 => ?_)
  · exact sj_X11_refresh_1D_J78 hfu r0 s c f p0
  · refine T_if1 (by decide +kernel) ?_
    refine T_let 240 (by decide +kernel) ?_
    refine T_if1 (by decide +kernel) ?_
    refine T_let 2 (by decide +kernel) ?_
    refine T_if1 (by decide +kernel) ?_
    refine T_get (by decide +kernel) (c := 3) (by decide +kernel) bdr_3 (by decide) c (fun x7 e8 b9 w10 => ?_)
    have l11 : z_ln 2 = 9 := by decide +kernel
    refine T_if1 (by decide +kernel) ?_
    refine T_let 2 (by decide +kernel) ?_
    refine T_if1 (by decide +kernel) ?_
    refine T_get (by decide +kernel) (c := 3) (by decide +kernel) bdr_3 (by decide) c (fun x12 e13 b14 w15 => ?_)
    have l16 : z_ln 2 = 9 := by decide +kernel
    refine T_if1 (by decide +kernel) ?_
    refine T_useN (sf_X1_go_240 hfu s c x7 x12 (by omega) (by omega)) (fun v22 s17 hq => ?_)
    obtain ⟨c18, f19, rfl⟩ := hq
    refine T_vN ?_
    have f20 := z_Fr.tr (R := R_X11_refresh_1) f f19 rs_X1_go_240__X11_refresh_1
    have t25 : s17 1 16 = s 1 16 := f19 1 16 (by decide)
    have t26 : s17 1 17 = s 1 17 := f19 1 17 (by decide)
    have r27 := y_U2.fr p0 (f19 191 16 (by decide)) (f19 6 6 (by decide)) (f19 191 17 (by decide)) (f19 191 18 (by decide)) (fun b => f19 3 b (nr_X1_go_240__3 b)) (fun b => f19 8 b (nr_X1_go_240__8 b)) (fun b => f19 12 b (nr_X1_go_240__12 b)) (fun b => f19 14 b (nr_X1_go_240__14 b)) (fun b => f19 16 b (nr_X1_go_240__16 b)) (fun b => f19 18 b (nr_X1_go_240__18 b)) (fun b => f19 193 b (nr_X1_go_240__193 b)) (fun b => f19 195 b (nr_X1_go_240__195 b)) (fun b => f19 197 b (nr_X1_go_240__197 b)) (fun b => f19 199 b (nr_X1_go_240__199 b)) (fun b => f19 201 b (nr_X1_go_240__201 b)) (fun b => f19 203 b (nr_X1_go_240__203 b)) (fun b => f19 205 b (nr_X1_go_240__205 b)) (fun b => f19 207 b (nr_X1_go_240__207 b)) (fun b => f19 209 b (nr_X1_go_240__209 b)) (fun b => f19 211 b (nr_X1_go_240__211 b)) (fun b => f19 213 b (nr_X1_go_240__213 b)) (fun b => f19 215 b (nr_X1_go_240__215 b)) (fun b => f19 217 b (nr_X1_go_240__217 b)) (fun b => f19 219 b (nr_X1_go_240__219 b))
    have r28 := y_B0.fr p0.1 (f19 211 0 (by decide)) (f19 213 0 (by decide))
    refine T_if1 (by decide +kernel) ?_
    refine T_let 258 (by decide +kernel) ?_
    refine T_if1 (by decide +kernel) ?_
    refine T_useN (sf_X3_build_258 hfu s17 c18) (fun v34 s29 hq => ?_)
    obtain ⟨c30, f31, rfl⟩ := hq
    refine T_vN ?_
    have f32 := z_Fr.tr (R := R_X11_refresh_1) f20 f31 rs_X3_build_258__X11_refresh_1
    have t37 : s29 1 16 = s17 1 16 := f31 1 16 (by decide)
    have t38 : s29 1 17 = s17 1 17 := f31 1 17 (by decide)
    have r39 := y_U2.fr r27 (f31 191 16 (by decide)) (f31 6 6 (by decide)) (f31 191 17 (by decide)) (f31 191 18 (by decide)) (fun b => f31 3 b (nr_X3_build_258__3 b)) (fun b => f31 8 b (nr_X3_build_258__8 b)) (fun b => f31 12 b (nr_X3_build_258__12 b)) (fun b => f31 14 b (nr_X3_build_258__14 b)) (fun b => f31 16 b (nr_X3_build_258__16 b)) (fun b => f31 18 b (nr_X3_build_258__18 b)) (fun b => f31 193 b (nr_X3_build_258__193 b)) (fun b => f31 195 b (nr_X3_build_258__195 b)) (fun b => f31 197 b (nr_X3_build_258__197 b)) (fun b => f31 199 b (nr_X3_build_258__199 b)) (fun b => f31 201 b (nr_X3_build_258__201 b)) (fun b => f31 203 b (nr_X3_build_258__203 b)) (fun b => f31 205 b (nr_X3_build_258__205 b)) (fun b => f31 207 b (nr_X3_build_258__207 b)) (fun b => f31 209 b (nr_X3_build_258__209 b)) (fun b => f31 211 b (nr_X3_build_258__211 b)) (fun b => f31 213 b (nr_X3_build_258__213 b)) (fun b => f31 215 b (nr_X3_build_258__215 b)) (fun b => f31 217 b (nr_X3_build_258__217 b)) (fun b => f31 219 b (nr_X3_build_258__219 b))
    have r40 := y_B0.fr r28 (f31 211 0 (by decide)) (f31 213 0 (by decide))
    refine T_if1 ⟨(by decide +kernel), by unfold z_bl; omega⟩ ?_
    refine T_upg c30 bd_1_17 (by omega) (fun s41 c42 g44 g45 e46 => ?_)
    have f43 := z_Fr.upf (R := R_X11_refresh_1) f32 g44 g45 (Or.inr (Or.inr (Or.inr (Or.inr (Or.inr (Or.inr (Or.inr (Or.inl (⟨rfl, by decide⟩)))))))))
    have t47 : s41 1 16 = s29 1 16 := g45 16 (by decide)
    have r48 := y_U2.fr r39 (g44 191 16 (by decide)) (g44 6 6 (by decide)) (g44 191 17 (by decide)) (g44 191 18 (by decide)) (fun b => g44 3 b (by decide)) (fun b => g44 8 b (by decide)) (fun b => g44 12 b (by decide)) (fun b => g44 14 b (by decide)) (fun b => g44 16 b (by decide)) (fun b => g44 18 b (by decide)) (fun b => g44 193 b (by decide)) (fun b => g44 195 b (by decide)) (fun b => g44 197 b (by decide)) (fun b => g44 199 b (by decide)) (fun b => g44 201 b (by decide)) (fun b => g44 203 b (by decide)) (fun b => g44 205 b (by decide)) (fun b => g44 207 b (by decide)) (fun b => g44 209 b (by decide)) (fun b => g44 211 b (by decide)) (fun b => g44 213 b (by decide)) (fun b => g44 215 b (by decide)) (fun b => g44 217 b (by decide)) (fun b => g44 219 b (by decide))
    have r49 := y_B0.fr r40 (g44 211 0 (by decide)) (g44 213 0 (by decide))
    refine T_if1 ⟨(by decide +kernel), by unfold z_bl; omega⟩ ?_
    refine T_upg c42 bd_1_18 (by omega) (fun s50 c51 g53 g54 e55 => ?_)
    have f52 := z_Fr.upf (R := R_X11_refresh_1) f43 g53 g54 (Or.inr (Or.inr (Or.inr (Or.inr (Or.inr (Or.inr (Or.inr (Or.inl (⟨rfl, by decide⟩)))))))))
    have t56 : s50 1 16 = s41 1 16 := g54 16 (by decide)
    have t57 : s50 1 17 = s41 1 17 := g54 17 (by decide)
    have r58 := y_U2.fr r48 (g53 191 16 (by decide)) (g53 6 6 (by decide)) (g53 191 17 (by decide)) (g53 191 18 (by decide)) (fun b => g53 3 b (by decide)) (fun b => g53 8 b (by decide)) (fun b => g53 12 b (by decide)) (fun b => g53 14 b (by decide)) (fun b => g53 16 b (by decide)) (fun b => g53 18 b (by decide)) (fun b => g53 193 b (by decide)) (fun b => g53 195 b (by decide)) (fun b => g53 197 b (by decide)) (fun b => g53 199 b (by decide)) (fun b => g53 201 b (by decide)) (fun b => g53 203 b (by decide)) (fun b => g53 205 b (by decide)) (fun b => g53 207 b (by decide)) (fun b => g53 209 b (by decide)) (fun b => g53 211 b (by decide)) (fun b => g53 213 b (by decide)) (fun b => g53 215 b (by decide)) (fun b => g53 217 b (by decide)) (fun b => g53 219 b (by decide))
    have r59 := y_B0.fr r49 (g53 211 0 (by decide)) (g53 213 0 (by decide))
    exact sj_X11_refresh_1D_J78 hfu r0 s50 c51 f52 r58
theorem nr_X10_build_191__3 (b : Int) : ¬ R_X10_build_191 3 b := by
  unfold R_X10_build_191; omega
theorem nr_X10_build_191__16 (b : Int) : ¬ R_X10_build_191 16 b := by
  unfold R_X10_build_191; omega
theorem nr_X10_build_191__18 (b : Int) : ¬ R_X10_build_191 18 b := by
  unfold R_X10_build_191; omega
theorem nr_X5_forget_220__3 (b : Int) : ¬ R_X5_forget_220 3 b := by
  unfold R_X5_forget_220; omega
theorem nr_X5_forget_220__16 (b : Int) : ¬ R_X5_forget_220 16 b := by
  unfold R_X5_forget_220; omega
theorem nr_X5_forget_220__18 (b : Int) : ¬ R_X5_forget_220 18 b := by
  unfold R_X5_forget_220; omega
theorem nr_X5_forget_220__199 (b : Int) : ¬ R_X5_forget_220 199 b := by
  unfold R_X5_forget_220; omega
theorem nr_X5_forget_220__201 (b : Int) : ¬ R_X5_forget_220 201 b := by
  unfold R_X5_forget_220; omega
theorem nr_X5_forget_220__203 (b : Int) : ¬ R_X5_forget_220 203 b := by
  unfold R_X5_forget_220; omega
theorem nr_X5_forget_220__205 (b : Int) : ¬ R_X5_forget_220 205 b := by
  unfold R_X5_forget_220; omega
theorem nr_X5_forget_220__207 (b : Int) : ¬ R_X5_forget_220 207 b := by
  unfold R_X5_forget_220; omega
theorem nr_X5_forget_220__209 (b : Int) : ¬ R_X5_forget_220 209 b := by
  unfold R_X5_forget_220; omega
theorem nr_X5_forget_220__211 (b : Int) : ¬ R_X5_forget_220 211 b := by
  unfold R_X5_forget_220; omega
theorem nr_X5_forget_220__213 (b : Int) : ¬ R_X5_forget_220 213 b := by
  unfold R_X5_forget_220; omega
theorem nr_X5_forget_220__217 (b : Int) : ¬ R_X5_forget_220 217 b := by
  unfold R_X5_forget_220; omega
theorem nr_X5_forget_220__219 (b : Int) : ¬ R_X5_forget_220 219 b := by
  unfold R_X5_forget_220; omega
theorem sf_X11_refresh_1D {fu : Nat} (hfu : 8589934592 ≤ fu) (r0 : z_M) (c0 : z_CI r0) (p0 : y_V2 r0) : z_T (fX11_refresh fu r0 1) (P_X11_refresh_1D r0) := by
  refine T_of (fX11_refresh.eq_1 ..) ?_
  refine T_if1 (by decide +kernel) ?_
  refine T_leq (fun x1 e2 => ?_)
  have u3 := CI_b c0 (k := 1) (j := 16) bd_1_16
  refine T_ite (fun h4 => ?_) (fun h4 => ?_)
  · exact sj_X11_refresh_1D_J31 hfu r0 r0 c0 z_Fr.rf (y_V2.to p0 (by omega))
  · refine T_if1 (by decide +kernel) ?_
    refine T_let 191 (by decide +kernel) ?_
    refine T_if1 (by decide +kernel) ?_
    refine T_useN (sf_X10_build_191D hfu r0 c0 p0.1) (fun v10 s5 hq => ?_)
    obtain ⟨c6, f7, o11, rfl⟩ := hq
    refine T_vN ?_
    have f8 := z_Fr.tr (R := R_X11_refresh_1) z_Fr.rf f7 rs_X10_build_191__X11_refresh_1
    have t14 : s5 1 16 = r0 1 16 := f7 1 16 (by decide)
    have t15 : s5 1 17 = r0 1 17 := f7 1 17 (by decide)
    refine T_if1 (by decide +kernel) ?_
    refine T_let 220 (by decide +kernel) ?_
    refine T_if1 (by decide +kernel) ?_
    refine T_useN (sf_X5_forget_220 hfu s5 c6) (fun v21 s16 hq => ?_)
    obtain ⟨c17, f18, rfl⟩ := hq
    refine T_vN ?_
    have f19 := z_Fr.tr (R := R_X11_refresh_1) f8 f18 rs_X5_forget_220__X11_refresh_1
    have t24 : s16 1 16 = s5 1 16 := f18 1 16 (by decide)
    have t25 : s16 1 17 = s5 1 17 := f18 1 17 (by decide)
    have r26 := y_U2.fr o11 (f18 191 16 (by decide)) (f18 6 6 (by decide)) (f18 191 17 (by decide)) (f18 191 18 (by decide)) (fun b => f18 3 b (nr_X5_forget_220__3 b)) (fun b => f18 8 b (nr_X5_forget_220__8 b)) (fun b => f18 12 b (nr_X5_forget_220__12 b)) (fun b => f18 14 b (nr_X5_forget_220__14 b)) (fun b => f18 16 b (nr_X5_forget_220__16 b)) (fun b => f18 18 b (nr_X5_forget_220__18 b)) (fun b => f18 193 b (nr_X5_forget_220__193 b)) (fun b => f18 195 b (nr_X5_forget_220__195 b)) (fun b => f18 197 b (nr_X5_forget_220__197 b)) (fun b => f18 199 b (nr_X5_forget_220__199 b)) (fun b => f18 201 b (nr_X5_forget_220__201 b)) (fun b => f18 203 b (nr_X5_forget_220__203 b)) (fun b => f18 205 b (nr_X5_forget_220__205 b)) (fun b => f18 207 b (nr_X5_forget_220__207 b)) (fun b => f18 209 b (nr_X5_forget_220__209 b)) (fun b => f18 211 b (nr_X5_forget_220__211 b)) (fun b => f18 213 b (nr_X5_forget_220__213 b)) (fun b => f18 215 b (nr_X5_forget_220__215 b)) (fun b => f18 217 b (nr_X5_forget_220__217 b)) (fun b => f18 219 b (nr_X5_forget_220__219 b))
    have r27 := y_B0.fr o11.1 (f18 211 0 (by decide)) (f18 213 0 (by decide))
    refine T_if1 ⟨(by decide +kernel), by unfold z_bl; omega⟩ ?_
    refine T_upg c17 bd_1_16 (by omega) (fun s28 c29 g31 g32 e33 => ?_)
    have f30 := z_Fr.upf (R := R_X11_refresh_1) f19 g31 g32 (Or.inr (Or.inr (Or.inr (Or.inr (Or.inr (Or.inr (Or.inr (Or.inl (⟨rfl, by decide⟩)))))))))
    have t34 : s28 1 17 = s16 1 17 := g32 17 (by decide)
    have r35 := y_U2.fr r26 (g31 191 16 (by decide)) (g31 6 6 (by decide)) (g31 191 17 (by decide)) (g31 191 18 (by decide)) (fun b => g31 3 b (by decide)) (fun b => g31 8 b (by decide)) (fun b => g31 12 b (by decide)) (fun b => g31 14 b (by decide)) (fun b => g31 16 b (by decide)) (fun b => g31 18 b (by decide)) (fun b => g31 193 b (by decide)) (fun b => g31 195 b (by decide)) (fun b => g31 197 b (by decide)) (fun b => g31 199 b (by decide)) (fun b => g31 201 b (by decide)) (fun b => g31 203 b (by decide)) (fun b => g31 205 b (by decide)) (fun b => g31 207 b (by decide)) (fun b => g31 209 b (by decide)) (fun b => g31 211 b (by decide)) (fun b => g31 213 b (by decide)) (fun b => g31 215 b (by decide)) (fun b => g31 217 b (by decide)) (fun b => g31 219 b (by decide))
    have r36 := y_B0.fr r27 (g31 211 0 (by decide)) (g31 213 0 (by decide))
    refine T_if1 ⟨(by decide +kernel), by unfold z_bl; omega⟩ ?_
    refine T_upg c29 bd_1_17 (by omega) (fun s37 c38 g40 g41 e42 => ?_)
    have f39 := z_Fr.upf (R := R_X11_refresh_1) f30 g40 g41 (Or.inr (Or.inr (Or.inr (Or.inr (Or.inr (Or.inr (Or.inr (Or.inl (⟨rfl, by decide⟩)))))))))
    have t43 : s37 1 16 = s28 1 16 := g41 16 (by decide)
    have r44 := y_U2.fr r35 (g40 191 16 (by decide)) (g40 6 6 (by decide)) (g40 191 17 (by decide)) (g40 191 18 (by decide)) (fun b => g40 3 b (by decide)) (fun b => g40 8 b (by decide)) (fun b => g40 12 b (by decide)) (fun b => g40 14 b (by decide)) (fun b => g40 16 b (by decide)) (fun b => g40 18 b (by decide)) (fun b => g40 193 b (by decide)) (fun b => g40 195 b (by decide)) (fun b => g40 197 b (by decide)) (fun b => g40 199 b (by decide)) (fun b => g40 201 b (by decide)) (fun b => g40 203 b (by decide)) (fun b => g40 205 b (by decide)) (fun b => g40 207 b (by decide)) (fun b => g40 209 b (by decide)) (fun b => g40 211 b (by decide)) (fun b => g40 213 b (by decide)) (fun b => g40 215 b (by decide)) (fun b => g40 217 b (by decide)) (fun b => g40 219 b (by decide))
    have r45 := y_B0.fr r36 (g40 211 0 (by decide)) (g40 213 0 (by decide))
    exact sj_X11_refresh_1D_J31 hfu r0 s37 c38 f39 r44
abbrev P_X11_text_1D (r0 : z_M) (a1 : Int) : z_V → z_M → Prop := fun v s' => z_CI s' ∧ z_Fr R_X11_text_1 r0 s' ∧ (y_V2 s') ∧ ((0 ≤ a1 ∧ a1 ≤ r0 1 12 ∧ s' 1 12 = 0) ∨ ((a1 < 0 ∨ r0 1 12 < a1) ∧ s' 1 12 = r0 1 12)) ∧ ((∃ x, v = vI x ∧ -2147483648 ≤ x ∧ x ≤ 2147483647) ∨ v = vX 1)
theorem nr_X9_clear_19__3 (b : Int) : ¬ R_X9_clear_19 3 b := by
  unfold R_X9_clear_19; omega
theorem nr_X9_clear_19__16 (b : Int) : ¬ R_X9_clear_19 16 b := by
  unfold R_X9_clear_19; omega
theorem nr_X9_clear_19__18 (b : Int) : ¬ R_X9_clear_19 18 b := by
  unfold R_X9_clear_19; omega
theorem nr_X9_clear_19__199 (b : Int) : ¬ R_X9_clear_19 199 b := by
  unfold R_X9_clear_19; omega
theorem nr_X9_clear_19__201 (b : Int) : ¬ R_X9_clear_19 201 b := by
  unfold R_X9_clear_19; omega
theorem nr_X9_clear_19__203 (b : Int) : ¬ R_X9_clear_19 203 b := by
  unfold R_X9_clear_19; omega
theorem nr_X9_clear_19__205 (b : Int) : ¬ R_X9_clear_19 205 b := by
  unfold R_X9_clear_19; omega
theorem nr_X9_clear_19__207 (b : Int) : ¬ R_X9_clear_19 207 b := by
  unfold R_X9_clear_19; omega
theorem nr_X9_clear_19__209 (b : Int) : ¬ R_X9_clear_19 209 b := by
  unfold R_X9_clear_19; omega
theorem nr_X9_clear_19__211 (b : Int) : ¬ R_X9_clear_19 211 b := by
  unfold R_X9_clear_19; omega
theorem nr_X9_clear_19__213 (b : Int) : ¬ R_X9_clear_19 213 b := by
  unfold R_X9_clear_19; omega
theorem nr_X9_clear_19__217 (b : Int) : ¬ R_X9_clear_19 217 b := by
  unfold R_X9_clear_19; omega
theorem nr_X9_clear_19__219 (b : Int) : ¬ R_X9_clear_19 219 b := by
  unfold R_X9_clear_19; omega
theorem nr_X11_readTape_1__3 (b : Int) : ¬ R_X11_readTape_1 3 b := by
  unfold R_X11_readTape_1; omega
theorem nr_X11_readTape_1__199 (b : Int) : ¬ R_X11_readTape_1 199 b := by
  unfold R_X11_readTape_1; omega
theorem nr_X11_readTape_1__201 (b : Int) : ¬ R_X11_readTape_1 201 b := by
  unfold R_X11_readTape_1; omega
theorem nr_X11_readTape_1__203 (b : Int) : ¬ R_X11_readTape_1 203 b := by
  unfold R_X11_readTape_1; omega
theorem nr_X11_readTape_1__205 (b : Int) : ¬ R_X11_readTape_1 205 b := by
  unfold R_X11_readTape_1; omega
theorem nr_X11_readTape_1__207 (b : Int) : ¬ R_X11_readTape_1 207 b := by
  unfold R_X11_readTape_1; omega
theorem nr_X11_readTape_1__209 (b : Int) : ¬ R_X11_readTape_1 209 b := by
  unfold R_X11_readTape_1; omega
theorem nr_X11_readTape_1__211 (b : Int) : ¬ R_X11_readTape_1 211 b := by
  unfold R_X11_readTape_1; omega
theorem nr_X11_readTape_1__213 (b : Int) : ¬ R_X11_readTape_1 213 b := by
  unfold R_X11_readTape_1; omega
theorem nr_X11_readTape_1__217 (b : Int) : ¬ R_X11_readTape_1 217 b := by
  unfold R_X11_readTape_1; omega
theorem nr_X11_readTape_1__219 (b : Int) : ¬ R_X11_readTape_1 219 b := by
  unfold R_X11_readTape_1; omega
theorem nr_X11_refresh_1__3 (b : Int) : ¬ R_X11_refresh_1 3 b := by
  unfold R_X11_refresh_1; omega
theorem nr_X11_refresh_1__16 (b : Int) : ¬ R_X11_refresh_1 16 b := by
  unfold R_X11_refresh_1; omega
theorem nr_X11_refresh_1__18 (b : Int) : ¬ R_X11_refresh_1 18 b := by
  unfold R_X11_refresh_1; omega
theorem sj_X11_text_1D_J45 {fu : Nat} (hfu : 8589934592 ≤ fu) (r0 s : z_M) (c : z_CI s) (f : z_Fr R_X11_text_1 r0 s) (t0 : Int) (a1 : Int) (d0 : -2147483648 ≤ t0 ∧ t0 ≤ 2147483647) (p0 : y_V2 s) (p1 : 0 ≤ a1 ∧ a1 ≤ r0 1 12 ∧ s 1 12 = 0) : z_T (fX11_text_J45 fu s t0) (P_X11_text_1D r0 a1) := by
  refine T_of (fX11_text_J45.eq_1 ..) ?_
  have u1 := CI_b c (k := 1) (j := 12) bd_1_12
  have u2 := CI_b c (k := 191) (j := 16) bd_191_16
  exact T_ret ⟨c, f, p0, by omega, Or.inl (⟨t0, rfl, by omega, by omega⟩)⟩
theorem sf_X11_text_1D {fu : Nat} (hfu : 8589934592 ≤ fu) (r0 : z_M) (c0 : z_CI r0) (a1 : Int) (b1 : -2147483648 ≤ a1 ∧ a1 ≤ 2147483647) (p0 : y_V2 r0) : z_T (fX11_text fu r0 1 a1) (P_X11_text_1D r0 a1) := by
  refine T_of (fX11_text.eq_1 ..) ?_
  refine T_if1 (by decide +kernel) ?_
  refine T_leq (fun x1 e2 => ?_)
  have u3 := CI_b c0 (k := 1) (j := 12) bd_1_12
  refine T_if1 (by decide +kernel) ?_
  refine T_nwn (fun hn => ?_) (fun h4 h5 => ?_)
  · exact T_ret ⟨CI_up c0 bd_1_15 (z_wb rfl).1, z_Fr.upf (R := R_X11_text_1) z_Fr.rf (fun a b h => z_up_k h) (fun b h => z_up_j h) (Or.inr (Or.inr (Or.inr (Or.inr (Or.inr (Or.inr (Or.inr (Or.inr (Or.inr (Or.inl (⟨rfl, by decide⟩))))))))))), y_V2.fr p0 (z_up_j (by decide)) (z_up_k (by decide)) (z_up_k (by decide)) (z_up_k (by decide)) (z_up_k (by decide)) (fun _ => z_up_k (by decide)) (fun _ => z_up_k (by decide)) (fun _ => z_up_k (by decide)) (fun _ => z_up_k (by decide)) (fun _ => z_up_k (by decide)) (fun _ => z_up_k (by decide)) (fun _ => z_up_k (by decide)) (fun _ => z_up_k (by decide)) (fun _ => z_up_k (by decide)) (fun _ => z_up_k (by decide)) (fun _ => z_up_k (by decide)) (fun _ => z_up_k (by decide)) (fun _ => z_up_k (by decide)) (fun _ => z_up_k (by decide)) (fun _ => z_up_k (by decide)) (fun _ => z_up_k (by decide)) (fun _ => z_up_k (by decide)) (fun _ => z_up_k (by decide)) (fun _ => z_up_k (by decide)) (fun _ => z_up_k (by decide)), by rw [show z_up r0 1 15 _ 1 12 = r0 1 12 from z_up_j (by decide)]; omega, Or.inr rfl⟩
  refine T_if1 (by decide +kernel) ?_
  refine T_let 19 (by decide +kernel) ?_
  refine T_if1 (by decide +kernel) ?_
  refine T_useN (sf_X9_clear_19 hfu r0 c0) (fun v11 s6 hq => ?_)
  obtain ⟨c7, f8, rfl⟩ := hq
  refine T_vN ?_
  have f9 := z_Fr.tr (R := R_X11_text_1) z_Fr.rf f8 rs_X9_clear_19__X11_text_1
  have t14 : s6 1 12 = r0 1 12 := f8 1 12 (by decide)
  have t15 : s6 191 16 = r0 191 16 := f8 191 16 (by decide)
  have r16 := y_V2.fr p0 (f8 1 16 (by decide)) (f8 191 16 (by decide)) (f8 6 6 (by decide)) (f8 191 17 (by decide)) (f8 191 18 (by decide)) (fun b => f8 3 b (nr_X9_clear_19__3 b)) (fun b => f8 8 b (nr_X9_clear_19__8 b)) (fun b => f8 12 b (nr_X9_clear_19__12 b)) (fun b => f8 14 b (nr_X9_clear_19__14 b)) (fun b => f8 16 b (nr_X9_clear_19__16 b)) (fun b => f8 18 b (nr_X9_clear_19__18 b)) (fun b => f8 193 b (nr_X9_clear_19__193 b)) (fun b => f8 195 b (nr_X9_clear_19__195 b)) (fun b => f8 197 b (nr_X9_clear_19__197 b)) (fun b => f8 199 b (nr_X9_clear_19__199 b)) (fun b => f8 201 b (nr_X9_clear_19__201 b)) (fun b => f8 203 b (nr_X9_clear_19__203 b)) (fun b => f8 205 b (nr_X9_clear_19__205 b)) (fun b => f8 207 b (nr_X9_clear_19__207 b)) (fun b => f8 209 b (nr_X9_clear_19__209 b)) (fun b => f8 211 b (nr_X9_clear_19__211 b)) (fun b => f8 213 b (nr_X9_clear_19__213 b)) (fun b => f8 215 b (nr_X9_clear_19__215 b)) (fun b => f8 217 b (nr_X9_clear_19__217 b)) (fun b => f8 219 b (nr_X9_clear_19__219 b))
  have r17 := y_B0.fr p0.1 (f8 211 0 (by decide)) (f8 213 0 (by decide))
  refine T_if1 (by decide +kernel) ?_
  refine T_useI (sf_X11_readTape_1D hfu s6 c7 a1 (by omega) r16) (fun v23 s18 hq => ?_)
  obtain ⟨c19, f20, o24, o25, ⟨x22, rfl, b26, b27⟩⟩ := hq
  refine T_vI ?_
  have f21 := z_Fr.tr (R := R_X11_text_1) f9 f20 rs_X11_readTape_1__X11_text_1
  have t28 : s18 191 16 = s6 191 16 := f20 191 16 (by decide)
  have u29 := CI_b c19 (k := 1) (j := 12) bd_1_12
  have r30 := y_B0.fr r17 (f20 211 0 (by decide)) (f20 213 0 (by decide))
  refine T_if1 (by decide +kernel) ?_
  refine T_useN (sf_X11_refresh_1D hfu s18 c19 o24) (fun v36 s31 hq => ?_)
  obtain ⟨c32, f33, o37, rfl⟩ := hq
  refine T_vN ?_
  have f34 := z_Fr.tr (R := R_X11_text_1) f21 f33 rs_X11_refresh_1__X11_text_1
  have t40 : s31 1 12 = s18 1 12 := f33 1 12 (by decide)
  have u41 := CI_b c32 (k := 191) (j := 16) bd_191_16
  refine T_ite (fun h42 => ?_) (fun h42 => ?_)
  · refine T_leq (fun x43 e44 => ?_)
    have w45 := z_wr e44
    exact sj_X11_text_1D_J45 hfu r0 s31 c32 f34 x43 a1 (by omega) (y_V2.u o37) (by omega)
  · refine T_if1 (by decide +kernel) ?_
    refine T_let 191 (by decide +kernel) ?_
    refine T_if1 (by decide +kernel) ?_
    refine T_leq (fun x46 e47 => ?_)
    have u48 := CI_b c32 (k := 191) (j := 16) bd_191_16
    exact sj_X11_text_1D_J45 hfu r0 s31 c32 f34 x46 a1 (by omega) (y_V2.u o37) (by omega)
abbrev P_X11_more_1D (r0 : z_M) (a1 : Int) : z_V → z_M → Prop := fun v s' => z_CI s' ∧ z_Fr R_X11_more_1 r0 s' ∧ (y_V2 s') ∧ ((0 ≤ a1 ∧ a1 ≤ r0 1 12 ∧ s' 1 12 = 0) ∨ ((a1 < 0 ∨ r0 1 12 < a1) ∧ s' 1 12 = r0 1 12)) ∧ ((∃ x, v = vI x ∧ -2147483648 ≤ x ∧ x ≤ 2147483647) ∨ v = vX 1)
theorem nr_X9_copyFrom_19_6__3 (b : Int) : ¬ R_X9_copyFrom_19_6 3 b := by
  unfold R_X9_copyFrom_19_6; omega
theorem nr_X9_copyFrom_19_6__16 (b : Int) : ¬ R_X9_copyFrom_19_6 16 b := by
  unfold R_X9_copyFrom_19_6; omega
theorem nr_X9_copyFrom_19_6__18 (b : Int) : ¬ R_X9_copyFrom_19_6 18 b := by
  unfold R_X9_copyFrom_19_6; omega
theorem nr_X9_copyFrom_19_6__199 (b : Int) : ¬ R_X9_copyFrom_19_6 199 b := by
  unfold R_X9_copyFrom_19_6; omega
theorem nr_X9_copyFrom_19_6__201 (b : Int) : ¬ R_X9_copyFrom_19_6 201 b := by
  unfold R_X9_copyFrom_19_6; omega
theorem nr_X9_copyFrom_19_6__203 (b : Int) : ¬ R_X9_copyFrom_19_6 203 b := by
  unfold R_X9_copyFrom_19_6; omega
theorem nr_X9_copyFrom_19_6__205 (b : Int) : ¬ R_X9_copyFrom_19_6 205 b := by
  unfold R_X9_copyFrom_19_6; omega
theorem nr_X9_copyFrom_19_6__207 (b : Int) : ¬ R_X9_copyFrom_19_6 207 b := by
  unfold R_X9_copyFrom_19_6; omega
theorem nr_X9_copyFrom_19_6__209 (b : Int) : ¬ R_X9_copyFrom_19_6 209 b := by
  unfold R_X9_copyFrom_19_6; omega
theorem nr_X9_copyFrom_19_6__211 (b : Int) : ¬ R_X9_copyFrom_19_6 211 b := by
  unfold R_X9_copyFrom_19_6; omega
theorem nr_X9_copyFrom_19_6__213 (b : Int) : ¬ R_X9_copyFrom_19_6 213 b := by
  unfold R_X9_copyFrom_19_6; omega
theorem nr_X9_copyFrom_19_6__217 (b : Int) : ¬ R_X9_copyFrom_19_6 217 b := by
  unfold R_X9_copyFrom_19_6; omega
theorem nr_X9_copyFrom_19_6__219 (b : Int) : ¬ R_X9_copyFrom_19_6 219 b := by
  unfold R_X9_copyFrom_19_6; omega
theorem sj_X11_more_1D_J49 {fu : Nat} (hfu : 8589934592 ≤ fu) (r0 s : z_M) (c : z_CI s) (f : z_Fr R_X11_more_1 r0 s) (t0 : Int) (a1 : Int) (d0 : -2147483648 ≤ t0 ∧ t0 ≤ 2147483647) (p0 : y_V2 s) (p1 : 0 ≤ a1 ∧ a1 ≤ r0 1 12 ∧ s 1 12 = 0) : z_T (fX11_more_J49 fu s t0) (P_X11_more_1D r0 a1) := by
  refine T_of (fX11_more_J49.eq_1 ..) ?_
  have u1 := CI_b c (k := 1) (j := 12) bd_1_12
  have u2 := CI_b c (k := 191) (j := 16) bd_191_16
  exact T_ret ⟨c, f, p0, by omega, Or.inl (⟨t0, rfl, by omega, by omega⟩)⟩
theorem sf_X11_more_1D {fu : Nat} (hfu : 8589934592 ≤ fu) (r0 : z_M) (c0 : z_CI r0) (a1 : Int) (b1 : -2147483648 ≤ a1 ∧ a1 ≤ 2147483647) (p0 : y_V2 r0) : z_T (fX11_more fu r0 1 a1) (P_X11_more_1D r0 a1) := by
  refine T_of (fX11_more.eq_1 ..) ?_
  refine T_if1 (by decide +kernel) ?_
  refine T_leq (fun x1 e2 => ?_)
  have u3 := CI_b c0 (k := 1) (j := 12) bd_1_12
  refine T_if1 (by decide +kernel) ?_
  refine T_nwn (fun hn => ?_) (fun h4 h5 => ?_)
  · exact T_ret ⟨CI_up c0 bd_1_15 (z_wb rfl).1, z_Fr.upf (R := R_X11_more_1) z_Fr.rf (fun a b h => z_up_k h) (fun b h => z_up_j h) (Or.inr (Or.inr (Or.inr (Or.inr (Or.inr (Or.inr (Or.inr (Or.inr (Or.inr (Or.inl (⟨rfl, by decide⟩))))))))))), y_V2.fr p0 (z_up_j (by decide)) (z_up_k (by decide)) (z_up_k (by decide)) (z_up_k (by decide)) (z_up_k (by decide)) (fun _ => z_up_k (by decide)) (fun _ => z_up_k (by decide)) (fun _ => z_up_k (by decide)) (fun _ => z_up_k (by decide)) (fun _ => z_up_k (by decide)) (fun _ => z_up_k (by decide)) (fun _ => z_up_k (by decide)) (fun _ => z_up_k (by decide)) (fun _ => z_up_k (by decide)) (fun _ => z_up_k (by decide)) (fun _ => z_up_k (by decide)) (fun _ => z_up_k (by decide)) (fun _ => z_up_k (by decide)) (fun _ => z_up_k (by decide)) (fun _ => z_up_k (by decide)) (fun _ => z_up_k (by decide)) (fun _ => z_up_k (by decide)) (fun _ => z_up_k (by decide)) (fun _ => z_up_k (by decide)) (fun _ => z_up_k (by decide)), by rw [show z_up r0 1 15 _ 1 12 = r0 1 12 from z_up_j (by decide)]; omega, Or.inr rfl⟩
  refine T_if1 (by decide +kernel) ?_
  refine T_let 19 (by decide +kernel) ?_
  refine T_if1 (by decide +kernel) ?_
  refine T_let 6 (by decide +kernel) ?_
  refine T_if1 (by decide +kernel) ?_
  refine T_useN (sf_X9_copyFrom_19_6 hfu r0 c0) (fun v11 s6 hq => ?_)
  obtain ⟨c7, f8, rfl⟩ := hq
  refine T_vN ?_
  have f9 := z_Fr.tr (R := R_X11_more_1) z_Fr.rf f8 rs_X9_copyFrom_19_6__X11_more_1
  have t14 : s6 1 12 = r0 1 12 := f8 1 12 (by decide)
  have t15 : s6 191 16 = r0 191 16 := f8 191 16 (by decide)
  have r16 := y_V2.fr p0 (f8 1 16 (by decide)) (f8 191 16 (by decide)) (f8 6 6 (by decide)) (f8 191 17 (by decide)) (f8 191 18 (by decide)) (fun b => f8 3 b (nr_X9_copyFrom_19_6__3 b)) (fun b => f8 8 b (nr_X9_copyFrom_19_6__8 b)) (fun b => f8 12 b (nr_X9_copyFrom_19_6__12 b)) (fun b => f8 14 b (nr_X9_copyFrom_19_6__14 b)) (fun b => f8 16 b (nr_X9_copyFrom_19_6__16 b)) (fun b => f8 18 b (nr_X9_copyFrom_19_6__18 b)) (fun b => f8 193 b (nr_X9_copyFrom_19_6__193 b)) (fun b => f8 195 b (nr_X9_copyFrom_19_6__195 b)) (fun b => f8 197 b (nr_X9_copyFrom_19_6__197 b)) (fun b => f8 199 b (nr_X9_copyFrom_19_6__199 b)) (fun b => f8 201 b (nr_X9_copyFrom_19_6__201 b)) (fun b => f8 203 b (nr_X9_copyFrom_19_6__203 b)) (fun b => f8 205 b (nr_X9_copyFrom_19_6__205 b)) (fun b => f8 207 b (nr_X9_copyFrom_19_6__207 b)) (fun b => f8 209 b (nr_X9_copyFrom_19_6__209 b)) (fun b => f8 211 b (nr_X9_copyFrom_19_6__211 b)) (fun b => f8 213 b (nr_X9_copyFrom_19_6__213 b)) (fun b => f8 215 b (nr_X9_copyFrom_19_6__215 b)) (fun b => f8 217 b (nr_X9_copyFrom_19_6__217 b)) (fun b => f8 219 b (nr_X9_copyFrom_19_6__219 b))
  have r17 := y_B0.fr p0.1 (f8 211 0 (by decide)) (f8 213 0 (by decide))
  refine T_if1 (by decide +kernel) ?_
  refine T_useI (sf_X11_readTape_1D hfu s6 c7 a1 (by omega) r16) (fun v23 s18 hq => ?_)
  obtain ⟨c19, f20, o24, o25, ⟨x22, rfl, b26, b27⟩⟩ := hq
  refine T_vI ?_
  have f21 := z_Fr.tr (R := R_X11_more_1) f9 f20 rs_X11_readTape_1__X11_more_1
  have t28 : s18 191 16 = s6 191 16 := f20 191 16 (by decide)
  have u29 := CI_b c19 (k := 1) (j := 12) bd_1_12
  have r30 := y_B0.fr r17 (f20 211 0 (by decide)) (f20 213 0 (by decide))
  refine T_if1 (by decide +kernel) ?_
  refine T_useN (sf_X11_refresh_1D hfu s18 c19 o24) (fun v36 s31 hq => ?_)
  obtain ⟨c32, f33, o37, rfl⟩ := hq
  refine T_vN ?_
  have f34 := z_Fr.tr (R := R_X11_more_1) f21 f33 rs_X11_refresh_1__X11_more_1
  have t40 : s31 1 12 = s18 1 12 := f33 1 12 (by decide)
  have u41 := CI_b c32 (k := 191) (j := 16) bd_191_16
  refine T_ite (fun h42 => ?_) (fun h42 => ?_)
  · refine T_leq (fun x43 e44 => ?_)
    have w45 := z_wr e44
    exact sj_X11_more_1D_J49 hfu r0 s31 c32 f34 x43 a1 (by omega) (y_V2.u o37) (by omega)
  · refine T_if1 (by decide +kernel) ?_
    refine T_let 191 (by decide +kernel) ?_
    refine T_if1 (by decide +kernel) ?_
    refine T_leq (fun x46 e47 => ?_)
    have u48 := CI_b c32 (k := 191) (j := 16) bd_191_16
    exact sj_X11_more_1D_J49 hfu r0 s31 c32 f34 x46 a1 (by omega) (y_V2.u o37) (by omega)
abbrev P_X11_fault_1D (r0 : z_M) : z_V → z_M → Prop := fun v s' => z_CI s' ∧ z_Fr R_X11_fault_1 r0 s' ∧ (y_V2 s') ∧ (∃ x, v = vI x ∧ -2147483648 ≤ x ∧ x ≤ 2147483647)
theorem sf_X11_fault_1D {fu : Nat} (hfu : 8589934592 ≤ fu) (r0 : z_M) (c0 : z_CI r0) (p0 : y_V2 r0) : z_T (fX11_fault fu r0 1) (P_X11_fault_1D r0) := by
  refine T_of (fX11_fault.eq_1 ..) ?_
  refine T_if1 (by decide +kernel) ?_
  refine T_leq (fun x1 e2 => ?_)
  have u3 := CI_b c0 (k := 1) (j := 13) bd_1_13
  exact T_ret ⟨c0, z_Fr.rf, p0, ⟨x1, rfl, by omega, by omega⟩⟩
abbrev P_X11_set_1D (r0 : z_M) : z_V → z_M → Prop := fun v s' => z_CI s' ∧ z_Fr R_X11_set_1 r0 s' ∧ (y_V2 s') ∧ ((∃ x, v = vI x ∧ -2147483648 ≤ x ∧ x ≤ 2147483647) ∨ v = vX 1)
theorem sj_X11_set_1D_J79 {fu : Nat} (hfu : 8589934592 ≤ fu) (r0 s : z_M) (c : z_CI s) (f : z_Fr R_X11_set_1 r0 s) (a3 : Int) (b3 : -2147483648 ≤ a3 ∧ a3 ≤ 2147483647) (p0 : y_V2 s) : z_T (fX11_set_J79 fu s a3) (P_X11_set_1D r0) := by
  refine T_of (fX11_set_J79.eq_1 ..) ?_
  exact T_ret ⟨c, f, p0, Or.inl (⟨a3, rfl, by omega, by omega⟩)⟩
theorem sf_X11_set_1D {fu : Nat} (hfu : 8589934592 ≤ fu) (r0 : z_M) (c0 : z_CI r0) (a1 : Int) (a2 : Int) (b1 : -2147483648 ≤ a1 ∧ a1 ≤ 2147483647) (b2 : -2147483648 ≤ a2 ∧ a2 ≤ 2147483647) (p0 : y_V2 r0) : z_T (fX11_set fu r0 1 a1 a2) (P_X11_set_1D r0) := by
  refine T_of (fX11_set.eq_1 ..) ?_
  refine T_if1 (by decide) ?_
  refine T_leq (fun x1 e2 => ?_)
  have w3 := z_wr e2
  refine T_if1 (by decide +kernel) ?_
  refine T_nw ?_ (fun h4 h5 => ?_)
  · exact T_ret ⟨CI_up c0 bd_1_15 (z_wb rfl).1, z_Fr.upf (R := R_X11_set_1) z_Fr.rf (fun a b h => z_up_k h) (fun b h => z_up_j h) (Or.inr (⟨rfl, by decide⟩)), y_V2.fr p0 (z_up_j (by decide)) (z_up_k (by decide)) (z_up_k (by decide)) (z_up_k (by decide)) (z_up_k (by decide)) (fun _ => z_up_k (by decide)) (fun _ => z_up_k (by decide)) (fun _ => z_up_k (by decide)) (fun _ => z_up_k (by decide)) (fun _ => z_up_k (by decide)) (fun _ => z_up_k (by decide)) (fun _ => z_up_k (by decide)) (fun _ => z_up_k (by decide)) (fun _ => z_up_k (by decide)) (fun _ => z_up_k (by decide)) (fun _ => z_up_k (by decide)) (fun _ => z_up_k (by decide)) (fun _ => z_up_k (by decide)) (fun _ => z_up_k (by decide)) (fun _ => z_up_k (by decide)) (fun _ => z_up_k (by decide)) (fun _ => z_up_k (by decide)) (fun _ => z_up_k (by decide)) (fun _ => z_up_k (by decide)) (fun _ => z_up_k (by decide)), Or.inr rfl⟩
  refine T_pick (by decide) (fun x6 e7 b8 => ?_)
  refine T_pick (by decide) (fun x9 e10 b11 => ?_)
  refine T_if1 (by decide +kernel) ?_
  refine T_nw ?_ (fun h12 h13 => ?_)
  · exact T_ret ⟨CI_up c0 bd_1_15 (z_wb rfl).1, z_Fr.upf (R := R_X11_set_1) z_Fr.rf (fun a b h => z_up_k h) (fun b h => z_up_j h) (Or.inr (⟨rfl, by decide⟩)), y_V2.fr p0 (z_up_j (by decide)) (z_up_k (by decide)) (z_up_k (by decide)) (z_up_k (by decide)) (z_up_k (by decide)) (fun _ => z_up_k (by decide)) (fun _ => z_up_k (by decide)) (fun _ => z_up_k (by decide)) (fun _ => z_up_k (by decide)) (fun _ => z_up_k (by decide)) (fun _ => z_up_k (by decide)) (fun _ => z_up_k (by decide)) (fun _ => z_up_k (by decide)) (fun _ => z_up_k (by decide)) (fun _ => z_up_k (by decide)) (fun _ => z_up_k (by decide)) (fun _ => z_up_k (by decide)) (fun _ => z_up_k (by decide)) (fun _ => z_up_k (by decide)) (fun _ => z_up_k (by decide)) (fun _ => z_up_k (by decide)) (fun _ => z_up_k (by decide)) (fun _ => z_up_k (by decide)) (fun _ => z_up_k (by decide)) (fun _ => z_up_k (by decide)), Or.inr rfl⟩
  refine T_if1 (by decide +kernel) ?_
  refine T_let 2 (by decide +kernel) ?_
  refine T_if1 (by decide +kernel) ?_
  refine T_get (by decide +kernel) (c := 3) (by decide +kernel) bdr_3 (by decide) c0 (fun x14 e15 b16 w17 => ?_)
  have l18 : z_ln 2 = 9 := by decide +kernel
  refine T_if1 (by decide +kernel) ?_
  refine T_let 2 (by decide +kernel) ?_
  refine T_if1 (by decide +kernel) ?_
  refine T_put (by decide +kernel) (c := 3) (by decide +kernel) bdr_3 (by omega) c0 (fun s19 e22 c20 g23 => ?_)
  have f21 := z_Fr.up (R := R_X11_set_1) z_Fr.rf g23 (fun _ => (Or.inl (⟨by decide, by decide⟩)))
  have r24 := y_B0.fr p0.1 (g23 211 0 (by decide)) (g23 213 0 (by decide))
  refine T_if1 ⟨(by decide +kernel), by unfold z_bl; omega⟩ ?_
  refine T_upg c20 bd_1_17 (by omega) (fun s25 c26 g28 g29 e30 => ?_)
  have f27 := z_Fr.upf (R := R_X11_set_1) f21 g28 g29 (Or.inr (⟨rfl, by decide⟩))
  have r31 := y_B0.fr r24 (g28 211 0 (by decide)) (g28 213 0 (by decide))
  refine T_ite (fun h32 => ?_) (fun h32 => ?_)
  · exact sj_X11_set_1D_J79 hfu r0 s25 c26 f27 x14 (by omega) (y_V2.st p0 (by omega) e22 g23 g28 g29)
  · refine T_ite (fun h33 => ?_) (fun h33 => ?_)
    · exact sj_X11_set_1D_J79 hfu r0 s25 c26 f27 x14 (by omega) (y_V2.st p0 (by omega) e22 g23 g28 g29)
    · refine T_ite (fun h34 => ?_) (fun h34 => ?_)
      · exact sj_X11_set_1D_J79 hfu r0 s25 c26 f27 x14 (by omega) (y_V2.st p0 (by omega) e22 g23 g28 g29)
      · refine T_ite (fun h35 => ?_) (fun h35 => ?_)
        · exact sj_X11_set_1D_J79 hfu r0 s25 c26 f27 x14 (by omega) (y_V2.st p0 (by omega) e22 g23 g28 g29)
        · refine T_if1 ⟨(by decide +kernel), by unfold z_bl; omega⟩ ?_
          refine T_upg c26 bd_1_16 (by omega) (fun s36 c37 g39 g40 e41 => ?_)
          have f38 := z_Fr.upf (R := R_X11_set_1) f27 g39 g40 (Or.inr (⟨rfl, by decide⟩))
          have r42 := y_B0.fr r31 (g39 211 0 (by decide)) (g39 213 0 (by decide))
          exact sj_X11_set_1D_J79 hfu r0 s36 c37 f38 x14 (by omega) ⟨r42, Or.inl (by omega)⟩
abbrev P_X11_undo_1D (r0 : z_M) : z_V → z_M → Prop := fun v s' => z_CI s' ∧ z_Fr R_X11_undo_1 r0 s' ∧ (y_V2 s') ∧ (∃ x, v = vI x ∧ -2147483648 ≤ x ∧ x ≤ 2147483647)
theorem nr_X9_copyFrom_6_35__3 (b : Int) : ¬ R_X9_copyFrom_6_35 3 b := by
  unfold R_X9_copyFrom_6_35; omega
theorem nr_X9_copyFrom_6_35__199 (b : Int) : ¬ R_X9_copyFrom_6_35 199 b := by
  unfold R_X9_copyFrom_6_35; omega
theorem nr_X9_copyFrom_6_35__201 (b : Int) : ¬ R_X9_copyFrom_6_35 201 b := by
  unfold R_X9_copyFrom_6_35; omega
theorem nr_X9_copyFrom_6_35__203 (b : Int) : ¬ R_X9_copyFrom_6_35 203 b := by
  unfold R_X9_copyFrom_6_35; omega
theorem nr_X9_copyFrom_6_35__205 (b : Int) : ¬ R_X9_copyFrom_6_35 205 b := by
  unfold R_X9_copyFrom_6_35; omega
theorem nr_X9_copyFrom_6_35__207 (b : Int) : ¬ R_X9_copyFrom_6_35 207 b := by
  unfold R_X9_copyFrom_6_35; omega
theorem nr_X9_copyFrom_6_35__209 (b : Int) : ¬ R_X9_copyFrom_6_35 209 b := by
  unfold R_X9_copyFrom_6_35; omega
theorem nr_X9_copyFrom_6_35__211 (b : Int) : ¬ R_X9_copyFrom_6_35 211 b := by
  unfold R_X9_copyFrom_6_35; omega
theorem nr_X9_copyFrom_6_35__213 (b : Int) : ¬ R_X9_copyFrom_6_35 213 b := by
  unfold R_X9_copyFrom_6_35; omega
theorem nr_X9_copyFrom_6_35__217 (b : Int) : ¬ R_X9_copyFrom_6_35 217 b := by
  unfold R_X9_copyFrom_6_35; omega
theorem nr_X9_copyFrom_6_35__219 (b : Int) : ¬ R_X9_copyFrom_6_35 219 b := by
  unfold R_X9_copyFrom_6_35; omega
theorem nr_X9_copyFrom_6_48__3 (b : Int) : ¬ R_X9_copyFrom_6_48 3 b := by
  unfold R_X9_copyFrom_6_48; omega
theorem nr_X9_copyFrom_6_48__199 (b : Int) : ¬ R_X9_copyFrom_6_48 199 b := by
  unfold R_X9_copyFrom_6_48; omega
theorem nr_X9_copyFrom_6_48__201 (b : Int) : ¬ R_X9_copyFrom_6_48 201 b := by
  unfold R_X9_copyFrom_6_48; omega
theorem nr_X9_copyFrom_6_48__203 (b : Int) : ¬ R_X9_copyFrom_6_48 203 b := by
  unfold R_X9_copyFrom_6_48; omega
theorem nr_X9_copyFrom_6_48__205 (b : Int) : ¬ R_X9_copyFrom_6_48 205 b := by
  unfold R_X9_copyFrom_6_48; omega
theorem nr_X9_copyFrom_6_48__207 (b : Int) : ¬ R_X9_copyFrom_6_48 207 b := by
  unfold R_X9_copyFrom_6_48; omega
theorem nr_X9_copyFrom_6_48__209 (b : Int) : ¬ R_X9_copyFrom_6_48 209 b := by
  unfold R_X9_copyFrom_6_48; omega
theorem nr_X9_copyFrom_6_48__211 (b : Int) : ¬ R_X9_copyFrom_6_48 211 b := by
  unfold R_X9_copyFrom_6_48; omega
theorem nr_X9_copyFrom_6_48__213 (b : Int) : ¬ R_X9_copyFrom_6_48 213 b := by
  unfold R_X9_copyFrom_6_48; omega
theorem nr_X9_copyFrom_6_48__217 (b : Int) : ¬ R_X9_copyFrom_6_48 217 b := by
  unfold R_X9_copyFrom_6_48; omega
theorem nr_X9_copyFrom_6_48__219 (b : Int) : ¬ R_X9_copyFrom_6_48 219 b := by
  unfold R_X9_copyFrom_6_48; omega
theorem nr_X9_copyFrom_6_61__3 (b : Int) : ¬ R_X9_copyFrom_6_61 3 b := by
  unfold R_X9_copyFrom_6_61; omega
theorem nr_X9_copyFrom_6_61__199 (b : Int) : ¬ R_X9_copyFrom_6_61 199 b := by
  unfold R_X9_copyFrom_6_61; omega
theorem nr_X9_copyFrom_6_61__201 (b : Int) : ¬ R_X9_copyFrom_6_61 201 b := by
  unfold R_X9_copyFrom_6_61; omega
theorem nr_X9_copyFrom_6_61__203 (b : Int) : ¬ R_X9_copyFrom_6_61 203 b := by
  unfold R_X9_copyFrom_6_61; omega
theorem nr_X9_copyFrom_6_61__205 (b : Int) : ¬ R_X9_copyFrom_6_61 205 b := by
  unfold R_X9_copyFrom_6_61; omega
theorem nr_X9_copyFrom_6_61__207 (b : Int) : ¬ R_X9_copyFrom_6_61 207 b := by
  unfold R_X9_copyFrom_6_61; omega
theorem nr_X9_copyFrom_6_61__209 (b : Int) : ¬ R_X9_copyFrom_6_61 209 b := by
  unfold R_X9_copyFrom_6_61; omega
theorem nr_X9_copyFrom_6_61__211 (b : Int) : ¬ R_X9_copyFrom_6_61 211 b := by
  unfold R_X9_copyFrom_6_61; omega
theorem nr_X9_copyFrom_6_61__213 (b : Int) : ¬ R_X9_copyFrom_6_61 213 b := by
  unfold R_X9_copyFrom_6_61; omega
theorem nr_X9_copyFrom_6_61__217 (b : Int) : ¬ R_X9_copyFrom_6_61 217 b := by
  unfold R_X9_copyFrom_6_61; omega
theorem nr_X9_copyFrom_6_61__219 (b : Int) : ¬ R_X9_copyFrom_6_61 219 b := by
  unfold R_X9_copyFrom_6_61; omega
theorem nr_X9_copyFrom_6_74__3 (b : Int) : ¬ R_X9_copyFrom_6_74 3 b := by
  unfold R_X9_copyFrom_6_74; omega
theorem nr_X9_copyFrom_6_74__199 (b : Int) : ¬ R_X9_copyFrom_6_74 199 b := by
  unfold R_X9_copyFrom_6_74; omega
theorem nr_X9_copyFrom_6_74__201 (b : Int) : ¬ R_X9_copyFrom_6_74 201 b := by
  unfold R_X9_copyFrom_6_74; omega
theorem nr_X9_copyFrom_6_74__203 (b : Int) : ¬ R_X9_copyFrom_6_74 203 b := by
  unfold R_X9_copyFrom_6_74; omega
theorem nr_X9_copyFrom_6_74__205 (b : Int) : ¬ R_X9_copyFrom_6_74 205 b := by
  unfold R_X9_copyFrom_6_74; omega
theorem nr_X9_copyFrom_6_74__207 (b : Int) : ¬ R_X9_copyFrom_6_74 207 b := by
  unfold R_X9_copyFrom_6_74; omega
theorem nr_X9_copyFrom_6_74__209 (b : Int) : ¬ R_X9_copyFrom_6_74 209 b := by
  unfold R_X9_copyFrom_6_74; omega
theorem nr_X9_copyFrom_6_74__211 (b : Int) : ¬ R_X9_copyFrom_6_74 211 b := by
  unfold R_X9_copyFrom_6_74; omega
theorem nr_X9_copyFrom_6_74__213 (b : Int) : ¬ R_X9_copyFrom_6_74 213 b := by
  unfold R_X9_copyFrom_6_74; omega
theorem nr_X9_copyFrom_6_74__217 (b : Int) : ¬ R_X9_copyFrom_6_74 217 b := by
  unfold R_X9_copyFrom_6_74; omega
theorem nr_X9_copyFrom_6_74__219 (b : Int) : ¬ R_X9_copyFrom_6_74 219 b := by
  unfold R_X9_copyFrom_6_74; omega
theorem nr_X9_copyFrom_6_87__3 (b : Int) : ¬ R_X9_copyFrom_6_87 3 b := by
  unfold R_X9_copyFrom_6_87; omega
theorem nr_X9_copyFrom_6_87__199 (b : Int) : ¬ R_X9_copyFrom_6_87 199 b := by
  unfold R_X9_copyFrom_6_87; omega
theorem nr_X9_copyFrom_6_87__201 (b : Int) : ¬ R_X9_copyFrom_6_87 201 b := by
  unfold R_X9_copyFrom_6_87; omega
theorem nr_X9_copyFrom_6_87__203 (b : Int) : ¬ R_X9_copyFrom_6_87 203 b := by
  unfold R_X9_copyFrom_6_87; omega
theorem nr_X9_copyFrom_6_87__205 (b : Int) : ¬ R_X9_copyFrom_6_87 205 b := by
  unfold R_X9_copyFrom_6_87; omega
theorem nr_X9_copyFrom_6_87__207 (b : Int) : ¬ R_X9_copyFrom_6_87 207 b := by
  unfold R_X9_copyFrom_6_87; omega
theorem nr_X9_copyFrom_6_87__209 (b : Int) : ¬ R_X9_copyFrom_6_87 209 b := by
  unfold R_X9_copyFrom_6_87; omega
theorem nr_X9_copyFrom_6_87__211 (b : Int) : ¬ R_X9_copyFrom_6_87 211 b := by
  unfold R_X9_copyFrom_6_87; omega
theorem nr_X9_copyFrom_6_87__213 (b : Int) : ¬ R_X9_copyFrom_6_87 213 b := by
  unfold R_X9_copyFrom_6_87; omega
theorem nr_X9_copyFrom_6_87__217 (b : Int) : ¬ R_X9_copyFrom_6_87 217 b := by
  unfold R_X9_copyFrom_6_87; omega
theorem nr_X9_copyFrom_6_87__219 (b : Int) : ¬ R_X9_copyFrom_6_87 219 b := by
  unfold R_X9_copyFrom_6_87; omega
theorem nr_X9_copyFrom_6_100__3 (b : Int) : ¬ R_X9_copyFrom_6_100 3 b := by
  unfold R_X9_copyFrom_6_100; omega
theorem nr_X9_copyFrom_6_100__199 (b : Int) : ¬ R_X9_copyFrom_6_100 199 b := by
  unfold R_X9_copyFrom_6_100; omega
theorem nr_X9_copyFrom_6_100__201 (b : Int) : ¬ R_X9_copyFrom_6_100 201 b := by
  unfold R_X9_copyFrom_6_100; omega
theorem nr_X9_copyFrom_6_100__203 (b : Int) : ¬ R_X9_copyFrom_6_100 203 b := by
  unfold R_X9_copyFrom_6_100; omega
theorem nr_X9_copyFrom_6_100__205 (b : Int) : ¬ R_X9_copyFrom_6_100 205 b := by
  unfold R_X9_copyFrom_6_100; omega
theorem nr_X9_copyFrom_6_100__207 (b : Int) : ¬ R_X9_copyFrom_6_100 207 b := by
  unfold R_X9_copyFrom_6_100; omega
theorem nr_X9_copyFrom_6_100__209 (b : Int) : ¬ R_X9_copyFrom_6_100 209 b := by
  unfold R_X9_copyFrom_6_100; omega
theorem nr_X9_copyFrom_6_100__211 (b : Int) : ¬ R_X9_copyFrom_6_100 211 b := by
  unfold R_X9_copyFrom_6_100; omega
theorem nr_X9_copyFrom_6_100__213 (b : Int) : ¬ R_X9_copyFrom_6_100 213 b := by
  unfold R_X9_copyFrom_6_100; omega
theorem nr_X9_copyFrom_6_100__217 (b : Int) : ¬ R_X9_copyFrom_6_100 217 b := by
  unfold R_X9_copyFrom_6_100; omega
theorem nr_X9_copyFrom_6_100__219 (b : Int) : ¬ R_X9_copyFrom_6_100 219 b := by
  unfold R_X9_copyFrom_6_100; omega
theorem nr_X9_copyFrom_6_113__3 (b : Int) : ¬ R_X9_copyFrom_6_113 3 b := by
  unfold R_X9_copyFrom_6_113; omega
theorem nr_X9_copyFrom_6_113__199 (b : Int) : ¬ R_X9_copyFrom_6_113 199 b := by
  unfold R_X9_copyFrom_6_113; omega
theorem nr_X9_copyFrom_6_113__201 (b : Int) : ¬ R_X9_copyFrom_6_113 201 b := by
  unfold R_X9_copyFrom_6_113; omega
theorem nr_X9_copyFrom_6_113__203 (b : Int) : ¬ R_X9_copyFrom_6_113 203 b := by
  unfold R_X9_copyFrom_6_113; omega
theorem nr_X9_copyFrom_6_113__205 (b : Int) : ¬ R_X9_copyFrom_6_113 205 b := by
  unfold R_X9_copyFrom_6_113; omega
theorem nr_X9_copyFrom_6_113__207 (b : Int) : ¬ R_X9_copyFrom_6_113 207 b := by
  unfold R_X9_copyFrom_6_113; omega
theorem nr_X9_copyFrom_6_113__209 (b : Int) : ¬ R_X9_copyFrom_6_113 209 b := by
  unfold R_X9_copyFrom_6_113; omega
theorem nr_X9_copyFrom_6_113__211 (b : Int) : ¬ R_X9_copyFrom_6_113 211 b := by
  unfold R_X9_copyFrom_6_113; omega
theorem nr_X9_copyFrom_6_113__213 (b : Int) : ¬ R_X9_copyFrom_6_113 213 b := by
  unfold R_X9_copyFrom_6_113; omega
theorem nr_X9_copyFrom_6_113__217 (b : Int) : ¬ R_X9_copyFrom_6_113 217 b := by
  unfold R_X9_copyFrom_6_113; omega
theorem nr_X9_copyFrom_6_113__219 (b : Int) : ¬ R_X9_copyFrom_6_113 219 b := by
  unfold R_X9_copyFrom_6_113; omega
theorem nr_X9_copyFrom_6_126__3 (b : Int) : ¬ R_X9_copyFrom_6_126 3 b := by
  unfold R_X9_copyFrom_6_126; omega
theorem nr_X9_copyFrom_6_126__199 (b : Int) : ¬ R_X9_copyFrom_6_126 199 b := by
  unfold R_X9_copyFrom_6_126; omega
theorem nr_X9_copyFrom_6_126__201 (b : Int) : ¬ R_X9_copyFrom_6_126 201 b := by
  unfold R_X9_copyFrom_6_126; omega
theorem nr_X9_copyFrom_6_126__203 (b : Int) : ¬ R_X9_copyFrom_6_126 203 b := by
  unfold R_X9_copyFrom_6_126; omega
theorem nr_X9_copyFrom_6_126__205 (b : Int) : ¬ R_X9_copyFrom_6_126 205 b := by
  unfold R_X9_copyFrom_6_126; omega
theorem nr_X9_copyFrom_6_126__207 (b : Int) : ¬ R_X9_copyFrom_6_126 207 b := by
  unfold R_X9_copyFrom_6_126; omega
theorem nr_X9_copyFrom_6_126__209 (b : Int) : ¬ R_X9_copyFrom_6_126 209 b := by
  unfold R_X9_copyFrom_6_126; omega
theorem nr_X9_copyFrom_6_126__211 (b : Int) : ¬ R_X9_copyFrom_6_126 211 b := by
  unfold R_X9_copyFrom_6_126; omega
theorem nr_X9_copyFrom_6_126__213 (b : Int) : ¬ R_X9_copyFrom_6_126 213 b := by
  unfold R_X9_copyFrom_6_126; omega
theorem nr_X9_copyFrom_6_126__217 (b : Int) : ¬ R_X9_copyFrom_6_126 217 b := by
  unfold R_X9_copyFrom_6_126; omega
theorem nr_X9_copyFrom_6_126__219 (b : Int) : ¬ R_X9_copyFrom_6_126 219 b := by
  unfold R_X9_copyFrom_6_126; omega
theorem nr_X9_copyFrom_6_139__3 (b : Int) : ¬ R_X9_copyFrom_6_139 3 b := by
  unfold R_X9_copyFrom_6_139; omega
theorem nr_X9_copyFrom_6_139__199 (b : Int) : ¬ R_X9_copyFrom_6_139 199 b := by
  unfold R_X9_copyFrom_6_139; omega
theorem nr_X9_copyFrom_6_139__201 (b : Int) : ¬ R_X9_copyFrom_6_139 201 b := by
  unfold R_X9_copyFrom_6_139; omega
theorem nr_X9_copyFrom_6_139__203 (b : Int) : ¬ R_X9_copyFrom_6_139 203 b := by
  unfold R_X9_copyFrom_6_139; omega
theorem nr_X9_copyFrom_6_139__205 (b : Int) : ¬ R_X9_copyFrom_6_139 205 b := by
  unfold R_X9_copyFrom_6_139; omega
theorem nr_X9_copyFrom_6_139__207 (b : Int) : ¬ R_X9_copyFrom_6_139 207 b := by
  unfold R_X9_copyFrom_6_139; omega
theorem nr_X9_copyFrom_6_139__209 (b : Int) : ¬ R_X9_copyFrom_6_139 209 b := by
  unfold R_X9_copyFrom_6_139; omega
theorem nr_X9_copyFrom_6_139__211 (b : Int) : ¬ R_X9_copyFrom_6_139 211 b := by
  unfold R_X9_copyFrom_6_139; omega
theorem nr_X9_copyFrom_6_139__213 (b : Int) : ¬ R_X9_copyFrom_6_139 213 b := by
  unfold R_X9_copyFrom_6_139; omega
theorem nr_X9_copyFrom_6_139__217 (b : Int) : ¬ R_X9_copyFrom_6_139 217 b := by
  unfold R_X9_copyFrom_6_139; omega
theorem nr_X9_copyFrom_6_139__219 (b : Int) : ¬ R_X9_copyFrom_6_139 219 b := by
  unfold R_X9_copyFrom_6_139; omega
theorem nr_X9_copyFrom_6_152__3 (b : Int) : ¬ R_X9_copyFrom_6_152 3 b := by
  unfold R_X9_copyFrom_6_152; omega
theorem nr_X9_copyFrom_6_152__199 (b : Int) : ¬ R_X9_copyFrom_6_152 199 b := by
  unfold R_X9_copyFrom_6_152; omega
theorem nr_X9_copyFrom_6_152__201 (b : Int) : ¬ R_X9_copyFrom_6_152 201 b := by
  unfold R_X9_copyFrom_6_152; omega
theorem nr_X9_copyFrom_6_152__203 (b : Int) : ¬ R_X9_copyFrom_6_152 203 b := by
  unfold R_X9_copyFrom_6_152; omega
theorem nr_X9_copyFrom_6_152__205 (b : Int) : ¬ R_X9_copyFrom_6_152 205 b := by
  unfold R_X9_copyFrom_6_152; omega
theorem nr_X9_copyFrom_6_152__207 (b : Int) : ¬ R_X9_copyFrom_6_152 207 b := by
  unfold R_X9_copyFrom_6_152; omega
theorem nr_X9_copyFrom_6_152__209 (b : Int) : ¬ R_X9_copyFrom_6_152 209 b := by
  unfold R_X9_copyFrom_6_152; omega
theorem nr_X9_copyFrom_6_152__211 (b : Int) : ¬ R_X9_copyFrom_6_152 211 b := by
  unfold R_X9_copyFrom_6_152; omega
theorem nr_X9_copyFrom_6_152__213 (b : Int) : ¬ R_X9_copyFrom_6_152 213 b := by
  unfold R_X9_copyFrom_6_152; omega
theorem nr_X9_copyFrom_6_152__217 (b : Int) : ¬ R_X9_copyFrom_6_152 217 b := by
  unfold R_X9_copyFrom_6_152; omega
theorem nr_X9_copyFrom_6_152__219 (b : Int) : ¬ R_X9_copyFrom_6_152 219 b := by
  unfold R_X9_copyFrom_6_152; omega
theorem nr_X9_copyFrom_6_165__3 (b : Int) : ¬ R_X9_copyFrom_6_165 3 b := by
  unfold R_X9_copyFrom_6_165; omega
theorem nr_X9_copyFrom_6_165__199 (b : Int) : ¬ R_X9_copyFrom_6_165 199 b := by
  unfold R_X9_copyFrom_6_165; omega
theorem nr_X9_copyFrom_6_165__201 (b : Int) : ¬ R_X9_copyFrom_6_165 201 b := by
  unfold R_X9_copyFrom_6_165; omega
theorem nr_X9_copyFrom_6_165__203 (b : Int) : ¬ R_X9_copyFrom_6_165 203 b := by
  unfold R_X9_copyFrom_6_165; omega
theorem nr_X9_copyFrom_6_165__205 (b : Int) : ¬ R_X9_copyFrom_6_165 205 b := by
  unfold R_X9_copyFrom_6_165; omega
theorem nr_X9_copyFrom_6_165__207 (b : Int) : ¬ R_X9_copyFrom_6_165 207 b := by
  unfold R_X9_copyFrom_6_165; omega
theorem nr_X9_copyFrom_6_165__209 (b : Int) : ¬ R_X9_copyFrom_6_165 209 b := by
  unfold R_X9_copyFrom_6_165; omega
theorem nr_X9_copyFrom_6_165__211 (b : Int) : ¬ R_X9_copyFrom_6_165 211 b := by
  unfold R_X9_copyFrom_6_165; omega
theorem nr_X9_copyFrom_6_165__213 (b : Int) : ¬ R_X9_copyFrom_6_165 213 b := by
  unfold R_X9_copyFrom_6_165; omega
theorem nr_X9_copyFrom_6_165__217 (b : Int) : ¬ R_X9_copyFrom_6_165 217 b := by
  unfold R_X9_copyFrom_6_165; omega
theorem nr_X9_copyFrom_6_165__219 (b : Int) : ¬ R_X9_copyFrom_6_165 219 b := by
  unfold R_X9_copyFrom_6_165; omega
theorem nr_X9_copyFrom_6_178__3 (b : Int) : ¬ R_X9_copyFrom_6_178 3 b := by
  unfold R_X9_copyFrom_6_178; omega
theorem nr_X9_copyFrom_6_178__199 (b : Int) : ¬ R_X9_copyFrom_6_178 199 b := by
  unfold R_X9_copyFrom_6_178; omega
theorem nr_X9_copyFrom_6_178__201 (b : Int) : ¬ R_X9_copyFrom_6_178 201 b := by
  unfold R_X9_copyFrom_6_178; omega
theorem nr_X9_copyFrom_6_178__203 (b : Int) : ¬ R_X9_copyFrom_6_178 203 b := by
  unfold R_X9_copyFrom_6_178; omega
theorem nr_X9_copyFrom_6_178__205 (b : Int) : ¬ R_X9_copyFrom_6_178 205 b := by
  unfold R_X9_copyFrom_6_178; omega
theorem nr_X9_copyFrom_6_178__207 (b : Int) : ¬ R_X9_copyFrom_6_178 207 b := by
  unfold R_X9_copyFrom_6_178; omega
theorem nr_X9_copyFrom_6_178__209 (b : Int) : ¬ R_X9_copyFrom_6_178 209 b := by
  unfold R_X9_copyFrom_6_178; omega
theorem nr_X9_copyFrom_6_178__211 (b : Int) : ¬ R_X9_copyFrom_6_178 211 b := by
  unfold R_X9_copyFrom_6_178; omega
theorem nr_X9_copyFrom_6_178__213 (b : Int) : ¬ R_X9_copyFrom_6_178 213 b := by
  unfold R_X9_copyFrom_6_178; omega
theorem nr_X9_copyFrom_6_178__217 (b : Int) : ¬ R_X9_copyFrom_6_178 217 b := by
  unfold R_X9_copyFrom_6_178; omega
theorem nr_X9_copyFrom_6_178__219 (b : Int) : ¬ R_X9_copyFrom_6_178 219 b := by
  unfold R_X9_copyFrom_6_178; omega
set_option maxHeartbeats 4000000 in
theorem sf_X11_undo_1D {fu : Nat} (hfu : 8589934592 ≤ fu) (r0 : z_M) (c0 : z_CI r0) (p0 : y_V2 r0) : z_T (fX11_undo fu r0 1) (P_X11_undo_1D r0) := by
  refine T_of (fX11_undo.eq_1 ..) ?_
  refine T_if1 (by decide +kernel) ?_
  refine T_let 33 (by decide +kernel) ?_
  refine T_if1 (by decide +kernel) ?_
  refine T_let 6 (by decide +kernel) ?_
  refine T_if1 (by decide +kernel) ?_
  refine T_bI ?_
  refine T_of (fX2_takeBack.eq_1 ..) ?_
  refine T_if1 (by decide +kernel) ?_
  refine T_leq (fun x1 e2 => ?_)
  have u3 := CI_b c0 (k := 33) (j := 2) bd_33_2
  refine T_ite (fun h4 => ?_) (fun h4 => ?_)
  · refine T_if1 (by decide +kernel) ?_
    refine T_leq (fun x5 e6 => ?_)
    have u7 := CI_b c0 (k := 33) (j := 2) bd_33_2
    refine T_leq (fun x8 e9 => ?_)
    have w10 := z_wb e9
    refine T_if1 (by decide +kernel) ?_
    refine T_upg c0 bd_33_2 (by omega) (fun s11 c12 g14 g15 e16 => ?_)
    have f13 := z_Fr.upf (R := R_X11_undo_1) z_Fr.rf g14 g15 (Or.inr (Or.inl (⟨by decide, by decide⟩)))
    have t17 : s11 33 1 = r0 33 1 := g15 1 (by decide)
    have t18 : s11 191 16 = r0 191 16 := g14 191 16 (by decide)
    have r19 := y_V2.fr p0 (g14 1 16 (by decide)) (g14 191 16 (by decide)) (g14 6 6 (by decide)) (g14 191 17 (by decide)) (g14 191 18 (by decide)) (fun b => g14 3 b (by decide)) (fun b => g14 8 b (by decide)) (fun b => g14 12 b (by decide)) (fun b => g14 14 b (by decide)) (fun b => g14 16 b (by decide)) (fun b => g14 18 b (by decide)) (fun b => g14 193 b (by decide)) (fun b => g14 195 b (by decide)) (fun b => g14 197 b (by decide)) (fun b => g14 199 b (by decide)) (fun b => g14 201 b (by decide)) (fun b => g14 203 b (by decide)) (fun b => g14 205 b (by decide)) (fun b => g14 207 b (by decide)) (fun b => g14 209 b (by decide)) (fun b => g14 211 b (by decide)) (fun b => g14 213 b (by decide)) (fun b => g14 215 b (by decide)) (fun b => g14 217 b (by decide)) (fun b => g14 219 b (by decide))
    have r20 := y_B0.fr p0.1 (g14 211 0 (by decide)) (g14 213 0 (by decide))
    refine T_if1 (by decide +kernel) ?_
    refine T_leq (fun x21 e22 => ?_)
    have u23 := CI_b c12 (k := 33) (j := 1) bd_33_1
    refine T_ite (fun h24 => ?_) (fun h24 => ?_)
    · refine T_of (fX2_takeBack_J38.eq_1 ..) ?_
      refine T_if1 (by decide +kernel) ?_
      refine T_upg c12 bd_33_1 (by omega) (fun s25 c26 g28 g29 e30 => ?_)
      have f27 := z_Fr.upf (R := R_X11_undo_1) f13 g28 g29 (Or.inr (Or.inl (⟨by decide, by decide⟩)))
      have t31 : s25 33 2 = s11 33 2 := g29 2 (by decide)
      have t32 : s25 191 16 = s11 191 16 := g28 191 16 (by decide)
      have r33 := y_V2.fr r19 (g28 1 16 (by decide)) (g28 191 16 (by decide)) (g28 6 6 (by decide)) (g28 191 17 (by decide)) (g28 191 18 (by decide)) (fun b => g28 3 b (by decide)) (fun b => g28 8 b (by decide)) (fun b => g28 12 b (by decide)) (fun b => g28 14 b (by decide)) (fun b => g28 16 b (by decide)) (fun b => g28 18 b (by decide)) (fun b => g28 193 b (by decide)) (fun b => g28 195 b (by decide)) (fun b => g28 197 b (by decide)) (fun b => g28 199 b (by decide)) (fun b => g28 201 b (by decide)) (fun b => g28 203 b (by decide)) (fun b => g28 205 b (by decide)) (fun b => g28 207 b (by decide)) (fun b => g28 209 b (by decide)) (fun b => g28 211 b (by decide)) (fun b => g28 213 b (by decide)) (fun b => g28 215 b (by decide)) (fun b => g28 217 b (by decide)) (fun b => g28 219 b (by decide))
      have r34 := y_B0.fr r20 (g28 211 0 (by decide)) (g28 213 0 (by decide))
      refine T_if1 (by decide +kernel) ?_
      refine T_bR ?_
      refine T_of (fX2_place.eq_1 ..) ?_
      refine T_if1 (by decide +kernel) ?_
      refine T_leq (fun x35 e36 => ?_)
      have u37 := CI_b c26 (k := 33) (j := 1) bd_33_1
      refine T_ite (fun h38 => ?_) (fun h38 => ?_)
      · refine T_of (fX2_place_J31.eq_1 ..) ?_
        exfalso
        omega
      · refine T_if1 (by decide +kernel) ?_
        refine T_leq (fun x39 e40 => ?_)
        have u41 := CI_b c26 (k := 33) (j := 1) bd_33_1
        refine T_if1 (by decide +kernel) ?_
        refine T_let 34 (by decide +kernel) ?_
        refine T_if1 (by decide +kernel) ?_
        refine T_let 12 (by decide +kernel) ?_
        refine T_ite (fun h42 => ?_) (fun h42 => ?_)
        · refine T_of (fX2_place_J31.eq_1 ..) ?_
          exfalso
          omega
        · refine T_if1 (by decide +kernel) ?_
          refine T_let 34 (by decide +kernel) ?_
          refine T_if1 (by decide +kernel) ?_
          refine T_leq (fun x43 e44 => ?_)
          have u45 := CI_b c26 (k := 33) (j := 1) bd_33_1
          rcases (show x43 = 0 ∨ x43 = 1 ∨ x43 = 2 ∨ x43 = 3 ∨ x43 = 4 ∨ x43 = 5 ∨ x43 = 6 ∨ x43 = 7 ∨ x43 = 8 ∨ x43 = 9 ∨ x43 = 10 ∨ x43 = 11 by omega) with rfl | rfl | rfl | rfl | rfl | rfl | rfl | rfl | rfl | rfl | rfl | rfl
          · refine T_if1 (by decide +kernel) ?_
            refine T_let 35 (by decide +kernel) ?_
            refine T_of (fX2_place_J32.eq_1 ..) ?_
            refine T_rR ?_
            refine T_if1 (by decide) ?_
            refine T_if1 (by decide +kernel) ?_
            refine T_useN (sf_X9_copyFrom_6_35 hfu s25 c26) (fun v52 s47 hq => ?_)
            obtain ⟨c48, f49, rfl⟩ := hq
            refine T_vN ?_
            have f50 := z_Fr.tr (R := R_X11_undo_1) f27 f49 rs_X9_copyFrom_6_35__X11_undo_1
            have t55 : s47 33 1 = s25 33 1 := f49 33 1 (by decide)
            have t56 : s47 33 2 = s25 33 2 := f49 33 2 (by decide)
            have t57 : s47 191 16 = s25 191 16 := f49 191 16 (by decide)
            have r58 := y_B0.fr r34 (f49 211 0 (by decide)) (f49 213 0 (by decide))
            refine T_if1 (by unfold z_bl; omega) ?_
            refine T_rI ?_
            refine T_ite (fun h59 => ?_) (fun h59 => ?_)
            · refine T_if1 ⟨(by decide +kernel), by unfold z_bl; omega⟩ ?_
              refine T_upg c48 bd_1_16 (by omega) (fun s60 c61 g63 g64 e65 => ?_)
              have f62 := z_Fr.upf (R := R_X11_undo_1) f50 g63 g64 (Or.inr (Or.inr (Or.inr (Or.inr (Or.inr (Or.inr (Or.inr (Or.inr (Or.inr (Or.inl (⟨rfl, by decide⟩)))))))))))
              have t66 : s60 33 1 = s47 33 1 := g63 33 1 (by decide)
              have t67 : s60 33 2 = s47 33 2 := g63 33 2 (by decide)
              have t68 : s60 191 16 = s47 191 16 := g63 191 16 (by decide)
              have r69 := y_B0.fr r58 (g63 211 0 (by decide)) (g63 213 0 (by decide))
              refine T_if1 (by decide +kernel) ?_
              refine T_useN (sf_X11_refresh_1D hfu s60 c61 ⟨r69, Or.inl (by omega)⟩) (fun v75 s70 hq => ?_)
              obtain ⟨c71, f72, o76, rfl⟩ := hq
              refine T_vN ?_
              have f73 := z_Fr.tr (R := R_X11_undo_1) f62 f72 rs_X11_refresh_1__X11_undo_1
              have t79 : s70 33 1 = s60 33 1 := f72 33 1 (by decide)
              have t80 : s70 33 2 = s60 33 2 := f72 33 2 (by decide)
              have u81 := CI_b c71 (k := 191) (j := 16) bd_191_16
              refine T_if1 (by decide +kernel) ?_
              refine T_let 191 (by decide +kernel) ?_
              refine T_if1 (by decide +kernel) ?_
              refine T_leq (fun x82 e83 => ?_)
              have u84 := CI_b c71 (k := 191) (j := 16) bd_191_16
              exact T_ret ⟨c71, f73, (y_V2.u o76), ⟨x82, rfl, by omega, by omega⟩⟩
            · exact T_ret ⟨c48, f50, ⟨r58, Or.inl (by omega)⟩, ⟨(-1), rfl, by omega, by omega⟩⟩
          · refine T_if1 (by decide +kernel) ?_
            refine T_let 48 (by decide +kernel) ?_
            refine T_of (fX2_place_J32.eq_1 ..) ?_
            refine T_rR ?_
            refine T_if1 (by decide) ?_
            refine T_if1 (by decide +kernel) ?_
            refine T_useN (sf_X9_copyFrom_6_48 hfu s25 c26) (fun v90 s85 hq => ?_)
            obtain ⟨c86, f87, rfl⟩ := hq
            refine T_vN ?_
            have f88 := z_Fr.tr (R := R_X11_undo_1) f27 f87 rs_X9_copyFrom_6_48__X11_undo_1
            have t93 : s85 33 1 = s25 33 1 := f87 33 1 (by decide)
            have t94 : s85 33 2 = s25 33 2 := f87 33 2 (by decide)
            have t95 : s85 191 16 = s25 191 16 := f87 191 16 (by decide)
            have r96 := y_B0.fr r34 (f87 211 0 (by decide)) (f87 213 0 (by decide))
            refine T_if1 (by unfold z_bl; omega) ?_
            refine T_rI ?_
            refine T_ite (fun h97 => ?_) (fun h97 => ?_)
            · refine T_if1 ⟨(by decide +kernel), by unfold z_bl; omega⟩ ?_
              refine T_upg c86 bd_1_16 (by omega) (fun s98 c99 g101 g102 e103 => ?_)
              have f100 := z_Fr.upf (R := R_X11_undo_1) f88 g101 g102 (Or.inr (Or.inr (Or.inr (Or.inr (Or.inr (Or.inr (Or.inr (Or.inr (Or.inr (Or.inl (⟨rfl, by decide⟩)))))))))))
              have t104 : s98 33 1 = s85 33 1 := g101 33 1 (by decide)
              have t105 : s98 33 2 = s85 33 2 := g101 33 2 (by decide)
              have t106 : s98 191 16 = s85 191 16 := g101 191 16 (by decide)
              have r107 := y_B0.fr r96 (g101 211 0 (by decide)) (g101 213 0 (by decide))
              refine T_if1 (by decide +kernel) ?_
              refine T_useN (sf_X11_refresh_1D hfu s98 c99 ⟨r107, Or.inl (by omega)⟩) (fun v113 s108 hq => ?_)
              obtain ⟨c109, f110, o114, rfl⟩ := hq
              refine T_vN ?_
              have f111 := z_Fr.tr (R := R_X11_undo_1) f100 f110 rs_X11_refresh_1__X11_undo_1
              have t117 : s108 33 1 = s98 33 1 := f110 33 1 (by decide)
              have t118 : s108 33 2 = s98 33 2 := f110 33 2 (by decide)
              have u119 := CI_b c109 (k := 191) (j := 16) bd_191_16
              refine T_if1 (by decide +kernel) ?_
              refine T_let 191 (by decide +kernel) ?_
              refine T_if1 (by decide +kernel) ?_
              refine T_leq (fun x120 e121 => ?_)
              have u122 := CI_b c109 (k := 191) (j := 16) bd_191_16
              exact T_ret ⟨c109, f111, (y_V2.u o114), ⟨x120, rfl, by omega, by omega⟩⟩
            · exact T_ret ⟨c86, f88, ⟨r96, Or.inl (by omega)⟩, ⟨(-1), rfl, by omega, by omega⟩⟩
          · refine T_if1 (by decide +kernel) ?_
            refine T_let 61 (by decide +kernel) ?_
            refine T_of (fX2_place_J32.eq_1 ..) ?_
            refine T_rR ?_
            refine T_if1 (by decide) ?_
            refine T_if1 (by decide +kernel) ?_
            refine T_useN (sf_X9_copyFrom_6_61 hfu s25 c26) (fun v128 s123 hq => ?_)
            obtain ⟨c124, f125, rfl⟩ := hq
            refine T_vN ?_
            have f126 := z_Fr.tr (R := R_X11_undo_1) f27 f125 rs_X9_copyFrom_6_61__X11_undo_1
            have t131 : s123 33 1 = s25 33 1 := f125 33 1 (by decide)
            have t132 : s123 33 2 = s25 33 2 := f125 33 2 (by decide)
            have t133 : s123 191 16 = s25 191 16 := f125 191 16 (by decide)
            have r134 := y_B0.fr r34 (f125 211 0 (by decide)) (f125 213 0 (by decide))
            refine T_if1 (by unfold z_bl; omega) ?_
            refine T_rI ?_
            refine T_ite (fun h135 => ?_) (fun h135 => ?_)
            · refine T_if1 ⟨(by decide +kernel), by unfold z_bl; omega⟩ ?_
              refine T_upg c124 bd_1_16 (by omega) (fun s136 c137 g139 g140 e141 => ?_)
              have f138 := z_Fr.upf (R := R_X11_undo_1) f126 g139 g140 (Or.inr (Or.inr (Or.inr (Or.inr (Or.inr (Or.inr (Or.inr (Or.inr (Or.inr (Or.inl (⟨rfl, by decide⟩)))))))))))
              have t142 : s136 33 1 = s123 33 1 := g139 33 1 (by decide)
              have t143 : s136 33 2 = s123 33 2 := g139 33 2 (by decide)
              have t144 : s136 191 16 = s123 191 16 := g139 191 16 (by decide)
              have r145 := y_B0.fr r134 (g139 211 0 (by decide)) (g139 213 0 (by decide))
              refine T_if1 (by decide +kernel) ?_
              refine T_useN (sf_X11_refresh_1D hfu s136 c137 ⟨r145, Or.inl (by omega)⟩) (fun v151 s146 hq => ?_)
              obtain ⟨c147, f148, o152, rfl⟩ := hq
              refine T_vN ?_
              have f149 := z_Fr.tr (R := R_X11_undo_1) f138 f148 rs_X11_refresh_1__X11_undo_1
              have t155 : s146 33 1 = s136 33 1 := f148 33 1 (by decide)
              have t156 : s146 33 2 = s136 33 2 := f148 33 2 (by decide)
              have u157 := CI_b c147 (k := 191) (j := 16) bd_191_16
              refine T_if1 (by decide +kernel) ?_
              refine T_let 191 (by decide +kernel) ?_
              refine T_if1 (by decide +kernel) ?_
              refine T_leq (fun x158 e159 => ?_)
              have u160 := CI_b c147 (k := 191) (j := 16) bd_191_16
              exact T_ret ⟨c147, f149, (y_V2.u o152), ⟨x158, rfl, by omega, by omega⟩⟩
            · exact T_ret ⟨c124, f126, ⟨r134, Or.inl (by omega)⟩, ⟨(-1), rfl, by omega, by omega⟩⟩
          · refine T_if1 (by decide +kernel) ?_
            refine T_let 74 (by decide +kernel) ?_
            refine T_of (fX2_place_J32.eq_1 ..) ?_
            refine T_rR ?_
            refine T_if1 (by decide) ?_
            refine T_if1 (by decide +kernel) ?_
            refine T_useN (sf_X9_copyFrom_6_74 hfu s25 c26) (fun v166 s161 hq => ?_)
            obtain ⟨c162, f163, rfl⟩ := hq
            refine T_vN ?_
            have f164 := z_Fr.tr (R := R_X11_undo_1) f27 f163 rs_X9_copyFrom_6_74__X11_undo_1
            have t169 : s161 33 1 = s25 33 1 := f163 33 1 (by decide)
            have t170 : s161 33 2 = s25 33 2 := f163 33 2 (by decide)
            have t171 : s161 191 16 = s25 191 16 := f163 191 16 (by decide)
            have r172 := y_B0.fr r34 (f163 211 0 (by decide)) (f163 213 0 (by decide))
            refine T_if1 (by unfold z_bl; omega) ?_
            refine T_rI ?_
            refine T_ite (fun h173 => ?_) (fun h173 => ?_)
            · refine T_if1 ⟨(by decide +kernel), by unfold z_bl; omega⟩ ?_
              refine T_upg c162 bd_1_16 (by omega) (fun s174 c175 g177 g178 e179 => ?_)
              have f176 := z_Fr.upf (R := R_X11_undo_1) f164 g177 g178 (Or.inr (Or.inr (Or.inr (Or.inr (Or.inr (Or.inr (Or.inr (Or.inr (Or.inr (Or.inl (⟨rfl, by decide⟩)))))))))))
              have t180 : s174 33 1 = s161 33 1 := g177 33 1 (by decide)
              have t181 : s174 33 2 = s161 33 2 := g177 33 2 (by decide)
              have t182 : s174 191 16 = s161 191 16 := g177 191 16 (by decide)
              have r183 := y_B0.fr r172 (g177 211 0 (by decide)) (g177 213 0 (by decide))
              refine T_if1 (by decide +kernel) ?_
              refine T_useN (sf_X11_refresh_1D hfu s174 c175 ⟨r183, Or.inl (by omega)⟩) (fun v189 s184 hq => ?_)
              obtain ⟨c185, f186, o190, rfl⟩ := hq
              refine T_vN ?_
              have f187 := z_Fr.tr (R := R_X11_undo_1) f176 f186 rs_X11_refresh_1__X11_undo_1
              have t193 : s184 33 1 = s174 33 1 := f186 33 1 (by decide)
              have t194 : s184 33 2 = s174 33 2 := f186 33 2 (by decide)
              have u195 := CI_b c185 (k := 191) (j := 16) bd_191_16
              refine T_if1 (by decide +kernel) ?_
              refine T_let 191 (by decide +kernel) ?_
              refine T_if1 (by decide +kernel) ?_
              refine T_leq (fun x196 e197 => ?_)
              have u198 := CI_b c185 (k := 191) (j := 16) bd_191_16
              exact T_ret ⟨c185, f187, (y_V2.u o190), ⟨x196, rfl, by omega, by omega⟩⟩
            · exact T_ret ⟨c162, f164, ⟨r172, Or.inl (by omega)⟩, ⟨(-1), rfl, by omega, by omega⟩⟩
          · refine T_if1 (by decide +kernel) ?_
            refine T_let 87 (by decide +kernel) ?_
            refine T_of (fX2_place_J32.eq_1 ..) ?_
            refine T_rR ?_
            refine T_if1 (by decide) ?_
            refine T_if1 (by decide +kernel) ?_
            refine T_useN (sf_X9_copyFrom_6_87 hfu s25 c26) (fun v204 s199 hq => ?_)
            obtain ⟨c200, f201, rfl⟩ := hq
            refine T_vN ?_
            have f202 := z_Fr.tr (R := R_X11_undo_1) f27 f201 rs_X9_copyFrom_6_87__X11_undo_1
            have t207 : s199 33 1 = s25 33 1 := f201 33 1 (by decide)
            have t208 : s199 33 2 = s25 33 2 := f201 33 2 (by decide)
            have t209 : s199 191 16 = s25 191 16 := f201 191 16 (by decide)
            have r210 := y_B0.fr r34 (f201 211 0 (by decide)) (f201 213 0 (by decide))
            refine T_if1 (by unfold z_bl; omega) ?_
            refine T_rI ?_
            refine T_ite (fun h211 => ?_) (fun h211 => ?_)
            · refine T_if1 ⟨(by decide +kernel), by unfold z_bl; omega⟩ ?_
              refine T_upg c200 bd_1_16 (by omega) (fun s212 c213 g215 g216 e217 => ?_)
              have f214 := z_Fr.upf (R := R_X11_undo_1) f202 g215 g216 (Or.inr (Or.inr (Or.inr (Or.inr (Or.inr (Or.inr (Or.inr (Or.inr (Or.inr (Or.inl (⟨rfl, by decide⟩)))))))))))
              have t218 : s212 33 1 = s199 33 1 := g215 33 1 (by decide)
              have t219 : s212 33 2 = s199 33 2 := g215 33 2 (by decide)
              have t220 : s212 191 16 = s199 191 16 := g215 191 16 (by decide)
              have r221 := y_B0.fr r210 (g215 211 0 (by decide)) (g215 213 0 (by decide))
              refine T_if1 (by decide +kernel) ?_
              refine T_useN (sf_X11_refresh_1D hfu s212 c213 ⟨r221, Or.inl (by omega)⟩) (fun v227 s222 hq => ?_)
              obtain ⟨c223, f224, o228, rfl⟩ := hq
              refine T_vN ?_
              have f225 := z_Fr.tr (R := R_X11_undo_1) f214 f224 rs_X11_refresh_1__X11_undo_1
              have t231 : s222 33 1 = s212 33 1 := f224 33 1 (by decide)
              have t232 : s222 33 2 = s212 33 2 := f224 33 2 (by decide)
              have u233 := CI_b c223 (k := 191) (j := 16) bd_191_16
              refine T_if1 (by decide +kernel) ?_
              refine T_let 191 (by decide +kernel) ?_
              refine T_if1 (by decide +kernel) ?_
              refine T_leq (fun x234 e235 => ?_)
              have u236 := CI_b c223 (k := 191) (j := 16) bd_191_16
              exact T_ret ⟨c223, f225, (y_V2.u o228), ⟨x234, rfl, by omega, by omega⟩⟩
            · exact T_ret ⟨c200, f202, ⟨r210, Or.inl (by omega)⟩, ⟨(-1), rfl, by omega, by omega⟩⟩
          · refine T_if1 (by decide +kernel) ?_
            refine T_let 100 (by decide +kernel) ?_
            refine T_of (fX2_place_J32.eq_1 ..) ?_
            refine T_rR ?_
            refine T_if1 (by decide) ?_
            refine T_if1 (by decide +kernel) ?_
            refine T_useN (sf_X9_copyFrom_6_100 hfu s25 c26) (fun v242 s237 hq => ?_)
            obtain ⟨c238, f239, rfl⟩ := hq
            refine T_vN ?_
            have f240 := z_Fr.tr (R := R_X11_undo_1) f27 f239 rs_X9_copyFrom_6_100__X11_undo_1
            have t245 : s237 33 1 = s25 33 1 := f239 33 1 (by decide)
            have t246 : s237 33 2 = s25 33 2 := f239 33 2 (by decide)
            have t247 : s237 191 16 = s25 191 16 := f239 191 16 (by decide)
            have r248 := y_B0.fr r34 (f239 211 0 (by decide)) (f239 213 0 (by decide))
            refine T_if1 (by unfold z_bl; omega) ?_
            refine T_rI ?_
            refine T_ite (fun h249 => ?_) (fun h249 => ?_)
            · refine T_if1 ⟨(by decide +kernel), by unfold z_bl; omega⟩ ?_
              refine T_upg c238 bd_1_16 (by omega) (fun s250 c251 g253 g254 e255 => ?_)
              have f252 := z_Fr.upf (R := R_X11_undo_1) f240 g253 g254 (Or.inr (Or.inr (Or.inr (Or.inr (Or.inr (Or.inr (Or.inr (Or.inr (Or.inr (Or.inl (⟨rfl, by decide⟩)))))))))))
              have t256 : s250 33 1 = s237 33 1 := g253 33 1 (by decide)
              have t257 : s250 33 2 = s237 33 2 := g253 33 2 (by decide)
              have t258 : s250 191 16 = s237 191 16 := g253 191 16 (by decide)
              have r259 := y_B0.fr r248 (g253 211 0 (by decide)) (g253 213 0 (by decide))
              refine T_if1 (by decide +kernel) ?_
              refine T_useN (sf_X11_refresh_1D hfu s250 c251 ⟨r259, Or.inl (by omega)⟩) (fun v265 s260 hq => ?_)
              obtain ⟨c261, f262, o266, rfl⟩ := hq
              refine T_vN ?_
              have f263 := z_Fr.tr (R := R_X11_undo_1) f252 f262 rs_X11_refresh_1__X11_undo_1
              have t269 : s260 33 1 = s250 33 1 := f262 33 1 (by decide)
              have t270 : s260 33 2 = s250 33 2 := f262 33 2 (by decide)
              have u271 := CI_b c261 (k := 191) (j := 16) bd_191_16
              refine T_if1 (by decide +kernel) ?_
              refine T_let 191 (by decide +kernel) ?_
              refine T_if1 (by decide +kernel) ?_
              refine T_leq (fun x272 e273 => ?_)
              have u274 := CI_b c261 (k := 191) (j := 16) bd_191_16
              exact T_ret ⟨c261, f263, (y_V2.u o266), ⟨x272, rfl, by omega, by omega⟩⟩
            · exact T_ret ⟨c238, f240, ⟨r248, Or.inl (by omega)⟩, ⟨(-1), rfl, by omega, by omega⟩⟩
          · refine T_if1 (by decide +kernel) ?_
            refine T_let 113 (by decide +kernel) ?_
            refine T_of (fX2_place_J32.eq_1 ..) ?_
            refine T_rR ?_
            refine T_if1 (by decide) ?_
            refine T_if1 (by decide +kernel) ?_
            refine T_useN (sf_X9_copyFrom_6_113 hfu s25 c26) (fun v280 s275 hq => ?_)
            obtain ⟨c276, f277, rfl⟩ := hq
            refine T_vN ?_
            have f278 := z_Fr.tr (R := R_X11_undo_1) f27 f277 rs_X9_copyFrom_6_113__X11_undo_1
            have t283 : s275 33 1 = s25 33 1 := f277 33 1 (by decide)
            have t284 : s275 33 2 = s25 33 2 := f277 33 2 (by decide)
            have t285 : s275 191 16 = s25 191 16 := f277 191 16 (by decide)
            have r286 := y_B0.fr r34 (f277 211 0 (by decide)) (f277 213 0 (by decide))
            refine T_if1 (by unfold z_bl; omega) ?_
            refine T_rI ?_
            refine T_ite (fun h287 => ?_) (fun h287 => ?_)
            · refine T_if1 ⟨(by decide +kernel), by unfold z_bl; omega⟩ ?_
              refine T_upg c276 bd_1_16 (by omega) (fun s288 c289 g291 g292 e293 => ?_)
              have f290 := z_Fr.upf (R := R_X11_undo_1) f278 g291 g292 (Or.inr (Or.inr (Or.inr (Or.inr (Or.inr (Or.inr (Or.inr (Or.inr (Or.inr (Or.inl (⟨rfl, by decide⟩)))))))))))
              have t294 : s288 33 1 = s275 33 1 := g291 33 1 (by decide)
              have t295 : s288 33 2 = s275 33 2 := g291 33 2 (by decide)
              have t296 : s288 191 16 = s275 191 16 := g291 191 16 (by decide)
              have r297 := y_B0.fr r286 (g291 211 0 (by decide)) (g291 213 0 (by decide))
              refine T_if1 (by decide +kernel) ?_
              refine T_useN (sf_X11_refresh_1D hfu s288 c289 ⟨r297, Or.inl (by omega)⟩) (fun v303 s298 hq => ?_)
              obtain ⟨c299, f300, o304, rfl⟩ := hq
              refine T_vN ?_
              have f301 := z_Fr.tr (R := R_X11_undo_1) f290 f300 rs_X11_refresh_1__X11_undo_1
              have t307 : s298 33 1 = s288 33 1 := f300 33 1 (by decide)
              have t308 : s298 33 2 = s288 33 2 := f300 33 2 (by decide)
              have u309 := CI_b c299 (k := 191) (j := 16) bd_191_16
              refine T_if1 (by decide +kernel) ?_
              refine T_let 191 (by decide +kernel) ?_
              refine T_if1 (by decide +kernel) ?_
              refine T_leq (fun x310 e311 => ?_)
              have u312 := CI_b c299 (k := 191) (j := 16) bd_191_16
              exact T_ret ⟨c299, f301, (y_V2.u o304), ⟨x310, rfl, by omega, by omega⟩⟩
            · exact T_ret ⟨c276, f278, ⟨r286, Or.inl (by omega)⟩, ⟨(-1), rfl, by omega, by omega⟩⟩
          · refine T_if1 (by decide +kernel) ?_
            refine T_let 126 (by decide +kernel) ?_
            refine T_of (fX2_place_J32.eq_1 ..) ?_
            refine T_rR ?_
            refine T_if1 (by decide) ?_
            refine T_if1 (by decide +kernel) ?_
            refine T_useN (sf_X9_copyFrom_6_126 hfu s25 c26) (fun v318 s313 hq => ?_)
            obtain ⟨c314, f315, rfl⟩ := hq
            refine T_vN ?_
            have f316 := z_Fr.tr (R := R_X11_undo_1) f27 f315 rs_X9_copyFrom_6_126__X11_undo_1
            have t321 : s313 33 1 = s25 33 1 := f315 33 1 (by decide)
            have t322 : s313 33 2 = s25 33 2 := f315 33 2 (by decide)
            have t323 : s313 191 16 = s25 191 16 := f315 191 16 (by decide)
            have r324 := y_B0.fr r34 (f315 211 0 (by decide)) (f315 213 0 (by decide))
            refine T_if1 (by unfold z_bl; omega) ?_
            refine T_rI ?_
            refine T_ite (fun h325 => ?_) (fun h325 => ?_)
            · refine T_if1 ⟨(by decide +kernel), by unfold z_bl; omega⟩ ?_
              refine T_upg c314 bd_1_16 (by omega) (fun s326 c327 g329 g330 e331 => ?_)
              have f328 := z_Fr.upf (R := R_X11_undo_1) f316 g329 g330 (Or.inr (Or.inr (Or.inr (Or.inr (Or.inr (Or.inr (Or.inr (Or.inr (Or.inr (Or.inl (⟨rfl, by decide⟩)))))))))))
              have t332 : s326 33 1 = s313 33 1 := g329 33 1 (by decide)
              have t333 : s326 33 2 = s313 33 2 := g329 33 2 (by decide)
              have t334 : s326 191 16 = s313 191 16 := g329 191 16 (by decide)
              have r335 := y_B0.fr r324 (g329 211 0 (by decide)) (g329 213 0 (by decide))
              refine T_if1 (by decide +kernel) ?_
              refine T_useN (sf_X11_refresh_1D hfu s326 c327 ⟨r335, Or.inl (by omega)⟩) (fun v341 s336 hq => ?_)
              obtain ⟨c337, f338, o342, rfl⟩ := hq
              refine T_vN ?_
              have f339 := z_Fr.tr (R := R_X11_undo_1) f328 f338 rs_X11_refresh_1__X11_undo_1
              have t345 : s336 33 1 = s326 33 1 := f338 33 1 (by decide)
              have t346 : s336 33 2 = s326 33 2 := f338 33 2 (by decide)
              have u347 := CI_b c337 (k := 191) (j := 16) bd_191_16
              refine T_if1 (by decide +kernel) ?_
              refine T_let 191 (by decide +kernel) ?_
              refine T_if1 (by decide +kernel) ?_
              refine T_leq (fun x348 e349 => ?_)
              have u350 := CI_b c337 (k := 191) (j := 16) bd_191_16
              exact T_ret ⟨c337, f339, (y_V2.u o342), ⟨x348, rfl, by omega, by omega⟩⟩
            · exact T_ret ⟨c314, f316, ⟨r324, Or.inl (by omega)⟩, ⟨(-1), rfl, by omega, by omega⟩⟩
          · refine T_if1 (by decide +kernel) ?_
            refine T_let 139 (by decide +kernel) ?_
            refine T_of (fX2_place_J32.eq_1 ..) ?_
            refine T_rR ?_
            refine T_if1 (by decide) ?_
            refine T_if1 (by decide +kernel) ?_
            refine T_useN (sf_X9_copyFrom_6_139 hfu s25 c26) (fun v356 s351 hq => ?_)
            obtain ⟨c352, f353, rfl⟩ := hq
            refine T_vN ?_
            have f354 := z_Fr.tr (R := R_X11_undo_1) f27 f353 rs_X9_copyFrom_6_139__X11_undo_1
            have t359 : s351 33 1 = s25 33 1 := f353 33 1 (by decide)
            have t360 : s351 33 2 = s25 33 2 := f353 33 2 (by decide)
            have t361 : s351 191 16 = s25 191 16 := f353 191 16 (by decide)
            have r362 := y_B0.fr r34 (f353 211 0 (by decide)) (f353 213 0 (by decide))
            refine T_if1 (by unfold z_bl; omega) ?_
            refine T_rI ?_
            refine T_ite (fun h363 => ?_) (fun h363 => ?_)
            · refine T_if1 ⟨(by decide +kernel), by unfold z_bl; omega⟩ ?_
              refine T_upg c352 bd_1_16 (by omega) (fun s364 c365 g367 g368 e369 => ?_)
              have f366 := z_Fr.upf (R := R_X11_undo_1) f354 g367 g368 (Or.inr (Or.inr (Or.inr (Or.inr (Or.inr (Or.inr (Or.inr (Or.inr (Or.inr (Or.inl (⟨rfl, by decide⟩)))))))))))
              have t370 : s364 33 1 = s351 33 1 := g367 33 1 (by decide)
              have t371 : s364 33 2 = s351 33 2 := g367 33 2 (by decide)
              have t372 : s364 191 16 = s351 191 16 := g367 191 16 (by decide)
              have r373 := y_B0.fr r362 (g367 211 0 (by decide)) (g367 213 0 (by decide))
              refine T_if1 (by decide +kernel) ?_
              refine T_useN (sf_X11_refresh_1D hfu s364 c365 ⟨r373, Or.inl (by omega)⟩) (fun v379 s374 hq => ?_)
              obtain ⟨c375, f376, o380, rfl⟩ := hq
              refine T_vN ?_
              have f377 := z_Fr.tr (R := R_X11_undo_1) f366 f376 rs_X11_refresh_1__X11_undo_1
              have t383 : s374 33 1 = s364 33 1 := f376 33 1 (by decide)
              have t384 : s374 33 2 = s364 33 2 := f376 33 2 (by decide)
              have u385 := CI_b c375 (k := 191) (j := 16) bd_191_16
              refine T_if1 (by decide +kernel) ?_
              refine T_let 191 (by decide +kernel) ?_
              refine T_if1 (by decide +kernel) ?_
              refine T_leq (fun x386 e387 => ?_)
              have u388 := CI_b c375 (k := 191) (j := 16) bd_191_16
              exact T_ret ⟨c375, f377, (y_V2.u o380), ⟨x386, rfl, by omega, by omega⟩⟩
            · exact T_ret ⟨c352, f354, ⟨r362, Or.inl (by omega)⟩, ⟨(-1), rfl, by omega, by omega⟩⟩
          · refine T_if1 (by decide +kernel) ?_
            refine T_let 152 (by decide +kernel) ?_
            refine T_of (fX2_place_J32.eq_1 ..) ?_
            refine T_rR ?_
            refine T_if1 (by decide) ?_
            refine T_if1 (by decide +kernel) ?_
            refine T_useN (sf_X9_copyFrom_6_152 hfu s25 c26) (fun v394 s389 hq => ?_)
            obtain ⟨c390, f391, rfl⟩ := hq
            refine T_vN ?_
            have f392 := z_Fr.tr (R := R_X11_undo_1) f27 f391 rs_X9_copyFrom_6_152__X11_undo_1
            have t397 : s389 33 1 = s25 33 1 := f391 33 1 (by decide)
            have t398 : s389 33 2 = s25 33 2 := f391 33 2 (by decide)
            have t399 : s389 191 16 = s25 191 16 := f391 191 16 (by decide)
            have r400 := y_B0.fr r34 (f391 211 0 (by decide)) (f391 213 0 (by decide))
            refine T_if1 (by unfold z_bl; omega) ?_
            refine T_rI ?_
            refine T_ite (fun h401 => ?_) (fun h401 => ?_)
            · refine T_if1 ⟨(by decide +kernel), by unfold z_bl; omega⟩ ?_
              refine T_upg c390 bd_1_16 (by omega) (fun s402 c403 g405 g406 e407 => ?_)
              have f404 := z_Fr.upf (R := R_X11_undo_1) f392 g405 g406 (Or.inr (Or.inr (Or.inr (Or.inr (Or.inr (Or.inr (Or.inr (Or.inr (Or.inr (Or.inl (⟨rfl, by decide⟩)))))))))))
              have t408 : s402 33 1 = s389 33 1 := g405 33 1 (by decide)
              have t409 : s402 33 2 = s389 33 2 := g405 33 2 (by decide)
              have t410 : s402 191 16 = s389 191 16 := g405 191 16 (by decide)
              have r411 := y_B0.fr r400 (g405 211 0 (by decide)) (g405 213 0 (by decide))
              refine T_if1 (by decide +kernel) ?_
              refine T_useN (sf_X11_refresh_1D hfu s402 c403 ⟨r411, Or.inl (by omega)⟩) (fun v417 s412 hq => ?_)
              obtain ⟨c413, f414, o418, rfl⟩ := hq
              refine T_vN ?_
              have f415 := z_Fr.tr (R := R_X11_undo_1) f404 f414 rs_X11_refresh_1__X11_undo_1
              have t421 : s412 33 1 = s402 33 1 := f414 33 1 (by decide)
              have t422 : s412 33 2 = s402 33 2 := f414 33 2 (by decide)
              have u423 := CI_b c413 (k := 191) (j := 16) bd_191_16
              refine T_if1 (by decide +kernel) ?_
              refine T_let 191 (by decide +kernel) ?_
              refine T_if1 (by decide +kernel) ?_
              refine T_leq (fun x424 e425 => ?_)
              have u426 := CI_b c413 (k := 191) (j := 16) bd_191_16
              exact T_ret ⟨c413, f415, (y_V2.u o418), ⟨x424, rfl, by omega, by omega⟩⟩
            · exact T_ret ⟨c390, f392, ⟨r400, Or.inl (by omega)⟩, ⟨(-1), rfl, by omega, by omega⟩⟩
          · refine T_if1 (by decide +kernel) ?_
            refine T_let 165 (by decide +kernel) ?_
            refine T_of (fX2_place_J32.eq_1 ..) ?_
            refine T_rR ?_
            refine T_if1 (by decide) ?_
            refine T_if1 (by decide +kernel) ?_
            refine T_useN (sf_X9_copyFrom_6_165 hfu s25 c26) (fun v432 s427 hq => ?_)
            obtain ⟨c428, f429, rfl⟩ := hq
            refine T_vN ?_
            have f430 := z_Fr.tr (R := R_X11_undo_1) f27 f429 rs_X9_copyFrom_6_165__X11_undo_1
            have t435 : s427 33 1 = s25 33 1 := f429 33 1 (by decide)
            have t436 : s427 33 2 = s25 33 2 := f429 33 2 (by decide)
            have t437 : s427 191 16 = s25 191 16 := f429 191 16 (by decide)
            have r438 := y_B0.fr r34 (f429 211 0 (by decide)) (f429 213 0 (by decide))
            refine T_if1 (by unfold z_bl; omega) ?_
            refine T_rI ?_
            refine T_ite (fun h439 => ?_) (fun h439 => ?_)
            · refine T_if1 ⟨(by decide +kernel), by unfold z_bl; omega⟩ ?_
              refine T_upg c428 bd_1_16 (by omega) (fun s440 c441 g443 g444 e445 => ?_)
              have f442 := z_Fr.upf (R := R_X11_undo_1) f430 g443 g444 (Or.inr (Or.inr (Or.inr (Or.inr (Or.inr (Or.inr (Or.inr (Or.inr (Or.inr (Or.inl (⟨rfl, by decide⟩)))))))))))
              have t446 : s440 33 1 = s427 33 1 := g443 33 1 (by decide)
              have t447 : s440 33 2 = s427 33 2 := g443 33 2 (by decide)
              have t448 : s440 191 16 = s427 191 16 := g443 191 16 (by decide)
              have r449 := y_B0.fr r438 (g443 211 0 (by decide)) (g443 213 0 (by decide))
              refine T_if1 (by decide +kernel) ?_
              refine T_useN (sf_X11_refresh_1D hfu s440 c441 ⟨r449, Or.inl (by omega)⟩) (fun v455 s450 hq => ?_)
              obtain ⟨c451, f452, o456, rfl⟩ := hq
              refine T_vN ?_
              have f453 := z_Fr.tr (R := R_X11_undo_1) f442 f452 rs_X11_refresh_1__X11_undo_1
              have t459 : s450 33 1 = s440 33 1 := f452 33 1 (by decide)
              have t460 : s450 33 2 = s440 33 2 := f452 33 2 (by decide)
              have u461 := CI_b c451 (k := 191) (j := 16) bd_191_16
              refine T_if1 (by decide +kernel) ?_
              refine T_let 191 (by decide +kernel) ?_
              refine T_if1 (by decide +kernel) ?_
              refine T_leq (fun x462 e463 => ?_)
              have u464 := CI_b c451 (k := 191) (j := 16) bd_191_16
              exact T_ret ⟨c451, f453, (y_V2.u o456), ⟨x462, rfl, by omega, by omega⟩⟩
            · exact T_ret ⟨c428, f430, ⟨r438, Or.inl (by omega)⟩, ⟨(-1), rfl, by omega, by omega⟩⟩
          · refine T_if1 (by decide +kernel) ?_
            refine T_let 178 (by decide +kernel) ?_
            refine T_of (fX2_place_J32.eq_1 ..) ?_
            refine T_rR ?_
            refine T_if1 (by decide) ?_
            refine T_if1 (by decide +kernel) ?_
            refine T_useN (sf_X9_copyFrom_6_178 hfu s25 c26) (fun v470 s465 hq => ?_)
            obtain ⟨c466, f467, rfl⟩ := hq
            refine T_vN ?_
            have f468 := z_Fr.tr (R := R_X11_undo_1) f27 f467 rs_X9_copyFrom_6_178__X11_undo_1
            have t473 : s465 33 1 = s25 33 1 := f467 33 1 (by decide)
            have t474 : s465 33 2 = s25 33 2 := f467 33 2 (by decide)
            have t475 : s465 191 16 = s25 191 16 := f467 191 16 (by decide)
            have r476 := y_B0.fr r34 (f467 211 0 (by decide)) (f467 213 0 (by decide))
            refine T_if1 (by unfold z_bl; omega) ?_
            refine T_rI ?_
            refine T_ite (fun h477 => ?_) (fun h477 => ?_)
            · refine T_if1 ⟨(by decide +kernel), by unfold z_bl; omega⟩ ?_
              refine T_upg c466 bd_1_16 (by omega) (fun s478 c479 g481 g482 e483 => ?_)
              have f480 := z_Fr.upf (R := R_X11_undo_1) f468 g481 g482 (Or.inr (Or.inr (Or.inr (Or.inr (Or.inr (Or.inr (Or.inr (Or.inr (Or.inr (Or.inl (⟨rfl, by decide⟩)))))))))))
              have t484 : s478 33 1 = s465 33 1 := g481 33 1 (by decide)
              have t485 : s478 33 2 = s465 33 2 := g481 33 2 (by decide)
              have t486 : s478 191 16 = s465 191 16 := g481 191 16 (by decide)
              have r487 := y_B0.fr r476 (g481 211 0 (by decide)) (g481 213 0 (by decide))
              refine T_if1 (by decide +kernel) ?_
              refine T_useN (sf_X11_refresh_1D hfu s478 c479 ⟨r487, Or.inl (by omega)⟩) (fun v493 s488 hq => ?_)
              obtain ⟨c489, f490, o494, rfl⟩ := hq
              refine T_vN ?_
              have f491 := z_Fr.tr (R := R_X11_undo_1) f480 f490 rs_X11_refresh_1__X11_undo_1
              have t497 : s488 33 1 = s478 33 1 := f490 33 1 (by decide)
              have t498 : s488 33 2 = s478 33 2 := f490 33 2 (by decide)
              have u499 := CI_b c489 (k := 191) (j := 16) bd_191_16
              refine T_if1 (by decide +kernel) ?_
              refine T_let 191 (by decide +kernel) ?_
              refine T_if1 (by decide +kernel) ?_
              refine T_leq (fun x500 e501 => ?_)
              have u502 := CI_b c489 (k := 191) (j := 16) bd_191_16
              exact T_ret ⟨c489, f491, (y_V2.u o494), ⟨x500, rfl, by omega, by omega⟩⟩
            · exact T_ret ⟨c466, f468, ⟨r476, Or.inl (by omega)⟩, ⟨(-1), rfl, by omega, by omega⟩⟩
    · refine T_if1 (by decide +kernel) ?_
      refine T_leq (fun x503 e504 => ?_)
      have u505 := CI_b c12 (k := 33) (j := 1) bd_33_1
      refine T_leq (fun x506 e507 => ?_)
      have w508 := z_wb e507
      refine T_of (fX2_takeBack_J38.eq_1 ..) ?_
      refine T_if1 (by decide +kernel) ?_
      refine T_upg c12 bd_33_1 (by omega) (fun s509 c510 g512 g513 e514 => ?_)
      have f511 := z_Fr.upf (R := R_X11_undo_1) f13 g512 g513 (Or.inr (Or.inl (⟨by decide, by decide⟩)))
      have t515 : s509 33 2 = s11 33 2 := g513 2 (by decide)
      have t516 : s509 191 16 = s11 191 16 := g512 191 16 (by decide)
      have r517 := y_V2.fr r19 (g512 1 16 (by decide)) (g512 191 16 (by decide)) (g512 6 6 (by decide)) (g512 191 17 (by decide)) (g512 191 18 (by decide)) (fun b => g512 3 b (by decide)) (fun b => g512 8 b (by decide)) (fun b => g512 12 b (by decide)) (fun b => g512 14 b (by decide)) (fun b => g512 16 b (by decide)) (fun b => g512 18 b (by decide)) (fun b => g512 193 b (by decide)) (fun b => g512 195 b (by decide)) (fun b => g512 197 b (by decide)) (fun b => g512 199 b (by decide)) (fun b => g512 201 b (by decide)) (fun b => g512 203 b (by decide)) (fun b => g512 205 b (by decide)) (fun b => g512 207 b (by decide)) (fun b => g512 209 b (by decide)) (fun b => g512 211 b (by decide)) (fun b => g512 213 b (by decide)) (fun b => g512 215 b (by decide)) (fun b => g512 217 b (by decide)) (fun b => g512 219 b (by decide))
      have r518 := y_B0.fr r20 (g512 211 0 (by decide)) (g512 213 0 (by decide))
      refine T_if1 (by decide +kernel) ?_
      refine T_bR ?_
      refine T_of (fX2_place.eq_1 ..) ?_
      refine T_if1 (by decide +kernel) ?_
      refine T_leq (fun x519 e520 => ?_)
      have u521 := CI_b c510 (k := 33) (j := 1) bd_33_1
      refine T_ite (fun h522 => ?_) (fun h522 => ?_)
      · refine T_of (fX2_place_J31.eq_1 ..) ?_
        exfalso
        omega
      · refine T_if1 (by decide +kernel) ?_
        refine T_leq (fun x523 e524 => ?_)
        have u525 := CI_b c510 (k := 33) (j := 1) bd_33_1
        refine T_if1 (by decide +kernel) ?_
        refine T_let 34 (by decide +kernel) ?_
        refine T_if1 (by decide +kernel) ?_
        refine T_let 12 (by decide +kernel) ?_
        refine T_ite (fun h526 => ?_) (fun h526 => ?_)
        · refine T_of (fX2_place_J31.eq_1 ..) ?_
          exfalso
          omega
        · refine T_if1 (by decide +kernel) ?_
          refine T_let 34 (by decide +kernel) ?_
          refine T_if1 (by decide +kernel) ?_
          refine T_leq (fun x527 e528 => ?_)
          have u529 := CI_b c510 (k := 33) (j := 1) bd_33_1
          rcases (show x527 = 0 ∨ x527 = 1 ∨ x527 = 2 ∨ x527 = 3 ∨ x527 = 4 ∨ x527 = 5 ∨ x527 = 6 ∨ x527 = 7 ∨ x527 = 8 ∨ x527 = 9 ∨ x527 = 10 ∨ x527 = 11 by omega) with rfl | rfl | rfl | rfl | rfl | rfl | rfl | rfl | rfl | rfl | rfl | rfl
          · refine T_if1 (by decide +kernel) ?_
            refine T_let 35 (by decide +kernel) ?_
            refine T_of (fX2_place_J32.eq_1 ..) ?_
            refine T_rR ?_
            refine T_if1 (by decide) ?_
            refine T_if1 (by decide +kernel) ?_
            refine T_useN (sf_X9_copyFrom_6_35 hfu s509 c510) (fun v536 s531 hq => ?_)
            obtain ⟨c532, f533, rfl⟩ := hq
            refine T_vN ?_
            have f534 := z_Fr.tr (R := R_X11_undo_1) f511 f533 rs_X9_copyFrom_6_35__X11_undo_1
            have t539 : s531 33 1 = s509 33 1 := f533 33 1 (by decide)
            have t540 : s531 33 2 = s509 33 2 := f533 33 2 (by decide)
            have t541 : s531 191 16 = s509 191 16 := f533 191 16 (by decide)
            have r542 := y_B0.fr r518 (f533 211 0 (by decide)) (f533 213 0 (by decide))
            refine T_if1 (by unfold z_bl; omega) ?_
            refine T_rI ?_
            refine T_ite (fun h543 => ?_) (fun h543 => ?_)
            · refine T_if1 ⟨(by decide +kernel), by unfold z_bl; omega⟩ ?_
              refine T_upg c532 bd_1_16 (by omega) (fun s544 c545 g547 g548 e549 => ?_)
              have f546 := z_Fr.upf (R := R_X11_undo_1) f534 g547 g548 (Or.inr (Or.inr (Or.inr (Or.inr (Or.inr (Or.inr (Or.inr (Or.inr (Or.inr (Or.inl (⟨rfl, by decide⟩)))))))))))
              have t550 : s544 33 1 = s531 33 1 := g547 33 1 (by decide)
              have t551 : s544 33 2 = s531 33 2 := g547 33 2 (by decide)
              have t552 : s544 191 16 = s531 191 16 := g547 191 16 (by decide)
              have r553 := y_B0.fr r542 (g547 211 0 (by decide)) (g547 213 0 (by decide))
              refine T_if1 (by decide +kernel) ?_
              refine T_useN (sf_X11_refresh_1D hfu s544 c545 ⟨r553, Or.inl (by omega)⟩) (fun v559 s554 hq => ?_)
              obtain ⟨c555, f556, o560, rfl⟩ := hq
              refine T_vN ?_
              have f557 := z_Fr.tr (R := R_X11_undo_1) f546 f556 rs_X11_refresh_1__X11_undo_1
              have t563 : s554 33 1 = s544 33 1 := f556 33 1 (by decide)
              have t564 : s554 33 2 = s544 33 2 := f556 33 2 (by decide)
              have u565 := CI_b c555 (k := 191) (j := 16) bd_191_16
              refine T_if1 (by decide +kernel) ?_
              refine T_let 191 (by decide +kernel) ?_
              refine T_if1 (by decide +kernel) ?_
              refine T_leq (fun x566 e567 => ?_)
              have u568 := CI_b c555 (k := 191) (j := 16) bd_191_16
              exact T_ret ⟨c555, f557, (y_V2.u o560), ⟨x566, rfl, by omega, by omega⟩⟩
            · exact T_ret ⟨c532, f534, ⟨r542, Or.inl (by omega)⟩, ⟨(-1), rfl, by omega, by omega⟩⟩
          · refine T_if1 (by decide +kernel) ?_
            refine T_let 48 (by decide +kernel) ?_
            refine T_of (fX2_place_J32.eq_1 ..) ?_
            refine T_rR ?_
            refine T_if1 (by decide) ?_
            refine T_if1 (by decide +kernel) ?_
            refine T_useN (sf_X9_copyFrom_6_48 hfu s509 c510) (fun v574 s569 hq => ?_)
            obtain ⟨c570, f571, rfl⟩ := hq
            refine T_vN ?_
            have f572 := z_Fr.tr (R := R_X11_undo_1) f511 f571 rs_X9_copyFrom_6_48__X11_undo_1
            have t577 : s569 33 1 = s509 33 1 := f571 33 1 (by decide)
            have t578 : s569 33 2 = s509 33 2 := f571 33 2 (by decide)
            have t579 : s569 191 16 = s509 191 16 := f571 191 16 (by decide)
            have r580 := y_B0.fr r518 (f571 211 0 (by decide)) (f571 213 0 (by decide))
            refine T_if1 (by unfold z_bl; omega) ?_
            refine T_rI ?_
            refine T_ite (fun h581 => ?_) (fun h581 => ?_)
            · refine T_if1 ⟨(by decide +kernel), by unfold z_bl; omega⟩ ?_
              refine T_upg c570 bd_1_16 (by omega) (fun s582 c583 g585 g586 e587 => ?_)
              have f584 := z_Fr.upf (R := R_X11_undo_1) f572 g585 g586 (Or.inr (Or.inr (Or.inr (Or.inr (Or.inr (Or.inr (Or.inr (Or.inr (Or.inr (Or.inl (⟨rfl, by decide⟩)))))))))))
              have t588 : s582 33 1 = s569 33 1 := g585 33 1 (by decide)
              have t589 : s582 33 2 = s569 33 2 := g585 33 2 (by decide)
              have t590 : s582 191 16 = s569 191 16 := g585 191 16 (by decide)
              have r591 := y_B0.fr r580 (g585 211 0 (by decide)) (g585 213 0 (by decide))
              refine T_if1 (by decide +kernel) ?_
              refine T_useN (sf_X11_refresh_1D hfu s582 c583 ⟨r591, Or.inl (by omega)⟩) (fun v597 s592 hq => ?_)
              obtain ⟨c593, f594, o598, rfl⟩ := hq
              refine T_vN ?_
              have f595 := z_Fr.tr (R := R_X11_undo_1) f584 f594 rs_X11_refresh_1__X11_undo_1
              have t601 : s592 33 1 = s582 33 1 := f594 33 1 (by decide)
              have t602 : s592 33 2 = s582 33 2 := f594 33 2 (by decide)
              have u603 := CI_b c593 (k := 191) (j := 16) bd_191_16
              refine T_if1 (by decide +kernel) ?_
              refine T_let 191 (by decide +kernel) ?_
              refine T_if1 (by decide +kernel) ?_
              refine T_leq (fun x604 e605 => ?_)
              have u606 := CI_b c593 (k := 191) (j := 16) bd_191_16
              exact T_ret ⟨c593, f595, (y_V2.u o598), ⟨x604, rfl, by omega, by omega⟩⟩
            · exact T_ret ⟨c570, f572, ⟨r580, Or.inl (by omega)⟩, ⟨(-1), rfl, by omega, by omega⟩⟩
          · refine T_if1 (by decide +kernel) ?_
            refine T_let 61 (by decide +kernel) ?_
            refine T_of (fX2_place_J32.eq_1 ..) ?_
            refine T_rR ?_
            refine T_if1 (by decide) ?_
            refine T_if1 (by decide +kernel) ?_
            refine T_useN (sf_X9_copyFrom_6_61 hfu s509 c510) (fun v612 s607 hq => ?_)
            obtain ⟨c608, f609, rfl⟩ := hq
            refine T_vN ?_
            have f610 := z_Fr.tr (R := R_X11_undo_1) f511 f609 rs_X9_copyFrom_6_61__X11_undo_1
            have t615 : s607 33 1 = s509 33 1 := f609 33 1 (by decide)
            have t616 : s607 33 2 = s509 33 2 := f609 33 2 (by decide)
            have t617 : s607 191 16 = s509 191 16 := f609 191 16 (by decide)
            have r618 := y_B0.fr r518 (f609 211 0 (by decide)) (f609 213 0 (by decide))
            refine T_if1 (by unfold z_bl; omega) ?_
            refine T_rI ?_
            refine T_ite (fun h619 => ?_) (fun h619 => ?_)
            · refine T_if1 ⟨(by decide +kernel), by unfold z_bl; omega⟩ ?_
              refine T_upg c608 bd_1_16 (by omega) (fun s620 c621 g623 g624 e625 => ?_)
              have f622 := z_Fr.upf (R := R_X11_undo_1) f610 g623 g624 (Or.inr (Or.inr (Or.inr (Or.inr (Or.inr (Or.inr (Or.inr (Or.inr (Or.inr (Or.inl (⟨rfl, by decide⟩)))))))))))
              have t626 : s620 33 1 = s607 33 1 := g623 33 1 (by decide)
              have t627 : s620 33 2 = s607 33 2 := g623 33 2 (by decide)
              have t628 : s620 191 16 = s607 191 16 := g623 191 16 (by decide)
              have r629 := y_B0.fr r618 (g623 211 0 (by decide)) (g623 213 0 (by decide))
              refine T_if1 (by decide +kernel) ?_
              refine T_useN (sf_X11_refresh_1D hfu s620 c621 ⟨r629, Or.inl (by omega)⟩) (fun v635 s630 hq => ?_)
              obtain ⟨c631, f632, o636, rfl⟩ := hq
              refine T_vN ?_
              have f633 := z_Fr.tr (R := R_X11_undo_1) f622 f632 rs_X11_refresh_1__X11_undo_1
              have t639 : s630 33 1 = s620 33 1 := f632 33 1 (by decide)
              have t640 : s630 33 2 = s620 33 2 := f632 33 2 (by decide)
              have u641 := CI_b c631 (k := 191) (j := 16) bd_191_16
              refine T_if1 (by decide +kernel) ?_
              refine T_let 191 (by decide +kernel) ?_
              refine T_if1 (by decide +kernel) ?_
              refine T_leq (fun x642 e643 => ?_)
              have u644 := CI_b c631 (k := 191) (j := 16) bd_191_16
              exact T_ret ⟨c631, f633, (y_V2.u o636), ⟨x642, rfl, by omega, by omega⟩⟩
            · exact T_ret ⟨c608, f610, ⟨r618, Or.inl (by omega)⟩, ⟨(-1), rfl, by omega, by omega⟩⟩
          · refine T_if1 (by decide +kernel) ?_
            refine T_let 74 (by decide +kernel) ?_
            refine T_of (fX2_place_J32.eq_1 ..) ?_
            refine T_rR ?_
            refine T_if1 (by decide) ?_
            refine T_if1 (by decide +kernel) ?_
            refine T_useN (sf_X9_copyFrom_6_74 hfu s509 c510) (fun v650 s645 hq => ?_)
            obtain ⟨c646, f647, rfl⟩ := hq
            refine T_vN ?_
            have f648 := z_Fr.tr (R := R_X11_undo_1) f511 f647 rs_X9_copyFrom_6_74__X11_undo_1
            have t653 : s645 33 1 = s509 33 1 := f647 33 1 (by decide)
            have t654 : s645 33 2 = s509 33 2 := f647 33 2 (by decide)
            have t655 : s645 191 16 = s509 191 16 := f647 191 16 (by decide)
            have r656 := y_B0.fr r518 (f647 211 0 (by decide)) (f647 213 0 (by decide))
            refine T_if1 (by unfold z_bl; omega) ?_
            refine T_rI ?_
            refine T_ite (fun h657 => ?_) (fun h657 => ?_)
            · refine T_if1 ⟨(by decide +kernel), by unfold z_bl; omega⟩ ?_
              refine T_upg c646 bd_1_16 (by omega) (fun s658 c659 g661 g662 e663 => ?_)
              have f660 := z_Fr.upf (R := R_X11_undo_1) f648 g661 g662 (Or.inr (Or.inr (Or.inr (Or.inr (Or.inr (Or.inr (Or.inr (Or.inr (Or.inr (Or.inl (⟨rfl, by decide⟩)))))))))))
              have t664 : s658 33 1 = s645 33 1 := g661 33 1 (by decide)
              have t665 : s658 33 2 = s645 33 2 := g661 33 2 (by decide)
              have t666 : s658 191 16 = s645 191 16 := g661 191 16 (by decide)
              have r667 := y_B0.fr r656 (g661 211 0 (by decide)) (g661 213 0 (by decide))
              refine T_if1 (by decide +kernel) ?_
              refine T_useN (sf_X11_refresh_1D hfu s658 c659 ⟨r667, Or.inl (by omega)⟩) (fun v673 s668 hq => ?_)
              obtain ⟨c669, f670, o674, rfl⟩ := hq
              refine T_vN ?_
              have f671 := z_Fr.tr (R := R_X11_undo_1) f660 f670 rs_X11_refresh_1__X11_undo_1
              have t677 : s668 33 1 = s658 33 1 := f670 33 1 (by decide)
              have t678 : s668 33 2 = s658 33 2 := f670 33 2 (by decide)
              have u679 := CI_b c669 (k := 191) (j := 16) bd_191_16
              refine T_if1 (by decide +kernel) ?_
              refine T_let 191 (by decide +kernel) ?_
              refine T_if1 (by decide +kernel) ?_
              refine T_leq (fun x680 e681 => ?_)
              have u682 := CI_b c669 (k := 191) (j := 16) bd_191_16
              exact T_ret ⟨c669, f671, (y_V2.u o674), ⟨x680, rfl, by omega, by omega⟩⟩
            · exact T_ret ⟨c646, f648, ⟨r656, Or.inl (by omega)⟩, ⟨(-1), rfl, by omega, by omega⟩⟩
          · refine T_if1 (by decide +kernel) ?_
            refine T_let 87 (by decide +kernel) ?_
            refine T_of (fX2_place_J32.eq_1 ..) ?_
            refine T_rR ?_
            refine T_if1 (by decide) ?_
            refine T_if1 (by decide +kernel) ?_
            refine T_useN (sf_X9_copyFrom_6_87 hfu s509 c510) (fun v688 s683 hq => ?_)
            obtain ⟨c684, f685, rfl⟩ := hq
            refine T_vN ?_
            have f686 := z_Fr.tr (R := R_X11_undo_1) f511 f685 rs_X9_copyFrom_6_87__X11_undo_1
            have t691 : s683 33 1 = s509 33 1 := f685 33 1 (by decide)
            have t692 : s683 33 2 = s509 33 2 := f685 33 2 (by decide)
            have t693 : s683 191 16 = s509 191 16 := f685 191 16 (by decide)
            have r694 := y_B0.fr r518 (f685 211 0 (by decide)) (f685 213 0 (by decide))
            refine T_if1 (by unfold z_bl; omega) ?_
            refine T_rI ?_
            refine T_ite (fun h695 => ?_) (fun h695 => ?_)
            · refine T_if1 ⟨(by decide +kernel), by unfold z_bl; omega⟩ ?_
              refine T_upg c684 bd_1_16 (by omega) (fun s696 c697 g699 g700 e701 => ?_)
              have f698 := z_Fr.upf (R := R_X11_undo_1) f686 g699 g700 (Or.inr (Or.inr (Or.inr (Or.inr (Or.inr (Or.inr (Or.inr (Or.inr (Or.inr (Or.inl (⟨rfl, by decide⟩)))))))))))
              have t702 : s696 33 1 = s683 33 1 := g699 33 1 (by decide)
              have t703 : s696 33 2 = s683 33 2 := g699 33 2 (by decide)
              have t704 : s696 191 16 = s683 191 16 := g699 191 16 (by decide)
              have r705 := y_B0.fr r694 (g699 211 0 (by decide)) (g699 213 0 (by decide))
              refine T_if1 (by decide +kernel) ?_
              refine T_useN (sf_X11_refresh_1D hfu s696 c697 ⟨r705, Or.inl (by omega)⟩) (fun v711 s706 hq => ?_)
              obtain ⟨c707, f708, o712, rfl⟩ := hq
              refine T_vN ?_
              have f709 := z_Fr.tr (R := R_X11_undo_1) f698 f708 rs_X11_refresh_1__X11_undo_1
              have t715 : s706 33 1 = s696 33 1 := f708 33 1 (by decide)
              have t716 : s706 33 2 = s696 33 2 := f708 33 2 (by decide)
              have u717 := CI_b c707 (k := 191) (j := 16) bd_191_16
              refine T_if1 (by decide +kernel) ?_
              refine T_let 191 (by decide +kernel) ?_
              refine T_if1 (by decide +kernel) ?_
              refine T_leq (fun x718 e719 => ?_)
              have u720 := CI_b c707 (k := 191) (j := 16) bd_191_16
              exact T_ret ⟨c707, f709, (y_V2.u o712), ⟨x718, rfl, by omega, by omega⟩⟩
            · exact T_ret ⟨c684, f686, ⟨r694, Or.inl (by omega)⟩, ⟨(-1), rfl, by omega, by omega⟩⟩
          · refine T_if1 (by decide +kernel) ?_
            refine T_let 100 (by decide +kernel) ?_
            refine T_of (fX2_place_J32.eq_1 ..) ?_
            refine T_rR ?_
            refine T_if1 (by decide) ?_
            refine T_if1 (by decide +kernel) ?_
            refine T_useN (sf_X9_copyFrom_6_100 hfu s509 c510) (fun v726 s721 hq => ?_)
            obtain ⟨c722, f723, rfl⟩ := hq
            refine T_vN ?_
            have f724 := z_Fr.tr (R := R_X11_undo_1) f511 f723 rs_X9_copyFrom_6_100__X11_undo_1
            have t729 : s721 33 1 = s509 33 1 := f723 33 1 (by decide)
            have t730 : s721 33 2 = s509 33 2 := f723 33 2 (by decide)
            have t731 : s721 191 16 = s509 191 16 := f723 191 16 (by decide)
            have r732 := y_B0.fr r518 (f723 211 0 (by decide)) (f723 213 0 (by decide))
            refine T_if1 (by unfold z_bl; omega) ?_
            refine T_rI ?_
            refine T_ite (fun h733 => ?_) (fun h733 => ?_)
            · refine T_if1 ⟨(by decide +kernel), by unfold z_bl; omega⟩ ?_
              refine T_upg c722 bd_1_16 (by omega) (fun s734 c735 g737 g738 e739 => ?_)
              have f736 := z_Fr.upf (R := R_X11_undo_1) f724 g737 g738 (Or.inr (Or.inr (Or.inr (Or.inr (Or.inr (Or.inr (Or.inr (Or.inr (Or.inr (Or.inl (⟨rfl, by decide⟩)))))))))))
              have t740 : s734 33 1 = s721 33 1 := g737 33 1 (by decide)
              have t741 : s734 33 2 = s721 33 2 := g737 33 2 (by decide)
              have t742 : s734 191 16 = s721 191 16 := g737 191 16 (by decide)
              have r743 := y_B0.fr r732 (g737 211 0 (by decide)) (g737 213 0 (by decide))
              refine T_if1 (by decide +kernel) ?_
              refine T_useN (sf_X11_refresh_1D hfu s734 c735 ⟨r743, Or.inl (by omega)⟩) (fun v749 s744 hq => ?_)
              obtain ⟨c745, f746, o750, rfl⟩ := hq
              refine T_vN ?_
              have f747 := z_Fr.tr (R := R_X11_undo_1) f736 f746 rs_X11_refresh_1__X11_undo_1
              have t753 : s744 33 1 = s734 33 1 := f746 33 1 (by decide)
              have t754 : s744 33 2 = s734 33 2 := f746 33 2 (by decide)
              have u755 := CI_b c745 (k := 191) (j := 16) bd_191_16
              refine T_if1 (by decide +kernel) ?_
              refine T_let 191 (by decide +kernel) ?_
              refine T_if1 (by decide +kernel) ?_
              refine T_leq (fun x756 e757 => ?_)
              have u758 := CI_b c745 (k := 191) (j := 16) bd_191_16
              exact T_ret ⟨c745, f747, (y_V2.u o750), ⟨x756, rfl, by omega, by omega⟩⟩
            · exact T_ret ⟨c722, f724, ⟨r732, Or.inl (by omega)⟩, ⟨(-1), rfl, by omega, by omega⟩⟩
          · refine T_if1 (by decide +kernel) ?_
            refine T_let 113 (by decide +kernel) ?_
            refine T_of (fX2_place_J32.eq_1 ..) ?_
            refine T_rR ?_
            refine T_if1 (by decide) ?_
            refine T_if1 (by decide +kernel) ?_
            refine T_useN (sf_X9_copyFrom_6_113 hfu s509 c510) (fun v764 s759 hq => ?_)
            obtain ⟨c760, f761, rfl⟩ := hq
            refine T_vN ?_
            have f762 := z_Fr.tr (R := R_X11_undo_1) f511 f761 rs_X9_copyFrom_6_113__X11_undo_1
            have t767 : s759 33 1 = s509 33 1 := f761 33 1 (by decide)
            have t768 : s759 33 2 = s509 33 2 := f761 33 2 (by decide)
            have t769 : s759 191 16 = s509 191 16 := f761 191 16 (by decide)
            have r770 := y_B0.fr r518 (f761 211 0 (by decide)) (f761 213 0 (by decide))
            refine T_if1 (by unfold z_bl; omega) ?_
            refine T_rI ?_
            refine T_ite (fun h771 => ?_) (fun h771 => ?_)
            · refine T_if1 ⟨(by decide +kernel), by unfold z_bl; omega⟩ ?_
              refine T_upg c760 bd_1_16 (by omega) (fun s772 c773 g775 g776 e777 => ?_)
              have f774 := z_Fr.upf (R := R_X11_undo_1) f762 g775 g776 (Or.inr (Or.inr (Or.inr (Or.inr (Or.inr (Or.inr (Or.inr (Or.inr (Or.inr (Or.inl (⟨rfl, by decide⟩)))))))))))
              have t778 : s772 33 1 = s759 33 1 := g775 33 1 (by decide)
              have t779 : s772 33 2 = s759 33 2 := g775 33 2 (by decide)
              have t780 : s772 191 16 = s759 191 16 := g775 191 16 (by decide)
              have r781 := y_B0.fr r770 (g775 211 0 (by decide)) (g775 213 0 (by decide))
              refine T_if1 (by decide +kernel) ?_
              refine T_useN (sf_X11_refresh_1D hfu s772 c773 ⟨r781, Or.inl (by omega)⟩) (fun v787 s782 hq => ?_)
              obtain ⟨c783, f784, o788, rfl⟩ := hq
              refine T_vN ?_
              have f785 := z_Fr.tr (R := R_X11_undo_1) f774 f784 rs_X11_refresh_1__X11_undo_1
              have t791 : s782 33 1 = s772 33 1 := f784 33 1 (by decide)
              have t792 : s782 33 2 = s772 33 2 := f784 33 2 (by decide)
              have u793 := CI_b c783 (k := 191) (j := 16) bd_191_16
              refine T_if1 (by decide +kernel) ?_
              refine T_let 191 (by decide +kernel) ?_
              refine T_if1 (by decide +kernel) ?_
              refine T_leq (fun x794 e795 => ?_)
              have u796 := CI_b c783 (k := 191) (j := 16) bd_191_16
              exact T_ret ⟨c783, f785, (y_V2.u o788), ⟨x794, rfl, by omega, by omega⟩⟩
            · exact T_ret ⟨c760, f762, ⟨r770, Or.inl (by omega)⟩, ⟨(-1), rfl, by omega, by omega⟩⟩
          · refine T_if1 (by decide +kernel) ?_
            refine T_let 126 (by decide +kernel) ?_
            refine T_of (fX2_place_J32.eq_1 ..) ?_
            refine T_rR ?_
            refine T_if1 (by decide) ?_
            refine T_if1 (by decide +kernel) ?_
            refine T_useN (sf_X9_copyFrom_6_126 hfu s509 c510) (fun v802 s797 hq => ?_)
            obtain ⟨c798, f799, rfl⟩ := hq
            refine T_vN ?_
            have f800 := z_Fr.tr (R := R_X11_undo_1) f511 f799 rs_X9_copyFrom_6_126__X11_undo_1
            have t805 : s797 33 1 = s509 33 1 := f799 33 1 (by decide)
            have t806 : s797 33 2 = s509 33 2 := f799 33 2 (by decide)
            have t807 : s797 191 16 = s509 191 16 := f799 191 16 (by decide)
            have r808 := y_B0.fr r518 (f799 211 0 (by decide)) (f799 213 0 (by decide))
            refine T_if1 (by unfold z_bl; omega) ?_
            refine T_rI ?_
            refine T_ite (fun h809 => ?_) (fun h809 => ?_)
            · refine T_if1 ⟨(by decide +kernel), by unfold z_bl; omega⟩ ?_
              refine T_upg c798 bd_1_16 (by omega) (fun s810 c811 g813 g814 e815 => ?_)
              have f812 := z_Fr.upf (R := R_X11_undo_1) f800 g813 g814 (Or.inr (Or.inr (Or.inr (Or.inr (Or.inr (Or.inr (Or.inr (Or.inr (Or.inr (Or.inl (⟨rfl, by decide⟩)))))))))))
              have t816 : s810 33 1 = s797 33 1 := g813 33 1 (by decide)
              have t817 : s810 33 2 = s797 33 2 := g813 33 2 (by decide)
              have t818 : s810 191 16 = s797 191 16 := g813 191 16 (by decide)
              have r819 := y_B0.fr r808 (g813 211 0 (by decide)) (g813 213 0 (by decide))
              refine T_if1 (by decide +kernel) ?_
              refine T_useN (sf_X11_refresh_1D hfu s810 c811 ⟨r819, Or.inl (by omega)⟩) (fun v825 s820 hq => ?_)
              obtain ⟨c821, f822, o826, rfl⟩ := hq
              refine T_vN ?_
              have f823 := z_Fr.tr (R := R_X11_undo_1) f812 f822 rs_X11_refresh_1__X11_undo_1
              have t829 : s820 33 1 = s810 33 1 := f822 33 1 (by decide)
              have t830 : s820 33 2 = s810 33 2 := f822 33 2 (by decide)
              have u831 := CI_b c821 (k := 191) (j := 16) bd_191_16
              refine T_if1 (by decide +kernel) ?_
              refine T_let 191 (by decide +kernel) ?_
              refine T_if1 (by decide +kernel) ?_
              refine T_leq (fun x832 e833 => ?_)
              have u834 := CI_b c821 (k := 191) (j := 16) bd_191_16
              exact T_ret ⟨c821, f823, (y_V2.u o826), ⟨x832, rfl, by omega, by omega⟩⟩
            · exact T_ret ⟨c798, f800, ⟨r808, Or.inl (by omega)⟩, ⟨(-1), rfl, by omega, by omega⟩⟩
          · refine T_if1 (by decide +kernel) ?_
            refine T_let 139 (by decide +kernel) ?_
            refine T_of (fX2_place_J32.eq_1 ..) ?_
            refine T_rR ?_
            refine T_if1 (by decide) ?_
            refine T_if1 (by decide +kernel) ?_
            refine T_useN (sf_X9_copyFrom_6_139 hfu s509 c510) (fun v840 s835 hq => ?_)
            obtain ⟨c836, f837, rfl⟩ := hq
            refine T_vN ?_
            have f838 := z_Fr.tr (R := R_X11_undo_1) f511 f837 rs_X9_copyFrom_6_139__X11_undo_1
            have t843 : s835 33 1 = s509 33 1 := f837 33 1 (by decide)
            have t844 : s835 33 2 = s509 33 2 := f837 33 2 (by decide)
            have t845 : s835 191 16 = s509 191 16 := f837 191 16 (by decide)
            have r846 := y_B0.fr r518 (f837 211 0 (by decide)) (f837 213 0 (by decide))
            refine T_if1 (by unfold z_bl; omega) ?_
            refine T_rI ?_
            refine T_ite (fun h847 => ?_) (fun h847 => ?_)
            · refine T_if1 ⟨(by decide +kernel), by unfold z_bl; omega⟩ ?_
              refine T_upg c836 bd_1_16 (by omega) (fun s848 c849 g851 g852 e853 => ?_)
              have f850 := z_Fr.upf (R := R_X11_undo_1) f838 g851 g852 (Or.inr (Or.inr (Or.inr (Or.inr (Or.inr (Or.inr (Or.inr (Or.inr (Or.inr (Or.inl (⟨rfl, by decide⟩)))))))))))
              have t854 : s848 33 1 = s835 33 1 := g851 33 1 (by decide)
              have t855 : s848 33 2 = s835 33 2 := g851 33 2 (by decide)
              have t856 : s848 191 16 = s835 191 16 := g851 191 16 (by decide)
              have r857 := y_B0.fr r846 (g851 211 0 (by decide)) (g851 213 0 (by decide))
              refine T_if1 (by decide +kernel) ?_
              refine T_useN (sf_X11_refresh_1D hfu s848 c849 ⟨r857, Or.inl (by omega)⟩) (fun v863 s858 hq => ?_)
              obtain ⟨c859, f860, o864, rfl⟩ := hq
              refine T_vN ?_
              have f861 := z_Fr.tr (R := R_X11_undo_1) f850 f860 rs_X11_refresh_1__X11_undo_1
              have t867 : s858 33 1 = s848 33 1 := f860 33 1 (by decide)
              have t868 : s858 33 2 = s848 33 2 := f860 33 2 (by decide)
              have u869 := CI_b c859 (k := 191) (j := 16) bd_191_16
              refine T_if1 (by decide +kernel) ?_
              refine T_let 191 (by decide +kernel) ?_
              refine T_if1 (by decide +kernel) ?_
              refine T_leq (fun x870 e871 => ?_)
              have u872 := CI_b c859 (k := 191) (j := 16) bd_191_16
              exact T_ret ⟨c859, f861, (y_V2.u o864), ⟨x870, rfl, by omega, by omega⟩⟩
            · exact T_ret ⟨c836, f838, ⟨r846, Or.inl (by omega)⟩, ⟨(-1), rfl, by omega, by omega⟩⟩
          · refine T_if1 (by decide +kernel) ?_
            refine T_let 152 (by decide +kernel) ?_
            refine T_of (fX2_place_J32.eq_1 ..) ?_
            refine T_rR ?_
            refine T_if1 (by decide) ?_
            refine T_if1 (by decide +kernel) ?_
            refine T_useN (sf_X9_copyFrom_6_152 hfu s509 c510) (fun v878 s873 hq => ?_)
            obtain ⟨c874, f875, rfl⟩ := hq
            refine T_vN ?_
            have f876 := z_Fr.tr (R := R_X11_undo_1) f511 f875 rs_X9_copyFrom_6_152__X11_undo_1
            have t881 : s873 33 1 = s509 33 1 := f875 33 1 (by decide)
            have t882 : s873 33 2 = s509 33 2 := f875 33 2 (by decide)
            have t883 : s873 191 16 = s509 191 16 := f875 191 16 (by decide)
            have r884 := y_B0.fr r518 (f875 211 0 (by decide)) (f875 213 0 (by decide))
            refine T_if1 (by unfold z_bl; omega) ?_
            refine T_rI ?_
            refine T_ite (fun h885 => ?_) (fun h885 => ?_)
            · refine T_if1 ⟨(by decide +kernel), by unfold z_bl; omega⟩ ?_
              refine T_upg c874 bd_1_16 (by omega) (fun s886 c887 g889 g890 e891 => ?_)
              have f888 := z_Fr.upf (R := R_X11_undo_1) f876 g889 g890 (Or.inr (Or.inr (Or.inr (Or.inr (Or.inr (Or.inr (Or.inr (Or.inr (Or.inr (Or.inl (⟨rfl, by decide⟩)))))))))))
              have t892 : s886 33 1 = s873 33 1 := g889 33 1 (by decide)
              have t893 : s886 33 2 = s873 33 2 := g889 33 2 (by decide)
              have t894 : s886 191 16 = s873 191 16 := g889 191 16 (by decide)
              have r895 := y_B0.fr r884 (g889 211 0 (by decide)) (g889 213 0 (by decide))
              refine T_if1 (by decide +kernel) ?_
              refine T_useN (sf_X11_refresh_1D hfu s886 c887 ⟨r895, Or.inl (by omega)⟩) (fun v901 s896 hq => ?_)
              obtain ⟨c897, f898, o902, rfl⟩ := hq
              refine T_vN ?_
              have f899 := z_Fr.tr (R := R_X11_undo_1) f888 f898 rs_X11_refresh_1__X11_undo_1
              have t905 : s896 33 1 = s886 33 1 := f898 33 1 (by decide)
              have t906 : s896 33 2 = s886 33 2 := f898 33 2 (by decide)
              have u907 := CI_b c897 (k := 191) (j := 16) bd_191_16
              refine T_if1 (by decide +kernel) ?_
              refine T_let 191 (by decide +kernel) ?_
              refine T_if1 (by decide +kernel) ?_
              refine T_leq (fun x908 e909 => ?_)
              have u910 := CI_b c897 (k := 191) (j := 16) bd_191_16
              exact T_ret ⟨c897, f899, (y_V2.u o902), ⟨x908, rfl, by omega, by omega⟩⟩
            · exact T_ret ⟨c874, f876, ⟨r884, Or.inl (by omega)⟩, ⟨(-1), rfl, by omega, by omega⟩⟩
          · refine T_if1 (by decide +kernel) ?_
            refine T_let 165 (by decide +kernel) ?_
            refine T_of (fX2_place_J32.eq_1 ..) ?_
            refine T_rR ?_
            refine T_if1 (by decide) ?_
            refine T_if1 (by decide +kernel) ?_
            refine T_useN (sf_X9_copyFrom_6_165 hfu s509 c510) (fun v916 s911 hq => ?_)
            obtain ⟨c912, f913, rfl⟩ := hq
            refine T_vN ?_
            have f914 := z_Fr.tr (R := R_X11_undo_1) f511 f913 rs_X9_copyFrom_6_165__X11_undo_1
            have t919 : s911 33 1 = s509 33 1 := f913 33 1 (by decide)
            have t920 : s911 33 2 = s509 33 2 := f913 33 2 (by decide)
            have t921 : s911 191 16 = s509 191 16 := f913 191 16 (by decide)
            have r922 := y_B0.fr r518 (f913 211 0 (by decide)) (f913 213 0 (by decide))
            refine T_if1 (by unfold z_bl; omega) ?_
            refine T_rI ?_
            refine T_ite (fun h923 => ?_) (fun h923 => ?_)
            · refine T_if1 ⟨(by decide +kernel), by unfold z_bl; omega⟩ ?_
              refine T_upg c912 bd_1_16 (by omega) (fun s924 c925 g927 g928 e929 => ?_)
              have f926 := z_Fr.upf (R := R_X11_undo_1) f914 g927 g928 (Or.inr (Or.inr (Or.inr (Or.inr (Or.inr (Or.inr (Or.inr (Or.inr (Or.inr (Or.inl (⟨rfl, by decide⟩)))))))))))
              have t930 : s924 33 1 = s911 33 1 := g927 33 1 (by decide)
              have t931 : s924 33 2 = s911 33 2 := g927 33 2 (by decide)
              have t932 : s924 191 16 = s911 191 16 := g927 191 16 (by decide)
              have r933 := y_B0.fr r922 (g927 211 0 (by decide)) (g927 213 0 (by decide))
              refine T_if1 (by decide +kernel) ?_
              refine T_useN (sf_X11_refresh_1D hfu s924 c925 ⟨r933, Or.inl (by omega)⟩) (fun v939 s934 hq => ?_)
              obtain ⟨c935, f936, o940, rfl⟩ := hq
              refine T_vN ?_
              have f937 := z_Fr.tr (R := R_X11_undo_1) f926 f936 rs_X11_refresh_1__X11_undo_1
              have t943 : s934 33 1 = s924 33 1 := f936 33 1 (by decide)
              have t944 : s934 33 2 = s924 33 2 := f936 33 2 (by decide)
              have u945 := CI_b c935 (k := 191) (j := 16) bd_191_16
              refine T_if1 (by decide +kernel) ?_
              refine T_let 191 (by decide +kernel) ?_
              refine T_if1 (by decide +kernel) ?_
              refine T_leq (fun x946 e947 => ?_)
              have u948 := CI_b c935 (k := 191) (j := 16) bd_191_16
              exact T_ret ⟨c935, f937, (y_V2.u o940), ⟨x946, rfl, by omega, by omega⟩⟩
            · exact T_ret ⟨c912, f914, ⟨r922, Or.inl (by omega)⟩, ⟨(-1), rfl, by omega, by omega⟩⟩
          · refine T_if1 (by decide +kernel) ?_
            refine T_let 178 (by decide +kernel) ?_
            refine T_of (fX2_place_J32.eq_1 ..) ?_
            refine T_rR ?_
            refine T_if1 (by decide) ?_
            refine T_if1 (by decide +kernel) ?_
            refine T_useN (sf_X9_copyFrom_6_178 hfu s509 c510) (fun v954 s949 hq => ?_)
            obtain ⟨c950, f951, rfl⟩ := hq
            refine T_vN ?_
            have f952 := z_Fr.tr (R := R_X11_undo_1) f511 f951 rs_X9_copyFrom_6_178__X11_undo_1
            have t957 : s949 33 1 = s509 33 1 := f951 33 1 (by decide)
            have t958 : s949 33 2 = s509 33 2 := f951 33 2 (by decide)
            have t959 : s949 191 16 = s509 191 16 := f951 191 16 (by decide)
            have r960 := y_B0.fr r518 (f951 211 0 (by decide)) (f951 213 0 (by decide))
            refine T_if1 (by unfold z_bl; omega) ?_
            refine T_rI ?_
            refine T_ite (fun h961 => ?_) (fun h961 => ?_)
            · refine T_if1 ⟨(by decide +kernel), by unfold z_bl; omega⟩ ?_
              refine T_upg c950 bd_1_16 (by omega) (fun s962 c963 g965 g966 e967 => ?_)
              have f964 := z_Fr.upf (R := R_X11_undo_1) f952 g965 g966 (Or.inr (Or.inr (Or.inr (Or.inr (Or.inr (Or.inr (Or.inr (Or.inr (Or.inr (Or.inl (⟨rfl, by decide⟩)))))))))))
              have t968 : s962 33 1 = s949 33 1 := g965 33 1 (by decide)
              have t969 : s962 33 2 = s949 33 2 := g965 33 2 (by decide)
              have t970 : s962 191 16 = s949 191 16 := g965 191 16 (by decide)
              have r971 := y_B0.fr r960 (g965 211 0 (by decide)) (g965 213 0 (by decide))
              refine T_if1 (by decide +kernel) ?_
              refine T_useN (sf_X11_refresh_1D hfu s962 c963 ⟨r971, Or.inl (by omega)⟩) (fun v977 s972 hq => ?_)
              obtain ⟨c973, f974, o978, rfl⟩ := hq
              refine T_vN ?_
              have f975 := z_Fr.tr (R := R_X11_undo_1) f964 f974 rs_X11_refresh_1__X11_undo_1
              have t981 : s972 33 1 = s962 33 1 := f974 33 1 (by decide)
              have t982 : s972 33 2 = s962 33 2 := f974 33 2 (by decide)
              have u983 := CI_b c973 (k := 191) (j := 16) bd_191_16
              refine T_if1 (by decide +kernel) ?_
              refine T_let 191 (by decide +kernel) ?_
              refine T_if1 (by decide +kernel) ?_
              refine T_leq (fun x984 e985 => ?_)
              have u986 := CI_b c973 (k := 191) (j := 16) bd_191_16
              exact T_ret ⟨c973, f975, (y_V2.u o978), ⟨x984, rfl, by omega, by omega⟩⟩
            · exact T_ret ⟨c950, f952, ⟨r960, Or.inl (by omega)⟩, ⟨(-1), rfl, by omega, by omega⟩⟩
  · refine T_if1 (by unfold z_bl; omega) ?_
    refine T_rI ?_
    refine T_ite (fun h987 => ?_) (fun h987 => ?_)
    · refine T_if1 ⟨(by decide +kernel), by unfold z_bl; omega⟩ ?_
      refine T_upg c0 bd_1_16 (by omega) (fun s988 c989 g991 g992 e993 => ?_)
      have f990 := z_Fr.upf (R := R_X11_undo_1) z_Fr.rf g991 g992 (Or.inr (Or.inr (Or.inr (Or.inr (Or.inr (Or.inr (Or.inr (Or.inr (Or.inr (Or.inl (⟨rfl, by decide⟩)))))))))))
      have t994 : s988 33 1 = r0 33 1 := g991 33 1 (by decide)
      have t995 : s988 33 2 = r0 33 2 := g991 33 2 (by decide)
      have t996 : s988 191 16 = r0 191 16 := g991 191 16 (by decide)
      have r997 := y_B0.fr p0.1 (g991 211 0 (by decide)) (g991 213 0 (by decide))
      refine T_if1 (by decide +kernel) ?_
      refine T_useN (sf_X11_refresh_1D hfu s988 c989 ⟨r997, Or.inl (by omega)⟩) (fun v1003 s998 hq => ?_)
      obtain ⟨c999, f1000, o1004, rfl⟩ := hq
      refine T_vN ?_
      have f1001 := z_Fr.tr (R := R_X11_undo_1) f990 f1000 rs_X11_refresh_1__X11_undo_1
      have t1007 : s998 33 1 = s988 33 1 := f1000 33 1 (by decide)
      have t1008 : s998 33 2 = s988 33 2 := f1000 33 2 (by decide)
      have u1009 := CI_b c999 (k := 191) (j := 16) bd_191_16
      refine T_if1 (by decide +kernel) ?_
      refine T_let 191 (by decide +kernel) ?_
      refine T_if1 (by decide +kernel) ?_
      refine T_leq (fun x1010 e1011 => ?_)
      have u1012 := CI_b c999 (k := 191) (j := 16) bd_191_16
      exact T_ret ⟨c999, f1001, (y_V2.u o1004), ⟨x1010, rfl, by omega, by omega⟩⟩
    · exact T_ret ⟨c0, z_Fr.rf, p0, ⟨(-1), rfl, by omega, by omega⟩⟩
abbrev P_X11_told_1D (r0 : z_M) : z_V → z_M → Prop := fun v s' => z_CI s' ∧ z_Fr R_X11_told_1 r0 s' ∧ (y_V2 s') ∧ ((∃ x, v = vL x ∧ -9223372036854775808 ≤ x ∧ x ≤ 9223372036854775807) ∨ v = vX 1)
theorem nr_X3_longest_258__3 (b : Int) : ¬ R_X3_longest_258 3 b := not_false
theorem nr_X3_longest_258__16 (b : Int) : ¬ R_X3_longest_258 16 b := not_false
theorem nr_X3_longest_258__18 (b : Int) : ¬ R_X3_longest_258 18 b := not_false
theorem nr_X3_longest_258__199 (b : Int) : ¬ R_X3_longest_258 199 b := not_false
theorem nr_X3_longest_258__201 (b : Int) : ¬ R_X3_longest_258 201 b := not_false
theorem nr_X3_longest_258__203 (b : Int) : ¬ R_X3_longest_258 203 b := not_false
theorem nr_X3_longest_258__205 (b : Int) : ¬ R_X3_longest_258 205 b := not_false
theorem nr_X3_longest_258__207 (b : Int) : ¬ R_X3_longest_258 207 b := not_false
theorem nr_X3_longest_258__209 (b : Int) : ¬ R_X3_longest_258 209 b := not_false
theorem nr_X3_longest_258__211 (b : Int) : ¬ R_X3_longest_258 211 b := not_false
theorem nr_X3_longest_258__213 (b : Int) : ¬ R_X3_longest_258 213 b := not_false
theorem nr_X3_longest_258__217 (b : Int) : ¬ R_X3_longest_258 217 b := not_false
theorem nr_X3_longest_258__219 (b : Int) : ¬ R_X3_longest_258 219 b := not_false
theorem nr_X1_costs_240__3 (b : Int) : ¬ R_X1_costs_240 3 b := by
  unfold R_X1_costs_240; omega
theorem nr_X1_costs_240__16 (b : Int) : ¬ R_X1_costs_240 16 b := by
  unfold R_X1_costs_240; omega
theorem nr_X1_costs_240__18 (b : Int) : ¬ R_X1_costs_240 18 b := by
  unfold R_X1_costs_240; omega
theorem nr_X1_costs_240__199 (b : Int) : ¬ R_X1_costs_240 199 b := by
  unfold R_X1_costs_240; omega
theorem nr_X1_costs_240__201 (b : Int) : ¬ R_X1_costs_240 201 b := by
  unfold R_X1_costs_240; omega
theorem nr_X1_costs_240__203 (b : Int) : ¬ R_X1_costs_240 203 b := by
  unfold R_X1_costs_240; omega
theorem nr_X1_costs_240__205 (b : Int) : ¬ R_X1_costs_240 205 b := by
  unfold R_X1_costs_240; omega
theorem nr_X1_costs_240__207 (b : Int) : ¬ R_X1_costs_240 207 b := by
  unfold R_X1_costs_240; omega
theorem nr_X1_costs_240__209 (b : Int) : ¬ R_X1_costs_240 209 b := by
  unfold R_X1_costs_240; omega
theorem nr_X1_costs_240__211 (b : Int) : ¬ R_X1_costs_240 211 b := by
  unfold R_X1_costs_240; omega
theorem nr_X1_costs_240__213 (b : Int) : ¬ R_X1_costs_240 213 b := by
  unfold R_X1_costs_240; omega
theorem nr_X1_costs_240__217 (b : Int) : ¬ R_X1_costs_240 217 b := by
  unfold R_X1_costs_240; omega
theorem nr_X1_costs_240__219 (b : Int) : ¬ R_X1_costs_240 219 b := by
  unfold R_X1_costs_240; omega
theorem nr_X1_tooLong_240__3 (b : Int) : ¬ R_X1_tooLong_240 3 b := by
  unfold R_X1_tooLong_240; omega
theorem nr_X1_tooLong_240__16 (b : Int) : ¬ R_X1_tooLong_240 16 b := by
  unfold R_X1_tooLong_240; omega
theorem nr_X1_tooLong_240__18 (b : Int) : ¬ R_X1_tooLong_240 18 b := by
  unfold R_X1_tooLong_240; omega
theorem nr_X1_tooLong_240__199 (b : Int) : ¬ R_X1_tooLong_240 199 b := by
  unfold R_X1_tooLong_240; omega
theorem nr_X1_tooLong_240__201 (b : Int) : ¬ R_X1_tooLong_240 201 b := by
  unfold R_X1_tooLong_240; omega
theorem nr_X1_tooLong_240__203 (b : Int) : ¬ R_X1_tooLong_240 203 b := by
  unfold R_X1_tooLong_240; omega
theorem nr_X1_tooLong_240__205 (b : Int) : ¬ R_X1_tooLong_240 205 b := by
  unfold R_X1_tooLong_240; omega
theorem nr_X1_tooLong_240__207 (b : Int) : ¬ R_X1_tooLong_240 207 b := by
  unfold R_X1_tooLong_240; omega
theorem nr_X1_tooLong_240__209 (b : Int) : ¬ R_X1_tooLong_240 209 b := by
  unfold R_X1_tooLong_240; omega
theorem nr_X1_tooLong_240__211 (b : Int) : ¬ R_X1_tooLong_240 211 b := by
  unfold R_X1_tooLong_240; omega
theorem nr_X1_tooLong_240__213 (b : Int) : ¬ R_X1_tooLong_240 213 b := by
  unfold R_X1_tooLong_240; omega
theorem nr_X1_tooLong_240__217 (b : Int) : ¬ R_X1_tooLong_240 217 b := by
  unfold R_X1_tooLong_240; omega
theorem nr_X1_tooLong_240__219 (b : Int) : ¬ R_X1_tooLong_240 219 b := by
  unfold R_X1_tooLong_240; omega
set_option maxHeartbeats 4000000 in
theorem sf_X11_told_1D {fu : Nat} (hfu : 8589934592 ≤ fu) (r0 : z_M) (c0 : z_CI r0) (a1 : Int) (b1 : -2147483648 ≤ a1 ∧ a1 ≤ 2147483647) (p0 : y_V2 r0) : z_T (fX11_told fu r0 1 a1) (P_X11_told_1D r0) := by
  refine T_of (fX11_told.eq_1 ..) ?_
  refine T_if1 (by decide +kernel) ?_
  refine T_nw ?_ (fun h1 h2 => ?_)
  · exact T_ret ⟨CI_up c0 bd_1_15 (z_wb rfl).1, z_Fr.upf (R := R_X11_told_1) z_Fr.rf (fun a b h => z_up_k h) (fun b h => z_up_j h) (Or.inr (Or.inr (Or.inr (Or.inr (Or.inr (Or.inr (Or.inr (Or.inl (⟨rfl, by decide⟩))))))))), y_V2.fr p0 (z_up_j (by decide)) (z_up_k (by decide)) (z_up_k (by decide)) (z_up_k (by decide)) (z_up_k (by decide)) (fun _ => z_up_k (by decide)) (fun _ => z_up_k (by decide)) (fun _ => z_up_k (by decide)) (fun _ => z_up_k (by decide)) (fun _ => z_up_k (by decide)) (fun _ => z_up_k (by decide)) (fun _ => z_up_k (by decide)) (fun _ => z_up_k (by decide)) (fun _ => z_up_k (by decide)) (fun _ => z_up_k (by decide)) (fun _ => z_up_k (by decide)) (fun _ => z_up_k (by decide)) (fun _ => z_up_k (by decide)) (fun _ => z_up_k (by decide)) (fun _ => z_up_k (by decide)) (fun _ => z_up_k (by decide)) (fun _ => z_up_k (by decide)) (fun _ => z_up_k (by decide)) (fun _ => z_up_k (by decide)) (fun _ => z_up_k (by decide)), Or.inr rfl⟩
  refine T_if1 (by decide +kernel) ?_
  refine T_useN (sf_X11_refresh_1D hfu r0 c0 p0) (fun v8 s3 hq => ?_)
  obtain ⟨c4, f5, o9, rfl⟩ := hq
  refine T_vN ?_
  have f6 := z_Fr.tr (R := R_X11_told_1) z_Fr.rf f5 rs_X11_refresh_1__X11_told_1
  have t12 : s3 1 12 = r0 1 12 := f5 1 12 (by decide)
  have t13 : s3 6 6 = r0 6 6 := f5 6 6 (by decide)
  have t14 : s3 6 7 = r0 6 7 := f5 6 7 (by decide)
  have t15 : s3 33 2 = r0 33 2 := f5 33 2 (by decide)
  have u16 := CI_b c4 (k := 191) (j := 16) bd_191_16
  have u17 := CI_b c4 (k := 191) (j := 17) bd_191_17
  have u18 := CI_b c4 (k := 191) (j := 18) bd_191_18
  have u19 := CI_b c4 (k := 240) (j := 6) bd_240_6
  refine T_ite (fun h20 => ?_) (fun h20 => ?_)
  · refine T_if1 (by decide +kernel) ?_
    refine T_let 191 (by decide +kernel) ?_
    refine T_if1 (by decide +kernel) ?_
    refine T_leq (fun x21 e22 => ?_)
    have u23 := CI_b c4 (k := 191) (j := 16) bd_191_16
    exact T_ret ⟨c4, f6, (y_V2.u o9), Or.inl (⟨x21, rfl, by omega, by omega⟩)⟩
  · refine T_ite (fun h24 => ?_) (fun h24 => ?_)
    · refine T_if1 (by decide +kernel) ?_
      refine T_let 6 (by decide +kernel) ?_
      refine T_if1 (by decide +kernel) ?_
      refine T_leq (fun x25 e26 => ?_)
      have u27 := CI_b c4 (k := 6) (j := 6) bd_6_6
      exact T_ret ⟨c4, f6, (y_V2.u o9), Or.inl (⟨x25, rfl, by omega, by omega⟩)⟩
    · refine T_ite (fun h28 => ?_) (fun h28 => ?_)
      · refine T_if1 (by decide +kernel) ?_
        refine T_let 6 (by decide +kernel) ?_
        refine T_if1 (by decide +kernel) ?_
        refine T_leq (fun x29 e30 => ?_)
        have u31 := CI_b c4 (k := 6) (j := 7) bd_6_7
        exact T_ret ⟨c4, f6, (y_V2.u o9), Or.inl (⟨x29, rfl, by omega, by omega⟩)⟩
      · refine T_ite (fun h32 => ?_) (fun h32 => ?_)
        · refine T_if1 (by decide +kernel) ?_
          refine T_let 240 (by decide +kernel) ?_
          refine T_if1 (by decide +kernel) ?_
          refine T_leq (fun x33 e34 => ?_)
          have u35 := CI_b c4 (k := 240) (j := 6) bd_240_6
          exact T_ret ⟨c4, f6, (y_V2.u o9), Or.inl (⟨x33, rfl, by omega, by omega⟩)⟩
        · refine T_ite (fun h36 => ?_) (fun h36 => ?_)
          · refine T_if1 (by decide +kernel) ?_
            refine T_let 258 (by decide +kernel) ?_
            refine T_if1 (by decide +kernel) ?_
            refine T_useI (sf_X3_longest_258 hfu s3 c4) (fun v42 s37 hq => ?_)
            obtain ⟨c38, f39, ⟨x41, rfl, b43, b44⟩⟩ := hq
            refine T_vI ?_
            have f40 := z_Fr.tr (R := R_X11_told_1) f6 f39 (fun a b h => absurd h not_false)
            have t45 : s37 1 12 = s3 1 12 := f39 1 12 (by decide)
            have t46 : s37 6 6 = s3 6 6 := f39 6 6 (by decide)
            have t47 : s37 6 7 = s3 6 7 := f39 6 7 (by decide)
            have t48 : s37 33 2 = s3 33 2 := f39 33 2 (by decide)
            have t49 : s37 191 16 = s3 191 16 := f39 191 16 (by decide)
            have t50 : s37 191 17 = s3 191 17 := f39 191 17 (by decide)
            have t51 : s37 191 18 = s3 191 18 := f39 191 18 (by decide)
            have t52 : s37 240 6 = s3 240 6 := f39 240 6 (by decide)
            have r53 := y_U2.fr o9 (f39 191 16 (by decide)) (f39 6 6 (by decide)) (f39 191 17 (by decide)) (f39 191 18 (by decide)) (fun b => f39 3 b (nr_X3_longest_258__3 b)) (fun b => f39 8 b (nr_X3_longest_258__8 b)) (fun b => f39 12 b (nr_X3_longest_258__12 b)) (fun b => f39 14 b (nr_X3_longest_258__14 b)) (fun b => f39 16 b (nr_X3_longest_258__16 b)) (fun b => f39 18 b (nr_X3_longest_258__18 b)) (fun b => f39 193 b (nr_X3_longest_258__193 b)) (fun b => f39 195 b (nr_X3_longest_258__195 b)) (fun b => f39 197 b (nr_X3_longest_258__197 b)) (fun b => f39 199 b (nr_X3_longest_258__199 b)) (fun b => f39 201 b (nr_X3_longest_258__201 b)) (fun b => f39 203 b (nr_X3_longest_258__203 b)) (fun b => f39 205 b (nr_X3_longest_258__205 b)) (fun b => f39 207 b (nr_X3_longest_258__207 b)) (fun b => f39 209 b (nr_X3_longest_258__209 b)) (fun b => f39 211 b (nr_X3_longest_258__211 b)) (fun b => f39 213 b (nr_X3_longest_258__213 b)) (fun b => f39 215 b (nr_X3_longest_258__215 b)) (fun b => f39 217 b (nr_X3_longest_258__217 b)) (fun b => f39 219 b (nr_X3_longest_258__219 b))
            have r54 := y_B0.fr o9.1 (f39 211 0 (by decide)) (f39 213 0 (by decide))
            exact T_ret ⟨c38, f40, (y_V2.u r53), Or.inl (⟨x41, rfl, by omega, by omega⟩)⟩
          · refine T_ite (fun h55 => ?_) (fun h55 => ?_)
            · refine T_if1 (by decide +kernel) ?_
              refine T_let 240 (by decide +kernel) ?_
              refine T_if1 (by decide +kernel) ?_
              refine T_let 2 (by decide +kernel) ?_
              refine T_if1 (by decide +kernel) ?_
              refine T_get (by decide +kernel) (c := 3) (by decide +kernel) bdr_3 (by decide) c4 (fun x56 e57 b58 w59 => ?_)
              have l60 : z_ln 2 = 9 := by decide +kernel
              refine T_if1 (by decide +kernel) ?_
              refine T_useL (sf_X1_costs_240 hfu s3 c4 x56 (by omega)) (fun v66 s61 hq => ?_)
              obtain ⟨c62, f63, ⟨x65, rfl, b67, b68⟩⟩ := hq
              refine T_vL ?_
              have f64 := z_Fr.tr (R := R_X11_told_1) f6 f63 rs_X1_costs_240__X11_told_1
              have t69 : s61 1 12 = s3 1 12 := f63 1 12 (by decide)
              have t70 : s61 6 6 = s3 6 6 := f63 6 6 (by decide)
              have t71 : s61 6 7 = s3 6 7 := f63 6 7 (by decide)
              have t72 : s61 33 2 = s3 33 2 := f63 33 2 (by decide)
              have t73 : s61 191 16 = s3 191 16 := f63 191 16 (by decide)
              have t74 : s61 191 17 = s3 191 17 := f63 191 17 (by decide)
              have t75 : s61 191 18 = s3 191 18 := f63 191 18 (by decide)
              have t76 : s61 240 6 = s3 240 6 := f63 240 6 (by decide)
              have r77 := y_U2.fr o9 (f63 191 16 (by decide)) (f63 6 6 (by decide)) (f63 191 17 (by decide)) (f63 191 18 (by decide)) (fun b => f63 3 b (nr_X1_costs_240__3 b)) (fun b => f63 8 b (nr_X1_costs_240__8 b)) (fun b => f63 12 b (nr_X1_costs_240__12 b)) (fun b => f63 14 b (nr_X1_costs_240__14 b)) (fun b => f63 16 b (nr_X1_costs_240__16 b)) (fun b => f63 18 b (nr_X1_costs_240__18 b)) (fun b => f63 193 b (nr_X1_costs_240__193 b)) (fun b => f63 195 b (nr_X1_costs_240__195 b)) (fun b => f63 197 b (nr_X1_costs_240__197 b)) (fun b => f63 199 b (nr_X1_costs_240__199 b)) (fun b => f63 201 b (nr_X1_costs_240__201 b)) (fun b => f63 203 b (nr_X1_costs_240__203 b)) (fun b => f63 205 b (nr_X1_costs_240__205 b)) (fun b => f63 207 b (nr_X1_costs_240__207 b)) (fun b => f63 209 b (nr_X1_costs_240__209 b)) (fun b => f63 211 b (nr_X1_costs_240__211 b)) (fun b => f63 213 b (nr_X1_costs_240__213 b)) (fun b => f63 215 b (nr_X1_costs_240__215 b)) (fun b => f63 217 b (nr_X1_costs_240__217 b)) (fun b => f63 219 b (nr_X1_costs_240__219 b))
              have r78 := y_B0.fr o9.1 (f63 211 0 (by decide)) (f63 213 0 (by decide))
              exact T_ret ⟨c62, f64, (y_V2.u r77), Or.inl (⟨x65, rfl, by omega, by omega⟩)⟩
            · refine T_ite (fun h79 => ?_) (fun h79 => ?_)
              · refine T_if1 (by decide +kernel) ?_
                refine T_let 2 (by decide +kernel) ?_
                refine T_leq (fun x80 e81 => ?_)
                have w82 := z_wr e81
                refine T_if1 (by decide +kernel) ?_
                refine T_get (by decide +kernel) (c := 3) (by decide +kernel) bdr_3 (by decide) c4 (fun x83 e84 b85 w86 => ?_)
                have l87 : z_ln 2 = 9 := by decide +kernel
                exact T_ret ⟨c4, f6, (y_V2.u o9), Or.inl (⟨x83, rfl, by omega, by omega⟩)⟩
              · refine T_ite (fun h88 => ?_) (fun h88 => ?_)
                · refine T_if1 (by decide +kernel) ?_
                  refine T_let 2 (by decide +kernel) ?_
                  refine T_leq (fun x89 e90 => ?_)
                  have w91 := z_wr e90
                  refine T_if1 (by decide +kernel) ?_
                  refine T_get (by decide +kernel) (c := 3) (by decide +kernel) bdr_3 (by decide) c4 (fun x92 e93 b94 w95 => ?_)
                  have l96 : z_ln 2 = 9 := by decide +kernel
                  exact T_ret ⟨c4, f6, (y_V2.u o9), Or.inl (⟨x92, rfl, by omega, by omega⟩)⟩
                · refine T_ite (fun h97 => ?_) (fun h97 => ?_)
                  · refine T_if1 (by decide +kernel) ?_
                    refine T_let 2 (by decide +kernel) ?_
                    refine T_leq (fun x98 e99 => ?_)
                    have w100 := z_wr e99
                    refine T_if1 (by decide +kernel) ?_
                    refine T_get (by decide +kernel) (c := 3) (by decide +kernel) bdr_3 (by decide) c4 (fun x101 e102 b103 w104 => ?_)
                    have l105 : z_ln 2 = 9 := by decide +kernel
                    exact T_ret ⟨c4, f6, (y_V2.u o9), Or.inl (⟨x101, rfl, by omega, by omega⟩)⟩
                  · refine T_ite (fun h106 => ?_) (fun h106 => ?_)
                    · refine T_if1 (by decide +kernel) ?_
                      refine T_let 2 (by decide +kernel) ?_
                      refine T_leq (fun x107 e108 => ?_)
                      have w109 := z_wr e108
                      refine T_if1 (by decide +kernel) ?_
                      refine T_get (by decide +kernel) (c := 3) (by decide +kernel) bdr_3 (by decide) c4 (fun x110 e111 b112 w113 => ?_)
                      have l114 : z_ln 2 = 9 := by decide +kernel
                      exact T_ret ⟨c4, f6, (y_V2.u o9), Or.inl (⟨x110, rfl, by omega, by omega⟩)⟩
                    · refine T_ite (fun h115 => ?_) (fun h115 => ?_)
                      · refine T_if1 (by decide +kernel) ?_
                        refine T_let 2 (by decide +kernel) ?_
                        refine T_leq (fun x116 e117 => ?_)
                        have w118 := z_wr e117
                        refine T_if1 (by decide +kernel) ?_
                        refine T_get (by decide +kernel) (c := 3) (by decide +kernel) bdr_3 (by decide) c4 (fun x119 e120 b121 w122 => ?_)
                        have l123 : z_ln 2 = 9 := by decide +kernel
                        exact T_ret ⟨c4, f6, (y_V2.u o9), Or.inl (⟨x119, rfl, by omega, by omega⟩)⟩
                      · refine T_ite (fun h124 => ?_) (fun h124 => ?_)
                        · refine T_if1 (by decide +kernel) ?_
                          refine T_let 2 (by decide +kernel) ?_
                          refine T_leq (fun x125 e126 => ?_)
                          have w127 := z_wr e126
                          refine T_if1 (by decide +kernel) ?_
                          refine T_get (by decide +kernel) (c := 3) (by decide +kernel) bdr_3 (by decide) c4 (fun x128 e129 b130 w131 => ?_)
                          have l132 : z_ln 2 = 9 := by decide +kernel
                          exact T_ret ⟨c4, f6, (y_V2.u o9), Or.inl (⟨x128, rfl, by omega, by omega⟩)⟩
                        · refine T_ite (fun h133 => ?_) (fun h133 => ?_)
                          · refine T_if1 (by decide +kernel) ?_
                            refine T_let 2 (by decide +kernel) ?_
                            refine T_leq (fun x134 e135 => ?_)
                            have w136 := z_wr e135
                            refine T_if1 (by decide +kernel) ?_
                            refine T_get (by decide +kernel) (c := 3) (by decide +kernel) bdr_3 (by decide) c4 (fun x137 e138 b139 w140 => ?_)
                            have l141 : z_ln 2 = 9 := by decide +kernel
                            exact T_ret ⟨c4, f6, (y_V2.u o9), Or.inl (⟨x137, rfl, by omega, by omega⟩)⟩
                          · refine T_ite (fun h142 => ?_) (fun h142 => ?_)
                            · refine T_if1 (by decide +kernel) ?_
                              refine T_let 33 (by decide +kernel) ?_
                              refine T_if1 (by decide +kernel) ?_
                              refine T_leq (fun x143 e144 => ?_)
                              have u145 := CI_b c4 (k := 33) (j := 2) bd_33_2
                              exact T_ret ⟨c4, f6, (y_V2.u o9), Or.inl (⟨x143, rfl, by omega, by omega⟩)⟩
                            · refine T_ite (fun h146 => ?_) (fun h146 => ?_)
                              · refine T_if1 (by decide +kernel) ?_
                                refine T_leq (fun x147 e148 => ?_)
                                have u149 := CI_b c4 (k := 1) (j := 12) bd_1_12
                                exact T_ret ⟨c4, f6, (y_V2.u o9), Or.inl (⟨x147, rfl, by omega, by omega⟩)⟩
                              · refine T_ite (fun h150 => ?_) (fun h150 => ?_)
                                · refine T_if1 (by decide +kernel) ?_
                                  refine T_let 240 (by decide +kernel) ?_
                                  refine T_if1 (by decide +kernel) ?_
                                  refine T_let 2 (by decide +kernel) ?_
                                  refine T_if1 (by decide +kernel) ?_
                                  refine T_get (by decide +kernel) (c := 3) (by decide +kernel) bdr_3 (by decide) c4 (fun x151 e152 b153 w154 => ?_)
                                  have l155 : z_ln 2 = 9 := by decide +kernel
                                  refine T_if1 (by decide +kernel) ?_
                                  refine T_useI (sf_X1_tooLong_240 hfu s3 c4 x151 (by omega)) (fun v161 s156 hq => ?_)
                                  obtain ⟨c157, f158, ⟨x160, rfl, b162, b163⟩⟩ := hq
                                  refine T_vI ?_
                                  have f159 := z_Fr.tr (R := R_X11_told_1) f6 f158 rs_X1_tooLong_240__X11_told_1
                                  have t164 : s156 1 12 = s3 1 12 := f158 1 12 (by decide)
                                  have t165 : s156 6 6 = s3 6 6 := f158 6 6 (by decide)
                                  have t166 : s156 6 7 = s3 6 7 := f158 6 7 (by decide)
                                  have t167 : s156 33 2 = s3 33 2 := f158 33 2 (by decide)
                                  have t168 : s156 191 16 = s3 191 16 := f158 191 16 (by decide)
                                  have t169 : s156 191 17 = s3 191 17 := f158 191 17 (by decide)
                                  have t170 : s156 191 18 = s3 191 18 := f158 191 18 (by decide)
                                  have t171 : s156 240 6 = s3 240 6 := f158 240 6 (by decide)
                                  have r172 := y_U2.fr o9 (f158 191 16 (by decide)) (f158 6 6 (by decide)) (f158 191 17 (by decide)) (f158 191 18 (by decide)) (fun b => f158 3 b (nr_X1_tooLong_240__3 b)) (fun b => f158 8 b (nr_X1_tooLong_240__8 b)) (fun b => f158 12 b (nr_X1_tooLong_240__12 b)) (fun b => f158 14 b (nr_X1_tooLong_240__14 b)) (fun b => f158 16 b (nr_X1_tooLong_240__16 b)) (fun b => f158 18 b (nr_X1_tooLong_240__18 b)) (fun b => f158 193 b (nr_X1_tooLong_240__193 b)) (fun b => f158 195 b (nr_X1_tooLong_240__195 b)) (fun b => f158 197 b (nr_X1_tooLong_240__197 b)) (fun b => f158 199 b (nr_X1_tooLong_240__199 b)) (fun b => f158 201 b (nr_X1_tooLong_240__201 b)) (fun b => f158 203 b (nr_X1_tooLong_240__203 b)) (fun b => f158 205 b (nr_X1_tooLong_240__205 b)) (fun b => f158 207 b (nr_X1_tooLong_240__207 b)) (fun b => f158 209 b (nr_X1_tooLong_240__209 b)) (fun b => f158 211 b (nr_X1_tooLong_240__211 b)) (fun b => f158 213 b (nr_X1_tooLong_240__213 b)) (fun b => f158 215 b (nr_X1_tooLong_240__215 b)) (fun b => f158 217 b (nr_X1_tooLong_240__217 b)) (fun b => f158 219 b (nr_X1_tooLong_240__219 b))
                                  have r173 := y_B0.fr o9.1 (f158 211 0 (by decide)) (f158 213 0 (by decide))
                                  exact T_ret ⟨c157, f159, (y_V2.u r172), Or.inl (⟨x160, rfl, by omega, by omega⟩)⟩
                                · refine T_ite (fun h174 => ?_) (fun h174 => ?_)
                                  · refine T_if1 (by decide +kernel) ?_
                                    refine T_let 2 (by decide +kernel) ?_
                                    refine T_if1 (by decide +kernel) ?_
                                    refine T_get (by decide +kernel) (c := 3) (by decide +kernel) bdr_3 (by decide) c4 (fun x175 e176 b177 w178 => ?_)
                                    have l179 : z_ln 2 = 9 := by decide +kernel
                                    exact T_ret ⟨c4, f6, (y_V2.u o9), Or.inl (⟨x175, rfl, by omega, by omega⟩)⟩
                                  · refine T_ite (fun h180 => ?_) (fun h180 => ?_)
                                    · refine T_if1 (by decide +kernel) ?_
                                      refine T_let 2 (by decide +kernel) ?_
                                      refine T_if1 (by decide +kernel) ?_
                                      refine T_get (by decide +kernel) (c := 3) (by decide +kernel) bdr_3 (by decide) c4 (fun x181 e182 b183 w184 => ?_)
                                      have l185 : z_ln 2 = 9 := by decide +kernel
                                      exact T_ret ⟨c4, f6, (y_V2.u o9), Or.inl (⟨x181, rfl, by omega, by omega⟩)⟩
                                    · refine T_ite (fun h186 => ?_) (fun h186 => ?_)
                                      · refine T_if1 (by decide +kernel) ?_
                                        refine T_let 191 (by decide +kernel) ?_
                                        refine T_if1 (by decide +kernel) ?_
                                        refine T_leq (fun x187 e188 => ?_)
                                        have u189 := CI_b c4 (k := 191) (j := 17) bd_191_17
                                        exact T_ret ⟨c4, f6, (y_V2.u o9), Or.inl (⟨x187, rfl, by omega, by omega⟩)⟩
                                      · refine T_ite (fun h190 => ?_) (fun h190 => ?_)
                                        · refine T_if1 (by decide +kernel) ?_
                                          refine T_let 191 (by decide +kernel) ?_
                                          refine T_if1 (by decide +kernel) ?_
                                          refine T_leq (fun x191 e192 => ?_)
                                          have u193 := CI_b c4 (k := 191) (j := 18) bd_191_18
                                          exact T_ret ⟨c4, f6, (y_V2.u o9), Or.inl (⟨x191, rfl, by omega, by omega⟩)⟩
                                        · refine T_if1 (by decide +kernel) ?_
                                          refine T_let 2 (by decide +kernel) ?_
                                          refine T_leq (fun x194 e195 => ?_)
                                          have w196 := z_wr e195
                                          refine T_if1 (by decide +kernel) ?_
                                          refine T_get (by decide +kernel) (c := 3) (by decide +kernel) bdr_3 (by decide) c4 (fun x197 e198 b199 w200 => ?_)
                                          have l201 : z_ln 2 = 9 := by decide +kernel
                                          exact T_ret ⟨c4, f6, (y_V2.u o9), Or.inl (⟨x197, rfl, by omega, by omega⟩)⟩
abbrev P_X11_unit_1D (r0 : z_M) : z_V → z_M → Prop := fun v s' => z_CI s' ∧ z_Fr R_X11_unit_1 r0 s' ∧ (y_V2 s') ∧ ((∃ x, v = vI x ∧ -2147483648 ≤ x ∧ x ≤ 2147483647) ∨ v = vX 0 ∨ v = vX 1)
theorem sf_X11_unit_1D {fu : Nat} (hfu : 8589934592 ≤ fu) (r0 : z_M) (c0 : z_CI r0) (a1 : Int) (a2 : Int) (b1 : -2147483648 ≤ a1 ∧ a1 ≤ 2147483647) (b2 : -2147483648 ≤ a2 ∧ a2 ≤ 2147483647) (p0 : y_V2 r0) : z_T (fX11_unit fu r0 1 a1 a2) (P_X11_unit_1D r0) := by
  refine T_of (fX11_unit.eq_1 ..) ?_
  refine T_if1 (by decide +kernel) ?_
  refine T_useN (sf_X11_refresh_1D hfu r0 c0 p0) (fun v6 s1 hq => ?_)
  obtain ⟨c2, f3, o7, rfl⟩ := hq
  refine T_vN ?_
  have f4 := z_Fr.tr (R := R_X11_unit_1) z_Fr.rf f3 rs_X11_refresh_1__X11_unit_1
  have u10 := CI_b c2 (k := 191) (j := 16) bd_191_16
  refine T_if1 (by decide +kernel) ?_
  refine T_let 191 (by decide +kernel) ?_
  refine T_if1 (by decide +kernel) ?_
  refine T_leq (fun x11 e12 => ?_)
  have u13 := CI_b c2 (k := 191) (j := 16) bd_191_16
  refine T_if1 (by decide +kernel) ?_
  refine T_ne ?_ (fun h14 h15 => ?_)
  · exact T_ret ⟨CI_up c2 bd_1_14 (z_wb rfl).1, z_Fr.upf (R := R_X11_unit_1) f4 (fun a b h => z_up_k h) (fun b h => z_up_j h) (Or.inr (Or.inr (Or.inr (Or.inr (Or.inr (Or.inr (Or.inr (Or.inl (⟨rfl, by decide⟩))))))))), y_V2.u (y_U2.fr o7 (z_up_k (by decide)) (z_up_k (by decide)) (z_up_k (by decide)) (z_up_k (by decide)) (fun _ => z_up_k (by decide)) (fun _ => z_up_k (by decide)) (fun _ => z_up_k (by decide)) (fun _ => z_up_k (by decide)) (fun _ => z_up_k (by decide)) (fun _ => z_up_k (by decide)) (fun _ => z_up_k (by decide)) (fun _ => z_up_k (by decide)) (fun _ => z_up_k (by decide)) (fun _ => z_up_k (by decide)) (fun _ => z_up_k (by decide)) (fun _ => z_up_k (by decide)) (fun _ => z_up_k (by decide)) (fun _ => z_up_k (by decide)) (fun _ => z_up_k (by decide)) (fun _ => z_up_k (by decide)) (fun _ => z_up_k (by decide)) (fun _ => z_up_k (by decide)) (fun _ => z_up_k (by decide)) (fun _ => z_up_k (by decide))), Or.inr (Or.inl rfl)⟩
  refine T_if1 (by decide +kernel) ?_
  refine T_nw ?_ (fun h16 h17 => ?_)
  · exact T_ret ⟨CI_up c2 bd_1_15 (z_wb rfl).1, z_Fr.upf (R := R_X11_unit_1) f4 (fun a b h => z_up_k h) (fun b h => z_up_j h) (Or.inr (Or.inr (Or.inr (Or.inr (Or.inr (Or.inr (Or.inr (Or.inl (⟨rfl, by decide⟩))))))))), y_V2.u (y_U2.fr o7 (z_up_k (by decide)) (z_up_k (by decide)) (z_up_k (by decide)) (z_up_k (by decide)) (fun _ => z_up_k (by decide)) (fun _ => z_up_k (by decide)) (fun _ => z_up_k (by decide)) (fun _ => z_up_k (by decide)) (fun _ => z_up_k (by decide)) (fun _ => z_up_k (by decide)) (fun _ => z_up_k (by decide)) (fun _ => z_up_k (by decide)) (fun _ => z_up_k (by decide)) (fun _ => z_up_k (by decide)) (fun _ => z_up_k (by decide)) (fun _ => z_up_k (by decide)) (fun _ => z_up_k (by decide)) (fun _ => z_up_k (by decide)) (fun _ => z_up_k (by decide)) (fun _ => z_up_k (by decide)) (fun _ => z_up_k (by decide)) (fun _ => z_up_k (by decide)) (fun _ => z_up_k (by decide)) (fun _ => z_up_k (by decide))), Or.inr (Or.inr rfl)⟩
  refine T_ite (fun h18 => ?_) (fun h18 => ?_)
  · refine T_if1 (by decide +kernel) ?_
    refine T_let 191 (by decide +kernel) ?_
    refine T_if1 (by decide +kernel) ?_
    refine T_let 192 (by decide +kernel) ?_
    refine T_if1 (by decide +kernel) ?_
    refine T_get (by decide +kernel) (c := 193) (by decide +kernel) bdr_193 (by decide) c2 (fun x19 e20 b21 w22 => ?_)
    have l23 : z_ln 192 = 200 := by decide +kernel
    exact T_ret ⟨c2, f4, (y_V2.u o7), Or.inl (⟨x19, rfl, by omega, by omega⟩)⟩
  · refine T_ite (fun h24 => ?_) (fun h24 => ?_)
    · refine T_if1 (by decide +kernel) ?_
      refine T_let 191 (by decide +kernel) ?_
      refine T_if1 (by decide +kernel) ?_
      refine T_let 194 (by decide +kernel) ?_
      refine T_if1 (by decide +kernel) ?_
      refine T_get (by decide +kernel) (c := 195) (by decide +kernel) bdr_195 (by decide) c2 (fun x25 e26 b27 w28 => ?_)
      have l29 : z_ln 194 = 200 := by decide +kernel
      exact T_ret ⟨c2, f4, (y_V2.u o7), Or.inl (⟨x25, rfl, by omega, by omega⟩)⟩
    · refine T_ite (fun h30 => ?_) (fun h30 => ?_)
      · refine T_if1 (by decide +kernel) ?_
        refine T_let 191 (by decide +kernel) ?_
        refine T_if1 (by decide +kernel) ?_
        refine T_let 196 (by decide +kernel) ?_
        refine T_if1 (by decide +kernel) ?_
        refine T_get (by decide +kernel) (c := 197) (by decide +kernel) bdr_197 (by decide) c2 (fun x31 e32 b33 w34 => ?_)
        have l35 : z_ln 196 = 200 := by decide +kernel
        exact T_ret ⟨c2, f4, (y_V2.u o7), Or.inl (⟨x31, rfl, by omega, by omega⟩)⟩
      · refine T_ite (fun h36 => ?_) (fun h36 => ?_)
        · refine T_if1 (by decide +kernel) ?_
          refine T_let 258 (by decide +kernel) ?_
          refine T_if1 (by decide +kernel) ?_
          refine T_let 263 (by decide +kernel) ?_
          refine T_if1 (by decide +kernel) ?_
          refine T_get (by decide +kernel) (c := 264) (by decide +kernel) bdr_264 (by decide) c2 (fun x37 e38 b39 w40 => ?_)
          have l41 : z_ln 263 = 200 := by decide +kernel
          exact T_ret ⟨c2, f4, (y_V2.u o7), Or.inl (⟨x37, rfl, by omega, by omega⟩)⟩
        · refine T_ite (fun h42 => ?_) (fun h42 => ?_)
          · refine T_if1 (by decide +kernel) ?_
            refine T_let 258 (by decide +kernel) ?_
            refine T_if1 (by decide +kernel) ?_
            refine T_let 259 (by decide +kernel) ?_
            refine T_if1 (by decide +kernel) ?_
            refine T_get (by decide +kernel) (c := 260) (by decide +kernel) bdr_260 (by decide) c2 (fun x43 e44 b45 w46 => ?_)
            have l47 : z_ln 259 = 200 := by decide +kernel
            exact T_ret ⟨c2, f4, (y_V2.u o7), Or.inl (⟨x43, rfl, by omega, by omega⟩)⟩
          · refine T_ite (fun h48 => ?_) (fun h48 => ?_)
            · refine T_if1 (by decide +kernel) ?_
              refine T_let 258 (by decide +kernel) ?_
              refine T_if1 (by decide +kernel) ?_
              refine T_let 261 (by decide +kernel) ?_
              refine T_if1 (by decide +kernel) ?_
              refine T_get (by decide +kernel) (c := 262) (by decide +kernel) bdr_262 (by decide) c2 (fun x49 e50 b51 w52 => ?_)
              have l53 : z_ln 261 = 200 := by decide +kernel
              exact T_ret ⟨c2, f4, (y_V2.u o7), Or.inl (⟨x49, rfl, by omega, by omega⟩)⟩
            · refine T_ite (fun h54 => ?_) (fun h54 => ?_)
              · refine T_if1 (by decide +kernel) ?_
                refine T_let 191 (by decide +kernel) ?_
                refine T_if1 (by decide +kernel) ?_
                refine T_let 200 (by decide +kernel) ?_
                refine T_if1 (by decide +kernel) ?_
                refine T_get (by decide +kernel) (c := 201) (by decide +kernel) bdr_201 (by decide) c2 (fun x55 e56 b57 w58 => ?_)
                have l59 : z_ln 200 = 200 := by decide +kernel
                exact T_ret ⟨c2, f4, (y_V2.u o7), Or.inl (⟨x55, rfl, by omega, by omega⟩)⟩
              · refine T_if1 (by decide +kernel) ?_
                refine T_let 258 (by decide +kernel) ?_
                refine T_if1 (by decide +kernel) ?_
                refine T_let 265 (by decide +kernel) ?_
                refine T_if1 (by decide +kernel) ?_
                refine T_get (by decide +kernel) (c := 266) (by decide +kernel) bdr_266 (by decide) c2 (fun x60 e61 b62 w63 => ?_)
                have l64 : z_ln 265 = 200 := by decide +kernel
                exact T_ret ⟨c2, f4, (y_V2.u o7), Or.inl (⟨x60, rfl, by omega, by omega⟩)⟩
abbrev P_X11_sign_1D (r0 : z_M) : z_V → z_M → Prop := fun v s' => z_CI s' ∧ z_Fr R_X11_sign_1 r0 s' ∧ (y_V2 s') ∧ ((∃ x, v = vI x ∧ -2147483648 ≤ x ∧ x ≤ 2147483647) ∨ v = vX 0 ∨ v = vX 1)
theorem nr_X10_markOf_191__3 (b : Int) : ¬ R_X10_markOf_191 3 b := not_false
theorem nr_X10_markOf_191__16 (b : Int) : ¬ R_X10_markOf_191 16 b := not_false
theorem nr_X10_markOf_191__18 (b : Int) : ¬ R_X10_markOf_191 18 b := not_false
theorem nr_X10_markOf_191__199 (b : Int) : ¬ R_X10_markOf_191 199 b := not_false
theorem nr_X10_markOf_191__201 (b : Int) : ¬ R_X10_markOf_191 201 b := not_false
theorem nr_X10_markOf_191__203 (b : Int) : ¬ R_X10_markOf_191 203 b := not_false
theorem nr_X10_markOf_191__205 (b : Int) : ¬ R_X10_markOf_191 205 b := not_false
theorem nr_X10_markOf_191__207 (b : Int) : ¬ R_X10_markOf_191 207 b := not_false
theorem nr_X10_markOf_191__209 (b : Int) : ¬ R_X10_markOf_191 209 b := not_false
theorem nr_X10_markOf_191__211 (b : Int) : ¬ R_X10_markOf_191 211 b := not_false
theorem nr_X10_markOf_191__213 (b : Int) : ¬ R_X10_markOf_191 213 b := not_false
theorem nr_X10_markOf_191__217 (b : Int) : ¬ R_X10_markOf_191 217 b := not_false
theorem nr_X10_markOf_191__219 (b : Int) : ¬ R_X10_markOf_191 219 b := not_false
set_option maxHeartbeats 4000000 in
theorem sf_X11_sign_1D {fu : Nat} (hfu : 8589934592 ≤ fu) (r0 : z_M) (c0 : z_CI r0) (a1 : Int) (a2 : Int) (b1 : -2147483648 ≤ a1 ∧ a1 ≤ 2147483647) (b2 : -2147483648 ≤ a2 ∧ a2 ≤ 2147483647) (p0 : y_V2 r0) : z_T (fX11_sign fu r0 1 a1 a2) (P_X11_sign_1D r0) := by
  refine T_of (fX11_sign.eq_1 ..) ?_
  refine T_if1 (by decide +kernel) ?_
  refine T_useN (sf_X11_refresh_1D hfu r0 c0 p0) (fun v6 s1 hq => ?_)
  obtain ⟨c2, f3, o7, rfl⟩ := hq
  refine T_vN ?_
  have f4 := z_Fr.tr (R := R_X11_sign_1) z_Fr.rf f3 rs_X11_refresh_1__X11_sign_1
  have t10 : s1 6 6 = r0 6 6 := f3 6 6 (by decide)
  refine T_if1 (by decide +kernel) ?_
  refine T_let 6 (by decide +kernel) ?_
  refine T_if1 (by decide +kernel) ?_
  refine T_leq (fun x11 e12 => ?_)
  have u13 := CI_b c2 (k := 6) (j := 6) bd_6_6
  refine T_if1 (by decide +kernel) ?_
  refine T_ne ?_ (fun h14 h15 => ?_)
  · exact T_ret ⟨CI_up c2 bd_1_14 (z_wb rfl).1, z_Fr.upf (R := R_X11_sign_1) f4 (fun a b h => z_up_k h) (fun b h => z_up_j h) (Or.inr (Or.inr (Or.inr (Or.inr (Or.inr (Or.inr (Or.inr (Or.inl (⟨rfl, by decide⟩))))))))), y_V2.u (y_U2.fr o7 (z_up_k (by decide)) (z_up_k (by decide)) (z_up_k (by decide)) (z_up_k (by decide)) (fun _ => z_up_k (by decide)) (fun _ => z_up_k (by decide)) (fun _ => z_up_k (by decide)) (fun _ => z_up_k (by decide)) (fun _ => z_up_k (by decide)) (fun _ => z_up_k (by decide)) (fun _ => z_up_k (by decide)) (fun _ => z_up_k (by decide)) (fun _ => z_up_k (by decide)) (fun _ => z_up_k (by decide)) (fun _ => z_up_k (by decide)) (fun _ => z_up_k (by decide)) (fun _ => z_up_k (by decide)) (fun _ => z_up_k (by decide)) (fun _ => z_up_k (by decide)) (fun _ => z_up_k (by decide)) (fun _ => z_up_k (by decide)) (fun _ => z_up_k (by decide)) (fun _ => z_up_k (by decide)) (fun _ => z_up_k (by decide))), Or.inr (Or.inl rfl)⟩
  refine T_if1 (by decide +kernel) ?_
  refine T_nw ?_ (fun h16 h17 => ?_)
  · exact T_ret ⟨CI_up c2 bd_1_15 (z_wb rfl).1, z_Fr.upf (R := R_X11_sign_1) f4 (fun a b h => z_up_k h) (fun b h => z_up_j h) (Or.inr (Or.inr (Or.inr (Or.inr (Or.inr (Or.inr (Or.inr (Or.inl (⟨rfl, by decide⟩))))))))), y_V2.u (y_U2.fr o7 (z_up_k (by decide)) (z_up_k (by decide)) (z_up_k (by decide)) (z_up_k (by decide)) (fun _ => z_up_k (by decide)) (fun _ => z_up_k (by decide)) (fun _ => z_up_k (by decide)) (fun _ => z_up_k (by decide)) (fun _ => z_up_k (by decide)) (fun _ => z_up_k (by decide)) (fun _ => z_up_k (by decide)) (fun _ => z_up_k (by decide)) (fun _ => z_up_k (by decide)) (fun _ => z_up_k (by decide)) (fun _ => z_up_k (by decide)) (fun _ => z_up_k (by decide)) (fun _ => z_up_k (by decide)) (fun _ => z_up_k (by decide)) (fun _ => z_up_k (by decide)) (fun _ => z_up_k (by decide)) (fun _ => z_up_k (by decide)) (fun _ => z_up_k (by decide)) (fun _ => z_up_k (by decide)) (fun _ => z_up_k (by decide))), Or.inr (Or.inr rfl)⟩
  refine T_ite (fun h18 => ?_) (fun h18 => ?_)
  · refine T_if1 (by decide +kernel) ?_
    refine T_let 6 (by decide +kernel) ?_
    refine T_if1 (by decide +kernel) ?_
    refine T_let 7 (by decide +kernel) ?_
    refine T_if1 (by decide +kernel) ?_
    refine T_get (by decide +kernel) (c := 8) (by decide +kernel) bdr_8 (by decide) c2 (fun x19 e20 b21 w22 => ?_)
    have l23 : z_ln 7 = 200 := by decide +kernel
    exact T_ret ⟨c2, f4, (y_V2.u o7), Or.inl (⟨x19, rfl, by omega, by omega⟩)⟩
  · refine T_ite (fun h24 => ?_) (fun h24 => ?_)
    · refine T_if1 (by decide +kernel) ?_
      refine T_let 191 (by decide +kernel) ?_
      refine T_if1 (by decide +kernel) ?_
      refine T_let 214 (by decide +kernel) ?_
      refine T_if1 (by decide +kernel) ?_
      refine T_get (by decide +kernel) (c := 215) (by decide +kernel) bdr_215 (by decide) c2 (fun x25 e26 b27 w28 => ?_)
      have l29 : z_ln 214 = 200 := by decide +kernel
      exact T_ret ⟨c2, f4, (y_V2.u o7), Or.inl (⟨x25, rfl, by omega, by omega⟩)⟩
    · refine T_ite (fun h30 => ?_) (fun h30 => ?_)
      · refine T_if1 (by decide +kernel) ?_
        refine T_let 258 (by decide +kernel) ?_
        refine T_if1 (by decide +kernel) ?_
        refine T_let 259 (by decide +kernel) ?_
        refine T_if1 (by decide +kernel) ?_
        refine T_let 191 (by decide +kernel) ?_
        refine T_if1 (by decide +kernel) ?_
        refine T_let 214 (by decide +kernel) ?_
        refine T_if1 (by decide +kernel) ?_
        refine T_get (by decide +kernel) (c := 215) (by decide +kernel) bdr_215 (by decide) c2 (fun x31 e32 b33 w34 => ?_)
        have l35 : z_ln 214 = 200 := by decide +kernel
        refine T_if1 (by decide +kernel) ?_
        refine T_get (by decide +kernel) (c := 260) (by decide +kernel) bdr_260 (by decide) c2 (fun x36 e37 b38 w39 => ?_)
        have l40 : z_ln 259 = 200 := by decide +kernel
        exact T_ret ⟨c2, f4, (y_V2.u o7), Or.inl (⟨x36, rfl, by omega, by omega⟩)⟩
      · refine T_ite (fun h41 => ?_) (fun h41 => ?_)
        · refine T_if1 (by decide +kernel) ?_
          refine T_let 258 (by decide +kernel) ?_
          refine T_if1 (by decide +kernel) ?_
          refine T_let 267 (by decide +kernel) ?_
          refine T_if1 (by decide +kernel) ?_
          refine T_get (by decide +kernel) (c := 268) (by decide +kernel) bdr_268 (by decide) c2 (fun x42 e43 b44 w45 => ?_)
          have l46 : z_ln 267 = 200 := by decide +kernel
          exact T_ret ⟨c2, f4, (y_V2.u o7), Or.inl (⟨x42, rfl, by omega, by omega⟩)⟩
        · refine T_ite (fun h47 => ?_) (fun h47 => ?_)
          · refine T_if1 (by decide +kernel) ?_
            refine T_let 191 (by decide +kernel) ?_
            refine T_if1 (by decide +kernel) ?_
            refine T_let 218 (by decide +kernel) ?_
            refine T_if1 (by decide +kernel) ?_
            refine T_get (by decide +kernel) (c := 219) (by decide +kernel) bdr_219 (by decide) c2 (fun x48 e49 b50 w51 => ?_)
            have l52 : z_ln 218 = 200 := by decide +kernel
            exact T_ret ⟨c2, f4, (y_V2.u o7), Or.inl (⟨x48, rfl, by omega, by omega⟩)⟩
          · refine T_ite (fun h53 => ?_) (fun h53 => ?_)
            · refine T_if1 (by decide +kernel) ?_
              refine T_let 191 (by decide +kernel) ?_
              refine T_if1 (by decide +kernel) ?_
              refine T_useI (sf_X10_markOf_191 hfu s1 c2 a1 0 (by omega) (by omega)) (fun v59 s54 hq => ?_)
              obtain ⟨c55, f56, ⟨x58, rfl, b60, b61⟩⟩ := hq
              refine T_vI ?_
              have f57 := z_Fr.tr (R := R_X11_sign_1) f4 f56 (fun a b h => absurd h not_false)
              have t62 : s54 6 6 = s1 6 6 := f56 6 6 (by decide)
              have r63 := y_U2.fr o7 (f56 191 16 (by decide)) (f56 6 6 (by decide)) (f56 191 17 (by decide)) (f56 191 18 (by decide)) (fun b => f56 3 b (nr_X10_markOf_191__3 b)) (fun b => f56 8 b (nr_X10_markOf_191__8 b)) (fun b => f56 12 b (nr_X10_markOf_191__12 b)) (fun b => f56 14 b (nr_X10_markOf_191__14 b)) (fun b => f56 16 b (nr_X10_markOf_191__16 b)) (fun b => f56 18 b (nr_X10_markOf_191__18 b)) (fun b => f56 193 b (nr_X10_markOf_191__193 b)) (fun b => f56 195 b (nr_X10_markOf_191__195 b)) (fun b => f56 197 b (nr_X10_markOf_191__197 b)) (fun b => f56 199 b (nr_X10_markOf_191__199 b)) (fun b => f56 201 b (nr_X10_markOf_191__201 b)) (fun b => f56 203 b (nr_X10_markOf_191__203 b)) (fun b => f56 205 b (nr_X10_markOf_191__205 b)) (fun b => f56 207 b (nr_X10_markOf_191__207 b)) (fun b => f56 209 b (nr_X10_markOf_191__209 b)) (fun b => f56 211 b (nr_X10_markOf_191__211 b)) (fun b => f56 213 b (nr_X10_markOf_191__213 b)) (fun b => f56 215 b (nr_X10_markOf_191__215 b)) (fun b => f56 217 b (nr_X10_markOf_191__217 b)) (fun b => f56 219 b (nr_X10_markOf_191__219 b))
              have r64 := y_B0.fr o7.1 (f56 211 0 (by decide)) (f56 213 0 (by decide))
              exact T_ret ⟨c55, f57, (y_V2.u r63), Or.inl (⟨x58, rfl, by omega, by omega⟩)⟩
            · refine T_if1 (by decide +kernel) ?_
              refine T_let 191 (by decide +kernel) ?_
              refine T_if1 (by decide +kernel) ?_
              refine T_useI (sf_X10_markOf_191 hfu s1 c2 a1 1 (by omega) (by omega)) (fun v70 s65 hq => ?_)
              obtain ⟨c66, f67, ⟨x69, rfl, b71, b72⟩⟩ := hq
              refine T_vI ?_
              have f68 := z_Fr.tr (R := R_X11_sign_1) f4 f67 (fun a b h => absurd h not_false)
              have t73 : s65 6 6 = s1 6 6 := f67 6 6 (by decide)
              have r74 := y_U2.fr o7 (f67 191 16 (by decide)) (f67 6 6 (by decide)) (f67 191 17 (by decide)) (f67 191 18 (by decide)) (fun b => f67 3 b (nr_X10_markOf_191__3 b)) (fun b => f67 8 b (nr_X10_markOf_191__8 b)) (fun b => f67 12 b (nr_X10_markOf_191__12 b)) (fun b => f67 14 b (nr_X10_markOf_191__14 b)) (fun b => f67 16 b (nr_X10_markOf_191__16 b)) (fun b => f67 18 b (nr_X10_markOf_191__18 b)) (fun b => f67 193 b (nr_X10_markOf_191__193 b)) (fun b => f67 195 b (nr_X10_markOf_191__195 b)) (fun b => f67 197 b (nr_X10_markOf_191__197 b)) (fun b => f67 199 b (nr_X10_markOf_191__199 b)) (fun b => f67 201 b (nr_X10_markOf_191__201 b)) (fun b => f67 203 b (nr_X10_markOf_191__203 b)) (fun b => f67 205 b (nr_X10_markOf_191__205 b)) (fun b => f67 207 b (nr_X10_markOf_191__207 b)) (fun b => f67 209 b (nr_X10_markOf_191__209 b)) (fun b => f67 211 b (nr_X10_markOf_191__211 b)) (fun b => f67 213 b (nr_X10_markOf_191__213 b)) (fun b => f67 215 b (nr_X10_markOf_191__215 b)) (fun b => f67 217 b (nr_X10_markOf_191__217 b)) (fun b => f67 219 b (nr_X10_markOf_191__219 b))
              have r75 := y_B0.fr o7.1 (f67 211 0 (by decide)) (f67 213 0 (by decide))
              exact T_ret ⟨c66, f68, (y_V2.u r74), Or.inl (⟨x69, rfl, by omega, by omega⟩)⟩
abbrev P_X11_line_1D (r0 : z_M) : z_V → z_M → Prop := fun v s' => z_CI s' ∧ z_Fr R_X11_line_1 r0 s' ∧ (y_V2 s') ∧ ((∃ x, v = vI x ∧ -2147483648 ≤ x ∧ x ≤ 2147483647) ∨ v = vX 0 ∨ v = vX 1)
set_option maxHeartbeats 4000000 in
theorem sf_X11_line_1D {fu : Nat} (hfu : 8589934592 ≤ fu) (r0 : z_M) (c0 : z_CI r0) (a1 : Int) (a2 : Int) (b1 : -2147483648 ≤ a1 ∧ a1 ≤ 2147483647) (b2 : -2147483648 ≤ a2 ∧ a2 ≤ 2147483647) (p0 : y_V2 r0) : z_T (fX11_line fu r0 1 a1 a2) (P_X11_line_1D r0) := by
  refine T_of (fX11_line.eq_1 ..) ?_
  refine T_if1 (by decide +kernel) ?_
  refine T_useN (sf_X11_refresh_1D hfu r0 c0 p0) (fun v6 s1 hq => ?_)
  obtain ⟨c2, f3, o7, rfl⟩ := hq
  refine T_vN ?_
  have f4 := z_Fr.tr (R := R_X11_line_1) z_Fr.rf f3 rs_X11_refresh_1__X11_line_1
  have u10 := CI_b c2 (k := 240) (j := 6) bd_240_6
  refine T_if1 (by decide +kernel) ?_
  refine T_let 240 (by decide +kernel) ?_
  refine T_if1 (by decide +kernel) ?_
  refine T_leq (fun x11 e12 => ?_)
  have u13 := CI_b c2 (k := 240) (j := 6) bd_240_6
  refine T_if1 (by decide +kernel) ?_
  refine T_ne ?_ (fun h14 h15 => ?_)
  · exact T_ret ⟨CI_up c2 bd_1_14 (z_wb rfl).1, z_Fr.upf (R := R_X11_line_1) f4 (fun a b h => z_up_k h) (fun b h => z_up_j h) (Or.inr (Or.inr (Or.inr (Or.inr (Or.inr (Or.inr (Or.inr (Or.inl (⟨rfl, by decide⟩))))))))), y_V2.u (y_U2.fr o7 (z_up_k (by decide)) (z_up_k (by decide)) (z_up_k (by decide)) (z_up_k (by decide)) (fun _ => z_up_k (by decide)) (fun _ => z_up_k (by decide)) (fun _ => z_up_k (by decide)) (fun _ => z_up_k (by decide)) (fun _ => z_up_k (by decide)) (fun _ => z_up_k (by decide)) (fun _ => z_up_k (by decide)) (fun _ => z_up_k (by decide)) (fun _ => z_up_k (by decide)) (fun _ => z_up_k (by decide)) (fun _ => z_up_k (by decide)) (fun _ => z_up_k (by decide)) (fun _ => z_up_k (by decide)) (fun _ => z_up_k (by decide)) (fun _ => z_up_k (by decide)) (fun _ => z_up_k (by decide)) (fun _ => z_up_k (by decide)) (fun _ => z_up_k (by decide)) (fun _ => z_up_k (by decide)) (fun _ => z_up_k (by decide))), Or.inr (Or.inl rfl)⟩
  refine T_if1 (by decide +kernel) ?_
  refine T_nw ?_ (fun h16 h17 => ?_)
  · exact T_ret ⟨CI_up c2 bd_1_15 (z_wb rfl).1, z_Fr.upf (R := R_X11_line_1) f4 (fun a b h => z_up_k h) (fun b h => z_up_j h) (Or.inr (Or.inr (Or.inr (Or.inr (Or.inr (Or.inr (Or.inr (Or.inl (⟨rfl, by decide⟩))))))))), y_V2.u (y_U2.fr o7 (z_up_k (by decide)) (z_up_k (by decide)) (z_up_k (by decide)) (z_up_k (by decide)) (fun _ => z_up_k (by decide)) (fun _ => z_up_k (by decide)) (fun _ => z_up_k (by decide)) (fun _ => z_up_k (by decide)) (fun _ => z_up_k (by decide)) (fun _ => z_up_k (by decide)) (fun _ => z_up_k (by decide)) (fun _ => z_up_k (by decide)) (fun _ => z_up_k (by decide)) (fun _ => z_up_k (by decide)) (fun _ => z_up_k (by decide)) (fun _ => z_up_k (by decide)) (fun _ => z_up_k (by decide)) (fun _ => z_up_k (by decide)) (fun _ => z_up_k (by decide)) (fun _ => z_up_k (by decide)) (fun _ => z_up_k (by decide)) (fun _ => z_up_k (by decide)) (fun _ => z_up_k (by decide)) (fun _ => z_up_k (by decide))), Or.inr (Or.inr rfl)⟩
  refine T_ite (fun h18 => ?_) (fun h18 => ?_)
  · refine T_if1 (by decide +kernel) ?_
    refine T_let 240 (by decide +kernel) ?_
    refine T_if1 (by decide +kernel) ?_
    refine T_let 247 (by decide +kernel) ?_
    refine T_if1 (by decide +kernel) ?_
    refine T_get (by decide +kernel) (c := 248) (by decide +kernel) bdr_248 (by decide) c2 (fun x19 e20 b21 w22 => ?_)
    have l23 : z_ln 247 = 201 := by decide +kernel
    exact T_ret ⟨c2, f4, (y_V2.u o7), Or.inl (⟨x19, rfl, by omega, by omega⟩)⟩
  · refine T_ite (fun h24 => ?_) (fun h24 => ?_)
    · refine T_if1 (by decide +kernel) ?_
      refine T_let 240 (by decide +kernel) ?_
      refine T_if1 (by decide +kernel) ?_
      refine T_let 247 (by decide +kernel) ?_
      refine T_leq (fun x25 e26 => ?_)
      have w27 := z_wr e26
      refine T_if1 (by decide +kernel) ?_
      refine T_get (by decide +kernel) (c := 248) (by decide +kernel) bdr_248 (by decide) c2 (fun x28 e29 b30 w31 => ?_)
      have l32 : z_ln 247 = 201 := by decide +kernel
      refine T_if1 (by decide +kernel) ?_
      refine T_let 240 (by decide +kernel) ?_
      refine T_if1 (by decide +kernel) ?_
      refine T_let 247 (by decide +kernel) ?_
      refine T_if1 (by decide +kernel) ?_
      refine T_get (by decide +kernel) (c := 248) (by decide +kernel) bdr_248 (by decide) c2 (fun x33 e34 b35 w36 => ?_)
      have l37 : z_ln 247 = 201 := by decide +kernel
      refine T_leq (fun x38 e39 => ?_)
      have w40 := z_wr e39
      exact T_ret ⟨c2, f4, (y_V2.u o7), Or.inl (⟨x38, rfl, by omega, by omega⟩)⟩
    · refine T_ite (fun h41 => ?_) (fun h41 => ?_)
      · refine T_if1 (by decide +kernel) ?_
        refine T_let 258 (by decide +kernel) ?_
        refine T_if1 (by decide +kernel) ?_
        refine T_let 269 (by decide +kernel) ?_
        refine T_if1 (by decide +kernel) ?_
        refine T_get (by decide +kernel) (c := 270) (by decide +kernel) bdr_270 (by decide) c2 (fun x42 e43 b44 w45 => ?_)
        have l46 : z_ln 269 = 200 := by decide +kernel
        exact T_ret ⟨c2, f4, (y_V2.u o7), Or.inl (⟨x42, rfl, by omega, by omega⟩)⟩
      · refine T_ite (fun h47 => ?_) (fun h47 => ?_)
        · refine T_if1 (by decide +kernel) ?_
          refine T_let 2 (by decide +kernel) ?_
          refine T_if1 (by decide +kernel) ?_
          refine T_get (by decide +kernel) (c := 3) (by decide +kernel) bdr_3 (by decide) c2 (fun x48 e49 b50 w51 => ?_)
          have l52 : z_ln 2 = 9 := by decide +kernel
          refine T_if1 (by decide +kernel) ?_
          refine T_let 258 (by decide +kernel) ?_
          refine T_if1 (by decide +kernel) ?_
          refine T_let 269 (by decide +kernel) ?_
          refine T_if1 (by decide +kernel) ?_
          refine T_get (by decide +kernel) (c := 270) (by decide +kernel) bdr_270 (by decide) c2 (fun x53 e54 b55 w56 => ?_)
          have l57 : z_ln 269 = 200 := by decide +kernel
          refine T_leq (fun x58 e59 => ?_)
          have w60 := z_wr e59
          exact T_ret ⟨c2, f4, (y_V2.u o7), Or.inl (⟨x58, rfl, by omega, by omega⟩)⟩
        · refine T_ite (fun h61 => ?_) (fun h61 => ?_)
          · refine T_if1 (by decide +kernel) ?_
            refine T_let 258 (by decide +kernel) ?_
            refine T_if1 (by decide +kernel) ?_
            refine T_let 271 (by decide +kernel) ?_
            refine T_if1 (by decide +kernel) ?_
            refine T_get (by decide +kernel) (c := 272) (by decide +kernel) bdr_272 (by decide) c2 (fun x62 e63 b64 w65 => ?_)
            have l66 : z_ln 271 = 200 := by decide +kernel
            exact T_ret ⟨c2, f4, (y_V2.u o7), Or.inl (⟨x62, rfl, by omega, by omega⟩)⟩
          · refine T_ite (fun h67 => ?_) (fun h67 => ?_)
            · refine T_if1 (by decide +kernel) ?_
              refine T_let 258 (by decide +kernel) ?_
              refine T_if1 (by decide +kernel) ?_
              refine T_let 277 (by decide +kernel) ?_
              refine T_leq (fun x68 e69 => ?_)
              have w70 := z_wr e69
              refine T_if1 (by decide +kernel) ?_
              refine T_get (by decide +kernel) (c := 278) (by decide +kernel) bdr_278 (by decide) c2 (fun x71 e72 b73 w74 => ?_)
              have l75 : z_ln 277 = 201 := by decide +kernel
              refine T_if1 (by decide +kernel) ?_
              refine T_let 258 (by decide +kernel) ?_
              refine T_if1 (by decide +kernel) ?_
              refine T_let 277 (by decide +kernel) ?_
              refine T_if1 (by decide +kernel) ?_
              refine T_get (by decide +kernel) (c := 278) (by decide +kernel) bdr_278 (by decide) c2 (fun x76 e77 b78 w79 => ?_)
              have l80 : z_ln 277 = 201 := by decide +kernel
              refine T_leq (fun x81 e82 => ?_)
              have w83 := z_wr e82
              exact T_ret ⟨c2, f4, (y_V2.u o7), Or.inl (⟨x81, rfl, by omega, by omega⟩)⟩
            · refine T_ite (fun h84 => ?_) (fun h84 => ?_)
              · refine T_if1 (by decide +kernel) ?_
                refine T_let 258 (by decide +kernel) ?_
                refine T_if1 (by decide +kernel) ?_
                refine T_let 273 (by decide +kernel) ?_
                refine T_if1 (by decide +kernel) ?_
                refine T_get (by decide +kernel) (c := 274) (by decide +kernel) bdr_274 (by decide) c2 (fun x85 e86 b87 w88 => ?_)
                have l89 : z_ln 273 = 200 := by decide +kernel
                exact T_ret ⟨c2, f4, (y_V2.u o7), Or.inl (⟨x85, rfl, by omega, by omega⟩)⟩
              · refine T_if1 (by decide +kernel) ?_
                refine T_let 258 (by decide +kernel) ?_
                refine T_if1 (by decide +kernel) ?_
                refine T_let 275 (by decide +kernel) ?_
                refine T_if1 (by decide +kernel) ?_
                refine T_get (by decide +kernel) (c := 276) (by decide +kernel) bdr_276 (by decide) c2 (fun x90 e91 b92 w93 => ?_)
                have l94 : z_ln 275 = 200 := by decide +kernel
                exact T_ret ⟨c2, f4, (y_V2.u o7), Or.inl (⟨x90, rfl, by omega, by omega⟩)⟩
abbrev P_X11_block_1D (r0 : z_M) : z_V → z_M → Prop := fun v s' => z_CI s' ∧ z_Fr R_X11_block_1 r0 s' ∧ (y_V2 s') ∧ ((∃ x, v = vI x ∧ -2147483648 ≤ x ∧ x ≤ 2147483647) ∨ v = vX 0 ∨ v = vX 1)
theorem nr_X0_padAhead_279__3 (b : Int) : ¬ R_X0_padAhead_279 3 b := not_false
theorem nr_X0_padAhead_279__16 (b : Int) : ¬ R_X0_padAhead_279 16 b := not_false
theorem nr_X0_padAhead_279__18 (b : Int) : ¬ R_X0_padAhead_279 18 b := not_false
theorem nr_X0_padAhead_279__199 (b : Int) : ¬ R_X0_padAhead_279 199 b := not_false
theorem nr_X0_padAhead_279__201 (b : Int) : ¬ R_X0_padAhead_279 201 b := not_false
theorem nr_X0_padAhead_279__203 (b : Int) : ¬ R_X0_padAhead_279 203 b := not_false
theorem nr_X0_padAhead_279__205 (b : Int) : ¬ R_X0_padAhead_279 205 b := not_false
theorem nr_X0_padAhead_279__207 (b : Int) : ¬ R_X0_padAhead_279 207 b := not_false
theorem nr_X0_padAhead_279__209 (b : Int) : ¬ R_X0_padAhead_279 209 b := not_false
theorem nr_X0_padAhead_279__211 (b : Int) : ¬ R_X0_padAhead_279 211 b := not_false
theorem nr_X0_padAhead_279__213 (b : Int) : ¬ R_X0_padAhead_279 213 b := not_false
theorem nr_X0_padAhead_279__217 (b : Int) : ¬ R_X0_padAhead_279 217 b := not_false
theorem nr_X0_padAhead_279__219 (b : Int) : ¬ R_X0_padAhead_279 219 b := not_false
theorem nr_X0_padBehind_279__3 (b : Int) : ¬ R_X0_padBehind_279 3 b := not_false
theorem nr_X0_padBehind_279__16 (b : Int) : ¬ R_X0_padBehind_279 16 b := not_false
theorem nr_X0_padBehind_279__18 (b : Int) : ¬ R_X0_padBehind_279 18 b := not_false
theorem nr_X0_padBehind_279__199 (b : Int) : ¬ R_X0_padBehind_279 199 b := not_false
theorem nr_X0_padBehind_279__201 (b : Int) : ¬ R_X0_padBehind_279 201 b := not_false
theorem nr_X0_padBehind_279__203 (b : Int) : ¬ R_X0_padBehind_279 203 b := not_false
theorem nr_X0_padBehind_279__205 (b : Int) : ¬ R_X0_padBehind_279 205 b := not_false
theorem nr_X0_padBehind_279__207 (b : Int) : ¬ R_X0_padBehind_279 207 b := not_false
theorem nr_X0_padBehind_279__209 (b : Int) : ¬ R_X0_padBehind_279 209 b := not_false
theorem nr_X0_padBehind_279__211 (b : Int) : ¬ R_X0_padBehind_279 211 b := not_false
theorem nr_X0_padBehind_279__213 (b : Int) : ¬ R_X0_padBehind_279 213 b := not_false
theorem nr_X0_padBehind_279__217 (b : Int) : ¬ R_X0_padBehind_279 217 b := not_false
theorem nr_X0_padBehind_279__219 (b : Int) : ¬ R_X0_padBehind_279 219 b := not_false
set_option maxHeartbeats 4000000 in
theorem sf_X11_block_1D {fu : Nat} (hfu : 8589934592 ≤ fu) (r0 : z_M) (c0 : z_CI r0) (a1 : Int) (a2 : Int) (b1 : -2147483648 ≤ a1 ∧ a1 ≤ 2147483647) (b2 : -2147483648 ≤ a2 ∧ a2 ≤ 2147483647) (p0 : y_V2 r0) : z_T (fX11_block fu r0 1 a1 a2) (P_X11_block_1D r0) := by
  refine T_of (fX11_block.eq_1 ..) ?_
  refine T_if1 (by decide +kernel) ?_
  refine T_useN (sf_X11_refresh_1D hfu r0 c0 p0) (fun v6 s1 hq => ?_)
  obtain ⟨c2, f3, o7, rfl⟩ := hq
  refine T_vN ?_
  have f4 := z_Fr.tr (R := R_X11_block_1) z_Fr.rf f3 rs_X11_refresh_1__X11_block_1
  have u10 := CI_b c2 (k := 279) (j := 9) bd_279_9
  refine T_if1 (by decide +kernel) ?_
  refine T_let 258 (by decide +kernel) ?_
  refine T_if1 (by decide +kernel) ?_
  refine T_let 279 (by decide +kernel) ?_
  refine T_if1 (by decide +kernel) ?_
  refine T_leq (fun x11 e12 => ?_)
  have u13 := CI_b c2 (k := 279) (j := 9) bd_279_9
  refine T_if1 (by decide +kernel) ?_
  refine T_ne ?_ (fun h14 h15 => ?_)
  · exact T_ret ⟨CI_up c2 bd_1_14 (z_wb rfl).1, z_Fr.upf (R := R_X11_block_1) f4 (fun a b h => z_up_k h) (fun b h => z_up_j h) (Or.inr (Or.inr (Or.inr (Or.inr (Or.inr (Or.inr (Or.inr (Or.inl (⟨rfl, by decide⟩))))))))), y_V2.u (y_U2.fr o7 (z_up_k (by decide)) (z_up_k (by decide)) (z_up_k (by decide)) (z_up_k (by decide)) (fun _ => z_up_k (by decide)) (fun _ => z_up_k (by decide)) (fun _ => z_up_k (by decide)) (fun _ => z_up_k (by decide)) (fun _ => z_up_k (by decide)) (fun _ => z_up_k (by decide)) (fun _ => z_up_k (by decide)) (fun _ => z_up_k (by decide)) (fun _ => z_up_k (by decide)) (fun _ => z_up_k (by decide)) (fun _ => z_up_k (by decide)) (fun _ => z_up_k (by decide)) (fun _ => z_up_k (by decide)) (fun _ => z_up_k (by decide)) (fun _ => z_up_k (by decide)) (fun _ => z_up_k (by decide)) (fun _ => z_up_k (by decide)) (fun _ => z_up_k (by decide)) (fun _ => z_up_k (by decide)) (fun _ => z_up_k (by decide))), Or.inr (Or.inl rfl)⟩
  refine T_if1 (by decide +kernel) ?_
  refine T_nw ?_ (fun h16 h17 => ?_)
  · exact T_ret ⟨CI_up c2 bd_1_15 (z_wb rfl).1, z_Fr.upf (R := R_X11_block_1) f4 (fun a b h => z_up_k h) (fun b h => z_up_j h) (Or.inr (Or.inr (Or.inr (Or.inr (Or.inr (Or.inr (Or.inr (Or.inl (⟨rfl, by decide⟩))))))))), y_V2.u (y_U2.fr o7 (z_up_k (by decide)) (z_up_k (by decide)) (z_up_k (by decide)) (z_up_k (by decide)) (fun _ => z_up_k (by decide)) (fun _ => z_up_k (by decide)) (fun _ => z_up_k (by decide)) (fun _ => z_up_k (by decide)) (fun _ => z_up_k (by decide)) (fun _ => z_up_k (by decide)) (fun _ => z_up_k (by decide)) (fun _ => z_up_k (by decide)) (fun _ => z_up_k (by decide)) (fun _ => z_up_k (by decide)) (fun _ => z_up_k (by decide)) (fun _ => z_up_k (by decide)) (fun _ => z_up_k (by decide)) (fun _ => z_up_k (by decide)) (fun _ => z_up_k (by decide)) (fun _ => z_up_k (by decide)) (fun _ => z_up_k (by decide)) (fun _ => z_up_k (by decide)) (fun _ => z_up_k (by decide)) (fun _ => z_up_k (by decide))), Or.inr (Or.inr rfl)⟩
  refine T_ite (fun h18 => ?_) (fun h18 => ?_)
  · refine T_if1 (by decide +kernel) ?_
    refine T_let 280 (by decide +kernel) ?_
    refine T_if1 (by decide +kernel) ?_
    refine T_get (by decide +kernel) (c := 281) (by decide +kernel) bdr_281 (by decide) c2 (fun x19 e20 b21 w22 => ?_)
    have l23 : z_ln 280 = 200 := by decide +kernel
    exact T_ret ⟨c2, f4, (y_V2.u o7), Or.inl (⟨x19, rfl, by omega, by omega⟩)⟩
  · refine T_ite (fun h24 => ?_) (fun h24 => ?_)
    · refine T_if1 (by decide +kernel) ?_
      refine T_let 282 (by decide +kernel) ?_
      refine T_if1 (by decide +kernel) ?_
      refine T_get (by decide +kernel) (c := 283) (by decide +kernel) bdr_283 (by decide) c2 (fun x25 e26 b27 w28 => ?_)
      have l29 : z_ln 282 = 200 := by decide +kernel
      refine T_if1 (by decide +kernel) ?_
      refine T_let 280 (by decide +kernel) ?_
      refine T_if1 (by decide +kernel) ?_
      refine T_get (by decide +kernel) (c := 281) (by decide +kernel) bdr_281 (by decide) c2 (fun x30 e31 b32 w33 => ?_)
      have l34 : z_ln 280 = 200 := by decide +kernel
      refine T_leq (fun x35 e36 => ?_)
      have w37 := z_wr e36
      refine T_leq (fun x38 e39 => ?_)
      have w40 := z_wr e39
      exact T_ret ⟨c2, f4, (y_V2.u o7), Or.inl (⟨x38, rfl, by omega, by omega⟩)⟩
    · refine T_ite (fun h41 => ?_) (fun h41 => ?_)
      · refine T_if1 (by decide +kernel) ?_
        refine T_let 284 (by decide +kernel) ?_
        refine T_if1 (by decide +kernel) ?_
        refine T_get (by decide +kernel) (c := 285) (by decide +kernel) bdr_285 (by decide) c2 (fun x42 e43 b44 w45 => ?_)
        have l46 : z_ln 284 = 200 := by decide +kernel
        exact T_ret ⟨c2, f4, (y_V2.u o7), Or.inl (⟨x42, rfl, by omega, by omega⟩)⟩
      · refine T_ite (fun h47 => ?_) (fun h47 => ?_)
        · refine T_if1 (by decide +kernel) ?_
          refine T_let 286 (by decide +kernel) ?_
          refine T_if1 (by decide +kernel) ?_
          refine T_get (by decide +kernel) (c := 287) (by decide +kernel) bdr_287 (by decide) c2 (fun x48 e49 b50 w51 => ?_)
          have l52 : z_ln 286 = 200 := by decide +kernel
          exact T_ret ⟨c2, f4, (y_V2.u o7), Or.inl (⟨x48, rfl, by omega, by omega⟩)⟩
        · refine T_ite (fun h53 => ?_) (fun h53 => ?_)
          · refine T_if1 (by decide +kernel) ?_
            refine T_let 288 (by decide +kernel) ?_
            refine T_if1 (by decide +kernel) ?_
            refine T_get (by decide +kernel) (c := 289) (by decide +kernel) bdr_289 (by decide) c2 (fun x54 e55 b56 w57 => ?_)
            have l58 : z_ln 288 = 200 := by decide +kernel
            exact T_ret ⟨c2, f4, (y_V2.u o7), Or.inl (⟨x54, rfl, by omega, by omega⟩)⟩
          · refine T_ite (fun h59 => ?_) (fun h59 => ?_)
            · refine T_if1 (by decide +kernel) ?_
              refine T_let 290 (by decide +kernel) ?_
              refine T_if1 (by decide +kernel) ?_
              refine T_get (by decide +kernel) (c := 291) (by decide +kernel) bdr_291 (by decide) c2 (fun x60 e61 b62 w63 => ?_)
              have l64 : z_ln 290 = 200 := by decide +kernel
              exact T_ret ⟨c2, f4, (y_V2.u o7), Or.inl (⟨x60, rfl, by omega, by omega⟩)⟩
            · refine T_ite (fun h65 => ?_) (fun h65 => ?_)
              · refine T_if1 (by decide +kernel) ?_
                refine T_useI (sf_X0_padAhead_279 hfu s1 c2 a1 (by omega)) (fun v71 s66 hq => ?_)
                obtain ⟨c67, f68, ⟨x70, rfl, b72, b73⟩⟩ := hq
                refine T_vI ?_
                have f69 := z_Fr.tr (R := R_X11_block_1) f4 f68 (fun a b h => absurd h not_false)
                have t74 : s66 279 9 = s1 279 9 := f68 279 9 (by decide)
                have r75 := y_U2.fr o7 (f68 191 16 (by decide)) (f68 6 6 (by decide)) (f68 191 17 (by decide)) (f68 191 18 (by decide)) (fun b => f68 3 b (nr_X0_padAhead_279__3 b)) (fun b => f68 8 b (nr_X0_padAhead_279__8 b)) (fun b => f68 12 b (nr_X0_padAhead_279__12 b)) (fun b => f68 14 b (nr_X0_padAhead_279__14 b)) (fun b => f68 16 b (nr_X0_padAhead_279__16 b)) (fun b => f68 18 b (nr_X0_padAhead_279__18 b)) (fun b => f68 193 b (nr_X0_padAhead_279__193 b)) (fun b => f68 195 b (nr_X0_padAhead_279__195 b)) (fun b => f68 197 b (nr_X0_padAhead_279__197 b)) (fun b => f68 199 b (nr_X0_padAhead_279__199 b)) (fun b => f68 201 b (nr_X0_padAhead_279__201 b)) (fun b => f68 203 b (nr_X0_padAhead_279__203 b)) (fun b => f68 205 b (nr_X0_padAhead_279__205 b)) (fun b => f68 207 b (nr_X0_padAhead_279__207 b)) (fun b => f68 209 b (nr_X0_padAhead_279__209 b)) (fun b => f68 211 b (nr_X0_padAhead_279__211 b)) (fun b => f68 213 b (nr_X0_padAhead_279__213 b)) (fun b => f68 215 b (nr_X0_padAhead_279__215 b)) (fun b => f68 217 b (nr_X0_padAhead_279__217 b)) (fun b => f68 219 b (nr_X0_padAhead_279__219 b))
                have r76 := y_B0.fr o7.1 (f68 211 0 (by decide)) (f68 213 0 (by decide))
                exact T_ret ⟨c67, f69, (y_V2.u r75), Or.inl (⟨x70, rfl, by omega, by omega⟩)⟩
              · refine T_if1 (by decide +kernel) ?_
                refine T_useI (sf_X0_padBehind_279 hfu s1 c2 a1 (by omega)) (fun v82 s77 hq => ?_)
                obtain ⟨c78, f79, ⟨x81, rfl, b83, b84⟩⟩ := hq
                refine T_vI ?_
                have f80 := z_Fr.tr (R := R_X11_block_1) f4 f79 (fun a b h => absurd h not_false)
                have t85 : s77 279 9 = s1 279 9 := f79 279 9 (by decide)
                have r86 := y_U2.fr o7 (f79 191 16 (by decide)) (f79 6 6 (by decide)) (f79 191 17 (by decide)) (f79 191 18 (by decide)) (fun b => f79 3 b (nr_X0_padBehind_279__3 b)) (fun b => f79 8 b (nr_X0_padBehind_279__8 b)) (fun b => f79 12 b (nr_X0_padBehind_279__12 b)) (fun b => f79 14 b (nr_X0_padBehind_279__14 b)) (fun b => f79 16 b (nr_X0_padBehind_279__16 b)) (fun b => f79 18 b (nr_X0_padBehind_279__18 b)) (fun b => f79 193 b (nr_X0_padBehind_279__193 b)) (fun b => f79 195 b (nr_X0_padBehind_279__195 b)) (fun b => f79 197 b (nr_X0_padBehind_279__197 b)) (fun b => f79 199 b (nr_X0_padBehind_279__199 b)) (fun b => f79 201 b (nr_X0_padBehind_279__201 b)) (fun b => f79 203 b (nr_X0_padBehind_279__203 b)) (fun b => f79 205 b (nr_X0_padBehind_279__205 b)) (fun b => f79 207 b (nr_X0_padBehind_279__207 b)) (fun b => f79 209 b (nr_X0_padBehind_279__209 b)) (fun b => f79 211 b (nr_X0_padBehind_279__211 b)) (fun b => f79 213 b (nr_X0_padBehind_279__213 b)) (fun b => f79 215 b (nr_X0_padBehind_279__215 b)) (fun b => f79 217 b (nr_X0_padBehind_279__217 b)) (fun b => f79 219 b (nr_X0_padBehind_279__219 b))
                have r87 := y_B0.fr o7.1 (f79 211 0 (by decide)) (f79 213 0 (by decide))
                exact T_ret ⟨c78, f80, (y_V2.u r86), Or.inl (⟨x81, rfl, by omega, by omega⟩)⟩
abbrev P_X11_reading_1D (r0 : z_M) : z_V → z_M → Prop := fun v s' => z_CI s' ∧ z_Fr R_X11_reading_1 r0 s' ∧ (y_V2 s') ∧ ((∃ x, v = vI x ∧ -2147483648 ≤ x ∧ x ≤ 2147483647) ∨ v = vX 0 ∨ v = vX 1)
theorem nr_X0_letters_279__3 (b : Int) : ¬ R_X0_letters_279 3 b := not_false
theorem nr_X0_letters_279__16 (b : Int) : ¬ R_X0_letters_279 16 b := not_false
theorem nr_X0_letters_279__18 (b : Int) : ¬ R_X0_letters_279 18 b := not_false
theorem nr_X0_letters_279__199 (b : Int) : ¬ R_X0_letters_279 199 b := not_false
theorem nr_X0_letters_279__201 (b : Int) : ¬ R_X0_letters_279 201 b := not_false
theorem nr_X0_letters_279__203 (b : Int) : ¬ R_X0_letters_279 203 b := not_false
theorem nr_X0_letters_279__205 (b : Int) : ¬ R_X0_letters_279 205 b := not_false
theorem nr_X0_letters_279__207 (b : Int) : ¬ R_X0_letters_279 207 b := not_false
theorem nr_X0_letters_279__209 (b : Int) : ¬ R_X0_letters_279 209 b := not_false
theorem nr_X0_letters_279__211 (b : Int) : ¬ R_X0_letters_279 211 b := not_false
theorem nr_X0_letters_279__213 (b : Int) : ¬ R_X0_letters_279 213 b := not_false
theorem nr_X0_letters_279__217 (b : Int) : ¬ R_X0_letters_279 217 b := not_false
theorem nr_X0_letters_279__219 (b : Int) : ¬ R_X0_letters_279 219 b := not_false
theorem nr_X3_letterPlace_258__3 (b : Int) : ¬ R_X3_letterPlace_258 3 b := not_false
theorem nr_X3_letterPlace_258__16 (b : Int) : ¬ R_X3_letterPlace_258 16 b := not_false
theorem nr_X3_letterPlace_258__18 (b : Int) : ¬ R_X3_letterPlace_258 18 b := not_false
theorem nr_X3_letterPlace_258__199 (b : Int) : ¬ R_X3_letterPlace_258 199 b := not_false
theorem nr_X3_letterPlace_258__201 (b : Int) : ¬ R_X3_letterPlace_258 201 b := not_false
theorem nr_X3_letterPlace_258__203 (b : Int) : ¬ R_X3_letterPlace_258 203 b := not_false
theorem nr_X3_letterPlace_258__205 (b : Int) : ¬ R_X3_letterPlace_258 205 b := not_false
theorem nr_X3_letterPlace_258__207 (b : Int) : ¬ R_X3_letterPlace_258 207 b := not_false
theorem nr_X3_letterPlace_258__209 (b : Int) : ¬ R_X3_letterPlace_258 209 b := not_false
theorem nr_X3_letterPlace_258__211 (b : Int) : ¬ R_X3_letterPlace_258 211 b := not_false
theorem nr_X3_letterPlace_258__213 (b : Int) : ¬ R_X3_letterPlace_258 213 b := not_false
theorem nr_X3_letterPlace_258__217 (b : Int) : ¬ R_X3_letterPlace_258 217 b := not_false
theorem nr_X3_letterPlace_258__219 (b : Int) : ¬ R_X3_letterPlace_258 219 b := not_false
theorem sj_X11_reading_1D_J112 {fu : Nat} (hfu : 8589934592 ≤ fu) (r0 s : z_M) (c : z_CI s) (f : z_Fr R_X11_reading_1 r0 s) (t0 : Int) (d0 : -2147483648 ≤ t0 ∧ t0 ≤ 2147483647) (p0 : y_V2 s) : z_T (fX11_reading_J112 fu s t0) (P_X11_reading_1D r0) := by
  refine T_of (fX11_reading_J112.eq_1 ..) ?_
  have u1 := CI_b c (k := 279) (j := 9) bd_279_9
  exact T_ret ⟨c, f, p0, Or.inl (⟨t0, rfl, by omega, by omega⟩)⟩
theorem nr_X3_letterCode_258__3 (b : Int) : ¬ R_X3_letterCode_258 3 b := not_false
theorem nr_X3_letterCode_258__16 (b : Int) : ¬ R_X3_letterCode_258 16 b := not_false
theorem nr_X3_letterCode_258__18 (b : Int) : ¬ R_X3_letterCode_258 18 b := not_false
theorem nr_X3_letterCode_258__199 (b : Int) : ¬ R_X3_letterCode_258 199 b := not_false
theorem nr_X3_letterCode_258__201 (b : Int) : ¬ R_X3_letterCode_258 201 b := not_false
theorem nr_X3_letterCode_258__203 (b : Int) : ¬ R_X3_letterCode_258 203 b := not_false
theorem nr_X3_letterCode_258__205 (b : Int) : ¬ R_X3_letterCode_258 205 b := not_false
theorem nr_X3_letterCode_258__207 (b : Int) : ¬ R_X3_letterCode_258 207 b := not_false
theorem nr_X3_letterCode_258__209 (b : Int) : ¬ R_X3_letterCode_258 209 b := not_false
theorem nr_X3_letterCode_258__211 (b : Int) : ¬ R_X3_letterCode_258 211 b := not_false
theorem nr_X3_letterCode_258__213 (b : Int) : ¬ R_X3_letterCode_258 213 b := not_false
theorem nr_X3_letterCode_258__217 (b : Int) : ¬ R_X3_letterCode_258 217 b := not_false
theorem nr_X3_letterCode_258__219 (b : Int) : ¬ R_X3_letterCode_258 219 b := not_false
theorem sj_X11_reading_1D_J90 {fu : Nat} (hfu : 8589934592 ≤ fu) (r0 s : z_M) (c : z_CI s) (f : z_Fr R_X11_reading_1 r0 s) (t0 : Int) (d0 : -2147483648 ≤ t0 ∧ t0 ≤ 2147483647) (p0 : y_V2 s) : z_T (fX11_reading_J90 fu s t0) (P_X11_reading_1D r0) := by
  refine T_of (fX11_reading_J90.eq_1 ..) ?_
  have u1 := CI_b c (k := 279) (j := 9) bd_279_9
  exact T_ret ⟨c, f, p0, Or.inl (⟨t0, rfl, by omega, by omega⟩)⟩
theorem sj_X11_reading_1D_J64 {fu : Nat} (hfu : 8589934592 ≤ fu) (r0 s : z_M) (c : z_CI s) (f : z_Fr R_X11_reading_1 r0 s) (a1 : Int) (a2 : Int) (a3 : Int) (a4 : Int) (t0 : Int) (b1 : -2147483648 ≤ a1 ∧ a1 ≤ 2147483647) (b2 : -2147483648 ≤ a2 ∧ a2 ≤ 2147483647) (b3 : -2147483648 ≤ a3 ∧ a3 ≤ 2147483647) (b4 : -2147483648 ≤ a4 ∧ a4 ≤ 2147483647) (d0 : 0 ≤ t0 ∧ t0 ≤ 1) (p0 : y_V2 s) : z_T (fX11_reading_J64 fu s 1 a1 a2 a3 a4 t0) (P_X11_reading_1D r0) := by
  refine T_of (fX11_reading_J64.eq_1 ..) ?_
  have u1 := CI_b c (k := 279) (j := 9) bd_279_9
  refine T_ite (fun h2 => ?_) (fun h2 => ?_)
  · refine T_ite (fun h3 => ?_) (fun h3 => ?_)
    · refine T_if1 (by decide +kernel) ?_
      refine T_let 258 (by decide +kernel) ?_
      refine T_if1 (by decide +kernel) ?_
      refine T_useI (sf_X3_letterPlace_258 hfu s c a1 a2 a3 (by omega) (by omega) (by omega)) (fun v9 s4 hq => ?_)
      obtain ⟨c5, f6, ⟨x8, rfl, b10, b11⟩⟩ := hq
      refine T_vI ?_
      have f7 := z_Fr.tr (R := R_X11_reading_1) f f6 (fun a b h => absurd h not_false)
      have t12 : s4 279 9 = s 279 9 := f6 279 9 (by decide)
      have r13 := y_V2.fr p0 (f6 1 16 (by decide)) (f6 191 16 (by decide)) (f6 6 6 (by decide)) (f6 191 17 (by decide)) (f6 191 18 (by decide)) (fun b => f6 3 b (nr_X3_letterPlace_258__3 b)) (fun b => f6 8 b (nr_X3_letterPlace_258__8 b)) (fun b => f6 12 b (nr_X3_letterPlace_258__12 b)) (fun b => f6 14 b (nr_X3_letterPlace_258__14 b)) (fun b => f6 16 b (nr_X3_letterPlace_258__16 b)) (fun b => f6 18 b (nr_X3_letterPlace_258__18 b)) (fun b => f6 193 b (nr_X3_letterPlace_258__193 b)) (fun b => f6 195 b (nr_X3_letterPlace_258__195 b)) (fun b => f6 197 b (nr_X3_letterPlace_258__197 b)) (fun b => f6 199 b (nr_X3_letterPlace_258__199 b)) (fun b => f6 201 b (nr_X3_letterPlace_258__201 b)) (fun b => f6 203 b (nr_X3_letterPlace_258__203 b)) (fun b => f6 205 b (nr_X3_letterPlace_258__205 b)) (fun b => f6 207 b (nr_X3_letterPlace_258__207 b)) (fun b => f6 209 b (nr_X3_letterPlace_258__209 b)) (fun b => f6 211 b (nr_X3_letterPlace_258__211 b)) (fun b => f6 213 b (nr_X3_letterPlace_258__213 b)) (fun b => f6 215 b (nr_X3_letterPlace_258__215 b)) (fun b => f6 217 b (nr_X3_letterPlace_258__217 b)) (fun b => f6 219 b (nr_X3_letterPlace_258__219 b))
      have r14 := y_B0.fr p0.1 (f6 211 0 (by decide)) (f6 213 0 (by decide))
      exact sj_X11_reading_1D_J112 hfu r0 s4 c5 f7 x8 (by omega) r13
    · exact sj_X11_reading_1D_J112 hfu r0 s c f (-1000) (by omega) p0
  · refine T_ite (fun h15 => ?_) (fun h15 => ?_)
    · refine T_if1 (by decide +kernel) ?_
      refine T_let 258 (by decide +kernel) ?_
      refine T_if1 (by decide +kernel) ?_
      refine T_useI (sf_X3_letterCode_258 hfu s c a1 a2 a3 (by omega) (by omega) (by omega)) (fun v21 s16 hq => ?_)
      obtain ⟨c17, f18, ⟨x20, rfl, b22, b23⟩⟩ := hq
      refine T_vI ?_
      have f19 := z_Fr.tr (R := R_X11_reading_1) f f18 (fun a b h => absurd h not_false)
      have t24 : s16 279 9 = s 279 9 := f18 279 9 (by decide)
      have r25 := y_V2.fr p0 (f18 1 16 (by decide)) (f18 191 16 (by decide)) (f18 6 6 (by decide)) (f18 191 17 (by decide)) (f18 191 18 (by decide)) (fun b => f18 3 b (nr_X3_letterCode_258__3 b)) (fun b => f18 8 b (nr_X3_letterCode_258__8 b)) (fun b => f18 12 b (nr_X3_letterCode_258__12 b)) (fun b => f18 14 b (nr_X3_letterCode_258__14 b)) (fun b => f18 16 b (nr_X3_letterCode_258__16 b)) (fun b => f18 18 b (nr_X3_letterCode_258__18 b)) (fun b => f18 193 b (nr_X3_letterCode_258__193 b)) (fun b => f18 195 b (nr_X3_letterCode_258__195 b)) (fun b => f18 197 b (nr_X3_letterCode_258__197 b)) (fun b => f18 199 b (nr_X3_letterCode_258__199 b)) (fun b => f18 201 b (nr_X3_letterCode_258__201 b)) (fun b => f18 203 b (nr_X3_letterCode_258__203 b)) (fun b => f18 205 b (nr_X3_letterCode_258__205 b)) (fun b => f18 207 b (nr_X3_letterCode_258__207 b)) (fun b => f18 209 b (nr_X3_letterCode_258__209 b)) (fun b => f18 211 b (nr_X3_letterCode_258__211 b)) (fun b => f18 213 b (nr_X3_letterCode_258__213 b)) (fun b => f18 215 b (nr_X3_letterCode_258__215 b)) (fun b => f18 217 b (nr_X3_letterCode_258__217 b)) (fun b => f18 219 b (nr_X3_letterCode_258__219 b))
      have r26 := y_B0.fr p0.1 (f18 211 0 (by decide)) (f18 213 0 (by decide))
      exact sj_X11_reading_1D_J90 hfu r0 s16 c17 f19 x20 (by omega) r25
    · exact sj_X11_reading_1D_J90 hfu r0 s c f (-1) (by omega) p0
theorem sf_X11_reading_1D {fu : Nat} (hfu : 8589934592 ≤ fu) (r0 : z_M) (c0 : z_CI r0) (a1 : Int) (a2 : Int) (a3 : Int) (a4 : Int) (b1 : -2147483648 ≤ a1 ∧ a1 ≤ 2147483647) (b2 : -2147483648 ≤ a2 ∧ a2 ≤ 2147483647) (b3 : -2147483648 ≤ a3 ∧ a3 ≤ 2147483647) (b4 : -2147483648 ≤ a4 ∧ a4 ≤ 2147483647) (p0 : y_V2 r0) : z_T (fX11_reading fu r0 1 a1 a2 a3 a4) (P_X11_reading_1D r0) := by
  refine T_of (fX11_reading.eq_1 ..) ?_
  refine T_if1 (by decide +kernel) ?_
  refine T_useN (sf_X11_refresh_1D hfu r0 c0 p0) (fun v6 s1 hq => ?_)
  obtain ⟨c2, f3, o7, rfl⟩ := hq
  refine T_vN ?_
  have f4 := z_Fr.tr (R := R_X11_reading_1) z_Fr.rf f3 rs_X11_refresh_1__X11_reading_1
  have u10 := CI_b c2 (k := 279) (j := 9) bd_279_9
  refine T_if1 (by decide +kernel) ?_
  refine T_let 258 (by decide +kernel) ?_
  refine T_if1 (by decide +kernel) ?_
  refine T_let 279 (by decide +kernel) ?_
  refine T_if1 (by decide +kernel) ?_
  refine T_leq (fun x11 e12 => ?_)
  have u13 := CI_b c2 (k := 279) (j := 9) bd_279_9
  refine T_if1 (by decide +kernel) ?_
  refine T_ne ?_ (fun h14 h15 => ?_)
  · exact T_ret ⟨CI_up c2 bd_1_14 (z_wb rfl).1, z_Fr.upf (R := R_X11_reading_1) f4 (fun a b h => z_up_k h) (fun b h => z_up_j h) (Or.inr (Or.inr (Or.inr (Or.inr (Or.inr (Or.inr (Or.inr (Or.inl (⟨rfl, by decide⟩))))))))), y_V2.u (y_U2.fr o7 (z_up_k (by decide)) (z_up_k (by decide)) (z_up_k (by decide)) (z_up_k (by decide)) (fun _ => z_up_k (by decide)) (fun _ => z_up_k (by decide)) (fun _ => z_up_k (by decide)) (fun _ => z_up_k (by decide)) (fun _ => z_up_k (by decide)) (fun _ => z_up_k (by decide)) (fun _ => z_up_k (by decide)) (fun _ => z_up_k (by decide)) (fun _ => z_up_k (by decide)) (fun _ => z_up_k (by decide)) (fun _ => z_up_k (by decide)) (fun _ => z_up_k (by decide)) (fun _ => z_up_k (by decide)) (fun _ => z_up_k (by decide)) (fun _ => z_up_k (by decide)) (fun _ => z_up_k (by decide)) (fun _ => z_up_k (by decide)) (fun _ => z_up_k (by decide)) (fun _ => z_up_k (by decide)) (fun _ => z_up_k (by decide))), Or.inr (Or.inl rfl)⟩
  refine T_if1 (by decide +kernel) ?_
  refine T_nw ?_ (fun h16 h17 => ?_)
  · exact T_ret ⟨CI_up c2 bd_1_15 (z_wb rfl).1, z_Fr.upf (R := R_X11_reading_1) f4 (fun a b h => z_up_k h) (fun b h => z_up_j h) (Or.inr (Or.inr (Or.inr (Or.inr (Or.inr (Or.inr (Or.inr (Or.inl (⟨rfl, by decide⟩))))))))), y_V2.u (y_U2.fr o7 (z_up_k (by decide)) (z_up_k (by decide)) (z_up_k (by decide)) (z_up_k (by decide)) (fun _ => z_up_k (by decide)) (fun _ => z_up_k (by decide)) (fun _ => z_up_k (by decide)) (fun _ => z_up_k (by decide)) (fun _ => z_up_k (by decide)) (fun _ => z_up_k (by decide)) (fun _ => z_up_k (by decide)) (fun _ => z_up_k (by decide)) (fun _ => z_up_k (by decide)) (fun _ => z_up_k (by decide)) (fun _ => z_up_k (by decide)) (fun _ => z_up_k (by decide)) (fun _ => z_up_k (by decide)) (fun _ => z_up_k (by decide)) (fun _ => z_up_k (by decide)) (fun _ => z_up_k (by decide)) (fun _ => z_up_k (by decide)) (fun _ => z_up_k (by decide)) (fun _ => z_up_k (by decide)) (fun _ => z_up_k (by decide))), Or.inr (Or.inr rfl)⟩
  refine T_if1 (by decide +kernel) ?_
  refine T_nw ?_ (fun h18 h19 => ?_)
  · exact T_ret ⟨CI_up c2 bd_1_15 (z_wb rfl).1, z_Fr.upf (R := R_X11_reading_1) f4 (fun a b h => z_up_k h) (fun b h => z_up_j h) (Or.inr (Or.inr (Or.inr (Or.inr (Or.inr (Or.inr (Or.inr (Or.inl (⟨rfl, by decide⟩))))))))), y_V2.u (y_U2.fr o7 (z_up_k (by decide)) (z_up_k (by decide)) (z_up_k (by decide)) (z_up_k (by decide)) (fun _ => z_up_k (by decide)) (fun _ => z_up_k (by decide)) (fun _ => z_up_k (by decide)) (fun _ => z_up_k (by decide)) (fun _ => z_up_k (by decide)) (fun _ => z_up_k (by decide)) (fun _ => z_up_k (by decide)) (fun _ => z_up_k (by decide)) (fun _ => z_up_k (by decide)) (fun _ => z_up_k (by decide)) (fun _ => z_up_k (by decide)) (fun _ => z_up_k (by decide)) (fun _ => z_up_k (by decide)) (fun _ => z_up_k (by decide)) (fun _ => z_up_k (by decide)) (fun _ => z_up_k (by decide)) (fun _ => z_up_k (by decide)) (fun _ => z_up_k (by decide)) (fun _ => z_up_k (by decide)) (fun _ => z_up_k (by decide))), Or.inr (Or.inr rfl)⟩
  refine T_if1 (by decide +kernel) ?_
  refine T_nw ?_ (fun h20 h21 => ?_)
  · exact T_ret ⟨CI_up c2 bd_1_15 (z_wb rfl).1, z_Fr.upf (R := R_X11_reading_1) f4 (fun a b h => z_up_k h) (fun b h => z_up_j h) (Or.inr (Or.inr (Or.inr (Or.inr (Or.inr (Or.inr (Or.inr (Or.inl (⟨rfl, by decide⟩))))))))), y_V2.u (y_U2.fr o7 (z_up_k (by decide)) (z_up_k (by decide)) (z_up_k (by decide)) (z_up_k (by decide)) (fun _ => z_up_k (by decide)) (fun _ => z_up_k (by decide)) (fun _ => z_up_k (by decide)) (fun _ => z_up_k (by decide)) (fun _ => z_up_k (by decide)) (fun _ => z_up_k (by decide)) (fun _ => z_up_k (by decide)) (fun _ => z_up_k (by decide)) (fun _ => z_up_k (by decide)) (fun _ => z_up_k (by decide)) (fun _ => z_up_k (by decide)) (fun _ => z_up_k (by decide)) (fun _ => z_up_k (by decide)) (fun _ => z_up_k (by decide)) (fun _ => z_up_k (by decide)) (fun _ => z_up_k (by decide)) (fun _ => z_up_k (by decide)) (fun _ => z_up_k (by decide)) (fun _ => z_up_k (by decide)) (fun _ => z_up_k (by decide))), Or.inr (Or.inr rfl)⟩
  refine T_if1 (by decide +kernel) ?_
  refine T_let 258 (by decide +kernel) ?_
  refine T_if1 (by decide +kernel) ?_
  refine T_let 279 (by decide +kernel) ?_
  refine T_if1 (by decide +kernel) ?_
  refine T_useI (sf_X0_letters_279 hfu s1 c2 a1 a2 (by omega) (by omega)) (fun v27 s22 hq => ?_)
  obtain ⟨c23, f24, ⟨x26, rfl, b28, b29⟩⟩ := hq
  refine T_vI ?_
  have f25 := z_Fr.tr (R := R_X11_reading_1) f4 f24 (fun a b h => absurd h not_false)
  have t30 : s22 279 9 = s1 279 9 := f24 279 9 (by decide)
  have r31 := y_U2.fr o7 (f24 191 16 (by decide)) (f24 6 6 (by decide)) (f24 191 17 (by decide)) (f24 191 18 (by decide)) (fun b => f24 3 b (nr_X0_letters_279__3 b)) (fun b => f24 8 b (nr_X0_letters_279__8 b)) (fun b => f24 12 b (nr_X0_letters_279__12 b)) (fun b => f24 14 b (nr_X0_letters_279__14 b)) (fun b => f24 16 b (nr_X0_letters_279__16 b)) (fun b => f24 18 b (nr_X0_letters_279__18 b)) (fun b => f24 193 b (nr_X0_letters_279__193 b)) (fun b => f24 195 b (nr_X0_letters_279__195 b)) (fun b => f24 197 b (nr_X0_letters_279__197 b)) (fun b => f24 199 b (nr_X0_letters_279__199 b)) (fun b => f24 201 b (nr_X0_letters_279__201 b)) (fun b => f24 203 b (nr_X0_letters_279__203 b)) (fun b => f24 205 b (nr_X0_letters_279__205 b)) (fun b => f24 207 b (nr_X0_letters_279__207 b)) (fun b => f24 209 b (nr_X0_letters_279__209 b)) (fun b => f24 211 b (nr_X0_letters_279__211 b)) (fun b => f24 213 b (nr_X0_letters_279__213 b)) (fun b => f24 215 b (nr_X0_letters_279__215 b)) (fun b => f24 217 b (nr_X0_letters_279__217 b)) (fun b => f24 219 b (nr_X0_letters_279__219 b))
  have r32 := y_B0.fr o7.1 (f24 211 0 (by decide)) (f24 213 0 (by decide))
  refine T_ite (fun h33 => ?_) (fun h33 => ?_)
  · exact sj_X11_reading_1D_J64 hfu r0 s22 c23 f25 a1 a2 a3 a4 0 (by omega) (by omega) (by omega) (by omega) (by omega) (y_V2.u r31)
  · exact sj_X11_reading_1D_J64 hfu r0 s22 c23 f25 a1 a2 a3 a4 1 (by omega) (by omega) (by omega) (by omega) (by omega) (y_V2.u r31)
abbrev P_X11_run_1D (r0 : z_M) : z_V → z_M → Prop := fun v s' => z_CI s' ∧ z_Fr R_X11_run_1 r0 s' ∧ (y_V2 s') ∧ ((∃ x, v = vI x ∧ -2147483648 ≤ x ∧ x ≤ 2147483647) ∨ v = vX 1)
theorem sj_X11_run_1D_J111 {fu : Nat} (hfu : 8589934592 ≤ fu) (r0 s : z_M) (c : z_CI s) (f : z_Fr R_X11_run_1 r0 s) (a1 : Int) (a2 : Int) (a3 : Int) (a4 : Int) (a5 : Int) (b1 : -2147483648 ≤ a1 ∧ a1 ≤ 2147483647) (b2 : -2147483648 ≤ a2 ∧ a2 ≤ 2147483647) (b3 : -2147483648 ≤ a3 ∧ a3 ≤ 2147483647) (b4 : -2147483648 ≤ a4 ∧ a4 ≤ 2147483647) (b5 : -2147483648 ≤ a5 ∧ a5 ≤ 2147483646) (p0 : y_V2 s) (M : Int) (pm : 2147483647 - a5 ≤ M) {r : z_M → Int → Int → Int → z_O} {k : z_M → z_O} (hr : ∀ (s' : z_M) (v3 : Int) (v4 : Int) (v5 : Int), z_CI s' → z_Fr R_X11_run_1 r0 s' → (-2147483648 ≤ v3 ∧ v3 ≤ 2147483647) → (-2147483648 ≤ v4 ∧ v4 ≤ 2147483647) → (-2147483648 ≤ v5 ∧ v5 ≤ 2147483647) → (y_V2 s') → (2147483647 - v5 < M) → z_T (r s' v3 v4 v5) (P_X11_run_1D r0)) (hk : ∀ (s' : z_M), z_CI s' → z_Fr R_X11_run_1 r0 s' → (y_V2 s') → z_T (k s') (P_X11_run_1D r0)) : z_T (fX11_run_J111 fu s 1 a1 a2 a3 a4 a5 r k) (P_X11_run_1D r0) := by
  refine T_of (fX11_run_J111.eq_1 ..) ?_
  have u1 := CI_b c (k := 6) (j := 6) bd_6_6
  refine T_leq (fun x2 e3 => ?_)
  have w4 := z_wb e3
  exact hr s a3 a4 x2 c f (by omega) (by omega) (by omega) p0 (by omega)
theorem sj_X11_run_1D_J103 {fu : Nat} (hfu : 8589934592 ≤ fu) (r0 s : z_M) (c : z_CI s) (f : z_Fr R_X11_run_1 r0 s) (t0 : Int) (a1 : Int) (a2 : Int) (d0 : -2147483648 ≤ t0 ∧ t0 ≤ 2147483647) (e1 : -2147483648 ≤ a1 ∧ a1 ≤ 2147483647) (e2 : -2147483648 ≤ a2 ∧ a2 ≤ 2147483647) (p0 : y_V2 s) (M : Int) (pm : (0 : Int) ≤ 0) {r : z_M → Int → Int → Int → z_O} {k : z_M → z_O} (hr : ∀ (s' : z_M) (v3 : Int) (v4 : Int) (v5 : Int), z_CI s' → z_Fr R_X11_run_1 r0 s' → (-2147483648 ≤ v3 ∧ v3 ≤ 2147483647) → (-2147483648 ≤ v4 ∧ v4 ≤ 2147483647) → (-2147483648 ≤ v5 ∧ v5 ≤ 2147483647) → (y_V2 s') → (2147483647 - v5 < M) → z_T (r s' v3 v4 v5) (P_X11_run_1D r0)) (hk : ∀ (s' : z_M), z_CI s' → z_Fr R_X11_run_1 r0 s' → (y_V2 s') → z_T (k s') (P_X11_run_1D r0)) : z_T (fX11_run_J103 fu s t0 r k) (P_X11_run_1D r0) := by
  refine T_of (fX11_run_J103.eq_1 ..) ?_
  have u1 := CI_b c (k := 6) (j := 6) bd_6_6
  exact T_ret ⟨c, f, p0, Or.inl (⟨t0, rfl, by omega, by omega⟩)⟩
theorem sj_X11_run_1D_J74 {fu : Nat} (hfu : 8589934592 ≤ fu) (r0 s : z_M) (c : z_CI s) (f : z_Fr R_X11_run_1 r0 s) (a1 : Int) (a2 : Int) (a3 : Int) (a4 : Int) (a5 : Int) (a6 : Int) (b1 : -2147483648 ≤ a1 ∧ a1 ≤ 2147483647) (b2 : -2147483648 ≤ a2 ∧ a2 ≤ 2147483647) (b3 : -2147483648 ≤ a3 ∧ a3 ≤ 2147483647) (b4 : -2147483648 ≤ a4 ∧ a4 ≤ 2147483647) (b5 : -2147483648 ≤ a5 ∧ a5 ≤ 2147483646) (b6 : -2147483648 ≤ a6 ∧ a6 ≤ 2147483647) (p0 : y_V2 s) (M : Int) (pm : 2147483647 - a5 ≤ M) {r : z_M → Int → Int → Int → z_O} {k : z_M → z_O} (hr : ∀ (s' : z_M) (v3 : Int) (v4 : Int) (v5 : Int), z_CI s' → z_Fr R_X11_run_1 r0 s' → (-2147483648 ≤ v3 ∧ v3 ≤ 2147483647) → (-2147483648 ≤ v4 ∧ v4 ≤ 2147483647) → (-2147483648 ≤ v5 ∧ v5 ≤ 2147483647) → (y_V2 s') → (2147483647 - v5 < M) → z_T (r s' v3 v4 v5) (P_X11_run_1D r0)) (hk : ∀ (s' : z_M), z_CI s' → z_Fr R_X11_run_1 r0 s' → (y_V2 s') → z_T (k s') (P_X11_run_1D r0)) : z_T (fX11_run_J74 fu s 1 a1 a2 a3 a4 a5 a6 r k) (P_X11_run_1D r0) := by
  refine T_of (fX11_run_J74.eq_1 ..) ?_
  have u1 := CI_b c (k := 6) (j := 6) bd_6_6
  refine T_ite (fun h2 => ?_) (fun h2 => ?_)
  · refine T_leq (fun x3 e4 => ?_)
    have w5 := z_wb e4
    exact sj_X11_run_1D_J111 hfu r0 s c f a1 a2 x3 a5 a5 (by omega) (by omega) (by omega) (by omega) (by omega) p0 M (by omega) (fun s' v3 v4 v5 c' f' w3 w4 w5 z0 pg => hr s' v3 v4 v5 c' f' w3 w4 w5 z0 (by omega)) hk
  · refine T_ite (fun h6 => ?_) (fun h6 => ?_)
    · refine T_ite (fun h7 => ?_) (fun h7 => ?_)
      · exact sj_X11_run_1D_J103 hfu r0 s c f a6 a1 a2 (by omega) (by omega) (by omega) p0 M (by omega) (fun s' v3 v4 v5 c' f' w3 w4 w5 z0 pg => hr s' v3 v4 v5 c' f' w3 w4 w5 z0 (by omega)) hk
      · refine T_leq (fun x8 e9 => ?_)
        have w10 := z_wr e9
        exact sj_X11_run_1D_J103 hfu r0 s c f x8 a1 a2 (by omega) (by omega) (by omega) p0 M (by omega) (fun s' v3 v4 v5 c' f' w3 w4 w5 z0 pg => hr s' v3 v4 v5 c' f' w3 w4 w5 z0 (by omega)) hk
    · exact sj_X11_run_1D_J103 hfu r0 s c f a4 a1 a2 (by omega) (by omega) (by omega) p0 M (by omega) (fun s' v3 v4 v5 c' f' w3 w4 w5 z0 pg => hr s' v3 v4 v5 c' f' w3 w4 w5 z0 (by omega)) hk
theorem sl_X11_run_1D_L19 {fu : Nat} (hfu : 8589934592 ≤ fu) (r0 : z_M) (a1 : Int) (a2 : Int) (b1 : -2147483648 ≤ a1 ∧ a1 ≤ 2147483647) (b2 : -2147483648 ≤ a2 ∧ a2 ≤ 2147483647) {k : z_M → z_O} (hk : ∀ (s' : z_M), z_CI s' → z_Fr R_X11_run_1 r0 s' → (y_V2 s') → z_T (k s') (P_X11_run_1D r0)) : ∀ (F : Nat) (s : z_M) (a3 : Int) (a4 : Int) (a5 : Int), z_CI s → z_Fr R_X11_run_1 r0 s → (-2147483648 ≤ a3 ∧ a3 ≤ 2147483647) → (-2147483648 ≤ a4 ∧ a4 ≤ 2147483647) → (-2147483648 ≤ a5 ∧ a5 ≤ 2147483647) → (y_V2 s) → (2147483647 - a5 < (F : Int)) → z_T (fX11_run_L19 fu 1 a1 a2 F s a3 a4 a5 k) (P_X11_run_1D r0) := by
  intro F
  induction F with
  | zero =>
    intro s a3 a4 a5 c f b3 b4 b5 i0 hm
    have u21 := CI_b c (k := 6) (j := 6) bd_6_6
    exfalso; omega
  | succ F ih =>
    intro s a3 a4 a5 c f b3 b4 b5 i0 hm
    refine T_of (fX11_run_L19.eq_2 ..) ?_
    have u1 := CI_b c (k := 6) (j := 6) bd_6_6
    refine T_if1 (by decide +kernel) ?_
    refine T_let 6 (by decide +kernel) ?_
    refine T_if1 (by decide +kernel) ?_
    refine T_leq (fun x2 e3 => ?_)
    have u4 := CI_b c (k := 6) (j := 6) bd_6_6
    refine T_ite (fun h5 => ?_) (fun h5 => ?_)
    · exact hk s c f i0
    · refine T_if1 (by decide +kernel) ?_
      refine T_let 191 (by decide +kernel) ?_
      refine T_if1 (by decide +kernel) ?_
      refine T_let 218 (by decide +kernel) ?_
      refine T_if1 (by decide +kernel) ?_
      refine T_get (by decide +kernel) (c := 219) (by decide +kernel) bdr_219 (by decide) c (fun x6 e7 b8 w9 => ?_)
      have l10 : z_ln 218 = 200 := by decide +kernel
      refine T_if1 (by decide +kernel) ?_
      refine T_let 6 (by decide +kernel) ?_
      refine T_if1 (by decide +kernel) ?_
      refine T_leq (fun x11 e12 => ?_)
      have u13 := CI_b c (k := 6) (j := 6) bd_6_6
      refine T_ite (fun h14 => ?_) (fun h14 => ?_)
      · exact sj_X11_run_1D_J74 hfu r0 s c f a1 a2 a3 a4 a5 x6 (by omega) (by omega) (by omega) (by omega) (by omega) (by omega) i0 (2147483647 - a5) (by omega) (fun s' v3 v4 v5 c' f' w3 w4 w5 z0 pg => ih s' v3 v4 v5 c' f' w3 w4 w5 z0 (by omega)) hk
      · refine T_if1 (by decide +kernel) ?_
        refine T_let 191 (by decide +kernel) ?_
        refine T_if1 (by decide +kernel) ?_
        refine T_let 218 (by decide +kernel) ?_
        refine T_if1 (by decide +kernel) ?_
        refine T_get (by decide +kernel) (c := 219) (by decide +kernel) bdr_219 (by decide) c (fun x15 e16 b17 w18 => ?_)
        have l19 : z_ln 218 = 200 := by decide +kernel
        refine T_ite (fun h20 => ?_) (fun h20 => ?_)
        · exact sj_X11_run_1D_J111 hfu r0 s c f a1 a2 a3 a4 a5 (by omega) (by omega) (by omega) (by omega) (by omega) i0 (2147483647 - a5) (by omega) (fun s' v3 v4 v5 c' f' w3 w4 w5 z0 pg => ih s' v3 v4 v5 c' f' w3 w4 w5 z0 (by omega)) hk
        · exact sj_X11_run_1D_J74 hfu r0 s c f a1 a2 a3 a4 a5 x6 (by omega) (by omega) (by omega) (by omega) (by omega) (by omega) i0 (2147483647 - a5) (by omega) (fun s' v3 v4 v5 c' f' w3 w4 w5 z0 pg => ih s' v3 v4 v5 c' f' w3 w4 w5 z0 (by omega)) hk
theorem sf_X11_run_1D {fu : Nat} (hfu : 8589934592 ≤ fu) (r0 : z_M) (c0 : z_CI r0) (a1 : Int) (a2 : Int) (b1 : -2147483648 ≤ a1 ∧ a1 ≤ 2147483647) (b2 : -2147483648 ≤ a2 ∧ a2 ≤ 2147483647) (p0 : y_V2 r0) : z_T (fX11_run fu r0 1 a1 a2) (P_X11_run_1D r0) := by
  refine T_of (fX11_run.eq_1 ..) ?_
  refine T_if1 (by decide +kernel) ?_
  refine T_nw ?_ (fun h1 h2 => ?_)
  · exact T_ret ⟨CI_up c0 bd_1_15 (z_wb rfl).1, z_Fr.upf (R := R_X11_run_1) z_Fr.rf (fun a b h => z_up_k h) (fun b h => z_up_j h) (Or.inr (Or.inr (Or.inr (Or.inr (Or.inr (Or.inr (Or.inr (Or.inl (⟨rfl, by decide⟩))))))))), y_V2.fr p0 (z_up_j (by decide)) (z_up_k (by decide)) (z_up_k (by decide)) (z_up_k (by decide)) (z_up_k (by decide)) (fun _ => z_up_k (by decide)) (fun _ => z_up_k (by decide)) (fun _ => z_up_k (by decide)) (fun _ => z_up_k (by decide)) (fun _ => z_up_k (by decide)) (fun _ => z_up_k (by decide)) (fun _ => z_up_k (by decide)) (fun _ => z_up_k (by decide)) (fun _ => z_up_k (by decide)) (fun _ => z_up_k (by decide)) (fun _ => z_up_k (by decide)) (fun _ => z_up_k (by decide)) (fun _ => z_up_k (by decide)) (fun _ => z_up_k (by decide)) (fun _ => z_up_k (by decide)) (fun _ => z_up_k (by decide)) (fun _ => z_up_k (by decide)) (fun _ => z_up_k (by decide)) (fun _ => z_up_k (by decide)) (fun _ => z_up_k (by decide)), Or.inr rfl⟩
  refine T_if1 (by decide +kernel) ?_
  refine T_useN (sf_X11_refresh_1D hfu r0 c0 p0) (fun v8 s3 hq => ?_)
  obtain ⟨c4, f5, o9, rfl⟩ := hq
  refine T_vN ?_
  have f6 := z_Fr.tr (R := R_X11_run_1) z_Fr.rf f5 rs_X11_refresh_1__X11_run_1
  have t12 : s3 6 6 = r0 6 6 := f5 6 6 (by decide)
  refine sl_X11_run_1D_L19 hfu r0 a1 a2 (by omega) (by omega) (fun s13 c14 f15 g16 => ?_) fu s3 0 0 1 c4 f6 (by omega) (by omega) (by omega) (y_V2.u o9) (by omega)
  have u17 := CI_b c14 (k := 6) (j := 6) bd_6_6
  exact T_ret ⟨c14, f15, g16, Or.inl (⟨(-1), rfl, by omega, by omega⟩)⟩
abbrev P_X11_at_1D (r0 : z_M) : z_V → z_M → Prop := fun v s' => z_CI s' ∧ z_Fr R_X11_at_1 r0 s' ∧ (y_V2 s') ∧ ((∃ x, v = vI x ∧ -2147483648 ≤ x ∧ x ≤ 2147483647) ∨ v = vX 0)
theorem nr_X3_standingAt_258__3 (b : Int) : ¬ R_X3_standingAt_258 3 b := by
  unfold R_X3_standingAt_258; omega
theorem nr_X3_standingAt_258__16 (b : Int) : ¬ R_X3_standingAt_258 16 b := by
  unfold R_X3_standingAt_258; omega
theorem nr_X3_standingAt_258__18 (b : Int) : ¬ R_X3_standingAt_258 18 b := by
  unfold R_X3_standingAt_258; omega
theorem nr_X3_standingAt_258__199 (b : Int) : ¬ R_X3_standingAt_258 199 b := by
  unfold R_X3_standingAt_258; omega
theorem nr_X3_standingAt_258__201 (b : Int) : ¬ R_X3_standingAt_258 201 b := by
  unfold R_X3_standingAt_258; omega
theorem nr_X3_standingAt_258__203 (b : Int) : ¬ R_X3_standingAt_258 203 b := by
  unfold R_X3_standingAt_258; omega
theorem nr_X3_standingAt_258__205 (b : Int) : ¬ R_X3_standingAt_258 205 b := by
  unfold R_X3_standingAt_258; omega
theorem nr_X3_standingAt_258__207 (b : Int) : ¬ R_X3_standingAt_258 207 b := by
  unfold R_X3_standingAt_258; omega
theorem nr_X3_standingAt_258__209 (b : Int) : ¬ R_X3_standingAt_258 209 b := by
  unfold R_X3_standingAt_258; omega
theorem nr_X3_standingAt_258__211 (b : Int) : ¬ R_X3_standingAt_258 211 b := by
  unfold R_X3_standingAt_258; omega
theorem nr_X3_standingAt_258__213 (b : Int) : ¬ R_X3_standingAt_258 213 b := by
  unfold R_X3_standingAt_258; omega
theorem nr_X3_standingAt_258__217 (b : Int) : ¬ R_X3_standingAt_258 217 b := by
  unfold R_X3_standingAt_258; omega
theorem nr_X3_standingAt_258__219 (b : Int) : ¬ R_X3_standingAt_258 219 b := by
  unfold R_X3_standingAt_258; omega
theorem sf_X11_at_1D {fu : Nat} (hfu : 8589934592 ≤ fu) (r0 : z_M) (c0 : z_CI r0) (a1 : Int) (a2 : Int) (b1 : -2147483648 ≤ a1 ∧ a1 ≤ 2147483647) (b2 : -2147483648 ≤ a2 ∧ a2 ≤ 2147483647) (p0 : y_V2 r0) : z_T (fX11_at fu r0 1 a1 a2) (P_X11_at_1D r0) := by
  refine T_of (fX11_at.eq_1 ..) ?_
  refine T_if1 (by decide +kernel) ?_
  refine T_useN (sf_X11_refresh_1D hfu r0 c0 p0) (fun v6 s1 hq => ?_)
  obtain ⟨c2, f3, o7, rfl⟩ := hq
  refine T_vN ?_
  have f4 := z_Fr.tr (R := R_X11_at_1) z_Fr.rf f3 rs_X11_refresh_1__X11_at_1
  have u10 := CI_b c2 (k := 240) (j := 6) bd_240_6
  refine T_if1 (by decide +kernel) ?_
  refine T_let 240 (by decide +kernel) ?_
  refine T_if1 (by decide +kernel) ?_
  refine T_leq (fun x11 e12 => ?_)
  have u13 := CI_b c2 (k := 240) (j := 6) bd_240_6
  refine T_if1 (by decide +kernel) ?_
  refine T_ne ?_ (fun h14 h15 => ?_)
  · exact T_ret ⟨CI_up c2 bd_1_14 (z_wb rfl).1, z_Fr.upf (R := R_X11_at_1) f4 (fun a b h => z_up_k h) (fun b h => z_up_j h) (Or.inr (Or.inr (Or.inr (Or.inr (Or.inr (Or.inr (Or.inr (Or.inl (⟨rfl, by decide⟩))))))))), y_V2.u (y_U2.fr o7 (z_up_k (by decide)) (z_up_k (by decide)) (z_up_k (by decide)) (z_up_k (by decide)) (fun _ => z_up_k (by decide)) (fun _ => z_up_k (by decide)) (fun _ => z_up_k (by decide)) (fun _ => z_up_k (by decide)) (fun _ => z_up_k (by decide)) (fun _ => z_up_k (by decide)) (fun _ => z_up_k (by decide)) (fun _ => z_up_k (by decide)) (fun _ => z_up_k (by decide)) (fun _ => z_up_k (by decide)) (fun _ => z_up_k (by decide)) (fun _ => z_up_k (by decide)) (fun _ => z_up_k (by decide)) (fun _ => z_up_k (by decide)) (fun _ => z_up_k (by decide)) (fun _ => z_up_k (by decide)) (fun _ => z_up_k (by decide)) (fun _ => z_up_k (by decide)) (fun _ => z_up_k (by decide)) (fun _ => z_up_k (by decide))), Or.inr rfl⟩
  refine T_if1 (by decide +kernel) ?_
  refine T_let 258 (by decide +kernel) ?_
  refine T_if1 (by decide +kernel) ?_
  refine T_useI (sf_X3_standingAt_258 hfu s1 c2 a1 a2 (by omega) (by omega)) (fun v21 s16 hq => ?_)
  obtain ⟨c17, f18, ⟨x20, rfl, b22, b23⟩⟩ := hq
  refine T_vI ?_
  have f19 := z_Fr.tr (R := R_X11_at_1) f4 f18 rs_X3_standingAt_258__X11_at_1
  have t24 : s16 240 6 = s1 240 6 := f18 240 6 (by decide)
  have r25 := y_U2.fr o7 (f18 191 16 (by decide)) (f18 6 6 (by decide)) (f18 191 17 (by decide)) (f18 191 18 (by decide)) (fun b => f18 3 b (nr_X3_standingAt_258__3 b)) (fun b => f18 8 b (nr_X3_standingAt_258__8 b)) (fun b => f18 12 b (nr_X3_standingAt_258__12 b)) (fun b => f18 14 b (nr_X3_standingAt_258__14 b)) (fun b => f18 16 b (nr_X3_standingAt_258__16 b)) (fun b => f18 18 b (nr_X3_standingAt_258__18 b)) (fun b => f18 193 b (nr_X3_standingAt_258__193 b)) (fun b => f18 195 b (nr_X3_standingAt_258__195 b)) (fun b => f18 197 b (nr_X3_standingAt_258__197 b)) (fun b => f18 199 b (nr_X3_standingAt_258__199 b)) (fun b => f18 201 b (nr_X3_standingAt_258__201 b)) (fun b => f18 203 b (nr_X3_standingAt_258__203 b)) (fun b => f18 205 b (nr_X3_standingAt_258__205 b)) (fun b => f18 207 b (nr_X3_standingAt_258__207 b)) (fun b => f18 209 b (nr_X3_standingAt_258__209 b)) (fun b => f18 211 b (nr_X3_standingAt_258__211 b)) (fun b => f18 213 b (nr_X3_standingAt_258__213 b)) (fun b => f18 215 b (nr_X3_standingAt_258__215 b)) (fun b => f18 217 b (nr_X3_standingAt_258__217 b)) (fun b => f18 219 b (nr_X3_standingAt_258__219 b))
  have r26 := y_B0.fr o7.1 (f18 211 0 (by decide)) (f18 213 0 (by decide))
  exact T_ret ⟨c17, f19, (y_V2.u r25), Or.inl (⟨x20, rfl, by omega, by omega⟩)⟩
abbrev P_X11_ends_1D (r0 : z_M) : z_V → z_M → Prop := fun v s' => z_CI s' ∧ z_Fr R_X11_ends_1 r0 s' ∧ (y_V2 s') ∧ ((∃ x, v = vI x ∧ 0 ≤ x ∧ x ≤ 1) ∨ v = vX 0)
theorem sj_X11_ends_1D_J36 {fu : Nat} (hfu : 8589934592 ≤ fu) (r0 s : z_M) (c : z_CI s) (f : z_Fr R_X11_ends_1 r0 s) (t0 : Int) (d0 : 0 ≤ t0 ∧ t0 ≤ 1) (p0 : y_V2 s) : z_T (fX11_ends_J36 fu s t0) (P_X11_ends_1D r0) := by
  refine T_of (fX11_ends_J36.eq_1 ..) ?_
  have u1 := CI_b c (k := 191) (j := 16) bd_191_16
  refine T_if1 (by unfold z_bl; omega) ?_
  exact T_ret ⟨c, f, p0, Or.inl (⟨t0, rfl, by omega, by omega⟩)⟩
theorem sf_X11_ends_1D {fu : Nat} (hfu : 8589934592 ≤ fu) (r0 : z_M) (c0 : z_CI r0) (a1 : Int) (b1 : -2147483648 ≤ a1 ∧ a1 ≤ 2147483647) (p0 : y_V2 r0) : z_T (fX11_ends fu r0 1 a1) (P_X11_ends_1D r0) := by
  refine T_of (fX11_ends.eq_1 ..) ?_
  refine T_if1 (by decide +kernel) ?_
  refine T_useN (sf_X11_refresh_1D hfu r0 c0 p0) (fun v6 s1 hq => ?_)
  obtain ⟨c2, f3, o7, rfl⟩ := hq
  refine T_vN ?_
  have f4 := z_Fr.tr (R := R_X11_ends_1) z_Fr.rf f3 rs_X11_refresh_1__X11_ends_1
  have u10 := CI_b c2 (k := 191) (j := 16) bd_191_16
  refine T_if1 (by decide +kernel) ?_
  refine T_let 191 (by decide +kernel) ?_
  refine T_if1 (by decide +kernel) ?_
  refine T_leq (fun x11 e12 => ?_)
  have u13 := CI_b c2 (k := 191) (j := 16) bd_191_16
  refine T_if1 (by decide +kernel) ?_
  refine T_ne ?_ (fun h14 h15 => ?_)
  · exact T_ret ⟨CI_up c2 bd_1_14 (z_wb rfl).1, z_Fr.upf (R := R_X11_ends_1) f4 (fun a b h => z_up_k h) (fun b h => z_up_j h) (Or.inr (Or.inr (Or.inr (Or.inr (Or.inr (Or.inr (Or.inr (Or.inl (⟨rfl, by decide⟩))))))))), y_V2.u (y_U2.fr o7 (z_up_k (by decide)) (z_up_k (by decide)) (z_up_k (by decide)) (z_up_k (by decide)) (fun _ => z_up_k (by decide)) (fun _ => z_up_k (by decide)) (fun _ => z_up_k (by decide)) (fun _ => z_up_k (by decide)) (fun _ => z_up_k (by decide)) (fun _ => z_up_k (by decide)) (fun _ => z_up_k (by decide)) (fun _ => z_up_k (by decide)) (fun _ => z_up_k (by decide)) (fun _ => z_up_k (by decide)) (fun _ => z_up_k (by decide)) (fun _ => z_up_k (by decide)) (fun _ => z_up_k (by decide)) (fun _ => z_up_k (by decide)) (fun _ => z_up_k (by decide)) (fun _ => z_up_k (by decide)) (fun _ => z_up_k (by decide)) (fun _ => z_up_k (by decide)) (fun _ => z_up_k (by decide)) (fun _ => z_up_k (by decide))), Or.inr rfl⟩
  refine T_if1 (by decide +kernel) ?_
  refine T_let 191 (by decide +kernel) ?_
  refine T_if1 (by decide +kernel) ?_
  refine T_let 208 (by decide +kernel) ?_
  refine T_if1 (by decide +kernel) ?_
  refine T_get (by decide +kernel) (c := 209) (by decide +kernel) bdr_209 (by decide) c2 (fun x16 e17 b18 w19 => ?_)
  have l20 : z_ln 208 = 200 := by decide +kernel
  refine T_ite (fun h21 => ?_) (fun h21 => ?_)
  · exact sj_X11_ends_1D_J36 hfu r0 s1 c2 f4 0 (by omega) (y_V2.u o7)
  · exact sj_X11_ends_1D_J36 hfu r0 s1 c2 f4 1 (by omega) (y_V2.u o7)
abbrev P_X11_longOf_1D (r0 : z_M) : z_V → z_M → Prop := fun v s' => z_CI s' ∧ z_Fr R_X11_longOf_1 r0 s' ∧ (y_V2 s') ∧ ((∃ x, v = vI x ∧ -2147483648 ≤ x ∧ x ≤ 2147483647) ∨ v = vX 0 ∨ v = vX 1)
theorem nr_X5_lengthOf_220__3 (b : Int) : ¬ R_X5_lengthOf_220 3 b := by
  unfold R_X5_lengthOf_220; omega
theorem nr_X5_lengthOf_220__16 (b : Int) : ¬ R_X5_lengthOf_220 16 b := by
  unfold R_X5_lengthOf_220; omega
theorem nr_X5_lengthOf_220__18 (b : Int) : ¬ R_X5_lengthOf_220 18 b := by
  unfold R_X5_lengthOf_220; omega
theorem nr_X5_lengthOf_220__199 (b : Int) : ¬ R_X5_lengthOf_220 199 b := by
  unfold R_X5_lengthOf_220; omega
theorem nr_X5_lengthOf_220__201 (b : Int) : ¬ R_X5_lengthOf_220 201 b := by
  unfold R_X5_lengthOf_220; omega
theorem nr_X5_lengthOf_220__203 (b : Int) : ¬ R_X5_lengthOf_220 203 b := by
  unfold R_X5_lengthOf_220; omega
theorem nr_X5_lengthOf_220__205 (b : Int) : ¬ R_X5_lengthOf_220 205 b := by
  unfold R_X5_lengthOf_220; omega
theorem nr_X5_lengthOf_220__207 (b : Int) : ¬ R_X5_lengthOf_220 207 b := by
  unfold R_X5_lengthOf_220; omega
theorem nr_X5_lengthOf_220__209 (b : Int) : ¬ R_X5_lengthOf_220 209 b := by
  unfold R_X5_lengthOf_220; omega
theorem nr_X5_lengthOf_220__211 (b : Int) : ¬ R_X5_lengthOf_220 211 b := by
  unfold R_X5_lengthOf_220; omega
theorem nr_X5_lengthOf_220__213 (b : Int) : ¬ R_X5_lengthOf_220 213 b := by
  unfold R_X5_lengthOf_220; omega
theorem nr_X5_lengthOf_220__217 (b : Int) : ¬ R_X5_lengthOf_220 217 b := by
  unfold R_X5_lengthOf_220; omega
theorem nr_X5_lengthOf_220__219 (b : Int) : ¬ R_X5_lengthOf_220 219 b := by
  unfold R_X5_lengthOf_220; omega
theorem sf_X11_longOf_1D {fu : Nat} (hfu : 8589934592 ≤ fu) (r0 : z_M) (c0 : z_CI r0) (a1 : Int) (a2 : Int) (b1 : -2147483648 ≤ a1 ∧ a1 ≤ 2147483647) (b2 : -2147483648 ≤ a2 ∧ a2 ≤ 2147483647) (p0 : y_V2 r0) : z_T (fX11_longOf fu r0 1 a1 a2) (P_X11_longOf_1D r0) := by
  refine T_of (fX11_longOf.eq_1 ..) ?_
  refine T_if1 (by decide +kernel) ?_
  refine T_useN (sf_X11_refresh_1D hfu r0 c0 p0) (fun v6 s1 hq => ?_)
  obtain ⟨c2, f3, o7, rfl⟩ := hq
  refine T_vN ?_
  have f4 := z_Fr.tr (R := R_X11_longOf_1) z_Fr.rf f3 rs_X11_refresh_1__X11_longOf_1
  have u10 := CI_b c2 (k := 191) (j := 16) bd_191_16
  refine T_if1 (by decide +kernel) ?_
  refine T_let 191 (by decide +kernel) ?_
  refine T_if1 (by decide +kernel) ?_
  refine T_leq (fun x11 e12 => ?_)
  have u13 := CI_b c2 (k := 191) (j := 16) bd_191_16
  refine T_if1 (by decide +kernel) ?_
  refine T_ne ?_ (fun h14 h15 => ?_)
  · exact T_ret ⟨CI_up c2 bd_1_14 (z_wb rfl).1, z_Fr.upf (R := R_X11_longOf_1) f4 (fun a b h => z_up_k h) (fun b h => z_up_j h) (Or.inr (Or.inr (Or.inr (Or.inr (Or.inr (Or.inr (Or.inr (Or.inl (⟨rfl, by decide⟩))))))))), y_V2.u (y_U2.fr o7 (z_up_k (by decide)) (z_up_k (by decide)) (z_up_k (by decide)) (z_up_k (by decide)) (fun _ => z_up_k (by decide)) (fun _ => z_up_k (by decide)) (fun _ => z_up_k (by decide)) (fun _ => z_up_k (by decide)) (fun _ => z_up_k (by decide)) (fun _ => z_up_k (by decide)) (fun _ => z_up_k (by decide)) (fun _ => z_up_k (by decide)) (fun _ => z_up_k (by decide)) (fun _ => z_up_k (by decide)) (fun _ => z_up_k (by decide)) (fun _ => z_up_k (by decide)) (fun _ => z_up_k (by decide)) (fun _ => z_up_k (by decide)) (fun _ => z_up_k (by decide)) (fun _ => z_up_k (by decide)) (fun _ => z_up_k (by decide)) (fun _ => z_up_k (by decide)) (fun _ => z_up_k (by decide)) (fun _ => z_up_k (by decide))), Or.inr (Or.inl rfl)⟩
  refine T_if1 (by decide +kernel) ?_
  refine T_let 191 (by decide +kernel) ?_
  refine T_if1 (by decide +kernel) ?_
  refine T_leq (fun x16 e17 => ?_)
  have u18 := CI_b c2 (k := 191) (j := 16) bd_191_16
  refine T_if1 (by decide +kernel) ?_
  refine T_ne ?_ (fun h19 h20 => ?_)
  · exact T_ret ⟨CI_up c2 bd_1_14 (z_wb rfl).1, z_Fr.upf (R := R_X11_longOf_1) f4 (fun a b h => z_up_k h) (fun b h => z_up_j h) (Or.inr (Or.inr (Or.inr (Or.inr (Or.inr (Or.inr (Or.inr (Or.inl (⟨rfl, by decide⟩))))))))), y_V2.u (y_U2.fr o7 (z_up_k (by decide)) (z_up_k (by decide)) (z_up_k (by decide)) (z_up_k (by decide)) (fun _ => z_up_k (by decide)) (fun _ => z_up_k (by decide)) (fun _ => z_up_k (by decide)) (fun _ => z_up_k (by decide)) (fun _ => z_up_k (by decide)) (fun _ => z_up_k (by decide)) (fun _ => z_up_k (by decide)) (fun _ => z_up_k (by decide)) (fun _ => z_up_k (by decide)) (fun _ => z_up_k (by decide)) (fun _ => z_up_k (by decide)) (fun _ => z_up_k (by decide)) (fun _ => z_up_k (by decide)) (fun _ => z_up_k (by decide)) (fun _ => z_up_k (by decide)) (fun _ => z_up_k (by decide)) (fun _ => z_up_k (by decide)) (fun _ => z_up_k (by decide)) (fun _ => z_up_k (by decide)) (fun _ => z_up_k (by decide))), Or.inr (Or.inl rfl)⟩
  refine T_if1 (by decide +kernel) ?_
  refine T_let 191 (by decide +kernel) ?_
  refine T_if1 (by decide +kernel) ?_
  refine T_leq (fun x21 e22 => ?_)
  have u23 := CI_b c2 (k := 191) (j := 16) bd_191_16
  refine T_if1 (by decide +kernel) ?_
  refine T_nw ?_ (fun h24 h25 => ?_)
  · exact T_ret ⟨CI_up c2 bd_1_15 (z_wb rfl).1, z_Fr.upf (R := R_X11_longOf_1) f4 (fun a b h => z_up_k h) (fun b h => z_up_j h) (Or.inr (Or.inr (Or.inr (Or.inr (Or.inr (Or.inr (Or.inr (Or.inl (⟨rfl, by decide⟩))))))))), y_V2.u (y_U2.fr o7 (z_up_k (by decide)) (z_up_k (by decide)) (z_up_k (by decide)) (z_up_k (by decide)) (fun _ => z_up_k (by decide)) (fun _ => z_up_k (by decide)) (fun _ => z_up_k (by decide)) (fun _ => z_up_k (by decide)) (fun _ => z_up_k (by decide)) (fun _ => z_up_k (by decide)) (fun _ => z_up_k (by decide)) (fun _ => z_up_k (by decide)) (fun _ => z_up_k (by decide)) (fun _ => z_up_k (by decide)) (fun _ => z_up_k (by decide)) (fun _ => z_up_k (by decide)) (fun _ => z_up_k (by decide)) (fun _ => z_up_k (by decide)) (fun _ => z_up_k (by decide)) (fun _ => z_up_k (by decide)) (fun _ => z_up_k (by decide)) (fun _ => z_up_k (by decide)) (fun _ => z_up_k (by decide)) (fun _ => z_up_k (by decide))), Or.inr (Or.inr rfl)⟩
  refine T_if1 (by decide +kernel) ?_
  refine T_let 220 (by decide +kernel) ?_
  refine T_if1 (by decide +kernel) ?_
  refine T_useI (sf_X5_lengthOf_220 hfu s1 c2 a1 a2 (by omega) (by omega)) (fun v31 s26 hq => ?_)
  obtain ⟨c27, f28, ⟨x30, rfl, b32, b33⟩⟩ := hq
  refine T_vI ?_
  have f29 := z_Fr.tr (R := R_X11_longOf_1) f4 f28 rs_X5_lengthOf_220__X11_longOf_1
  have t34 : s26 191 16 = s1 191 16 := f28 191 16 (by decide)
  have r35 := y_U2.fr o7 (f28 191 16 (by decide)) (f28 6 6 (by decide)) (f28 191 17 (by decide)) (f28 191 18 (by decide)) (fun b => f28 3 b (nr_X5_lengthOf_220__3 b)) (fun b => f28 8 b (nr_X5_lengthOf_220__8 b)) (fun b => f28 12 b (nr_X5_lengthOf_220__12 b)) (fun b => f28 14 b (nr_X5_lengthOf_220__14 b)) (fun b => f28 16 b (nr_X5_lengthOf_220__16 b)) (fun b => f28 18 b (nr_X5_lengthOf_220__18 b)) (fun b => f28 193 b (nr_X5_lengthOf_220__193 b)) (fun b => f28 195 b (nr_X5_lengthOf_220__195 b)) (fun b => f28 197 b (nr_X5_lengthOf_220__197 b)) (fun b => f28 199 b (nr_X5_lengthOf_220__199 b)) (fun b => f28 201 b (nr_X5_lengthOf_220__201 b)) (fun b => f28 203 b (nr_X5_lengthOf_220__203 b)) (fun b => f28 205 b (nr_X5_lengthOf_220__205 b)) (fun b => f28 207 b (nr_X5_lengthOf_220__207 b)) (fun b => f28 209 b (nr_X5_lengthOf_220__209 b)) (fun b => f28 211 b (nr_X5_lengthOf_220__211 b)) (fun b => f28 213 b (nr_X5_lengthOf_220__213 b)) (fun b => f28 215 b (nr_X5_lengthOf_220__215 b)) (fun b => f28 217 b (nr_X5_lengthOf_220__217 b)) (fun b => f28 219 b (nr_X5_lengthOf_220__219 b))
  have r36 := y_B0.fr o7.1 (f28 211 0 (by decide)) (f28 213 0 (by decide))
  exact T_ret ⟨c27, f29, (y_V2.u r35), Or.inl (⟨x30, rfl, by omega, by omega⟩)⟩
abbrev P_X11_lines_1D (r0 : z_M) : z_V → z_M → Prop := fun v s' => z_CI s' ∧ z_Fr R_X11_lines_1 r0 s' ∧ (y_V2 s') ∧ ((∃ x, v = vI x ∧ -2147483648 ≤ x ∧ x ≤ 2147483647) ∨ v = vX 1)
theorem nr_X1_go_249__3 (b : Int) : ¬ R_X1_go_249 3 b := by
  unfold R_X1_go_249; omega
theorem nr_X1_go_249__16 (b : Int) : ¬ R_X1_go_249 16 b := by
  unfold R_X1_go_249; omega
theorem nr_X1_go_249__18 (b : Int) : ¬ R_X1_go_249 18 b := by
  unfold R_X1_go_249; omega
theorem nr_X1_go_249__199 (b : Int) : ¬ R_X1_go_249 199 b := by
  unfold R_X1_go_249; omega
theorem nr_X1_go_249__201 (b : Int) : ¬ R_X1_go_249 201 b := by
  unfold R_X1_go_249; omega
theorem nr_X1_go_249__203 (b : Int) : ¬ R_X1_go_249 203 b := by
  unfold R_X1_go_249; omega
theorem nr_X1_go_249__205 (b : Int) : ¬ R_X1_go_249 205 b := by
  unfold R_X1_go_249; omega
theorem nr_X1_go_249__207 (b : Int) : ¬ R_X1_go_249 207 b := by
  unfold R_X1_go_249; omega
theorem nr_X1_go_249__209 (b : Int) : ¬ R_X1_go_249 209 b := by
  unfold R_X1_go_249; omega
theorem nr_X1_go_249__211 (b : Int) : ¬ R_X1_go_249 211 b := by
  unfold R_X1_go_249; omega
theorem nr_X1_go_249__213 (b : Int) : ¬ R_X1_go_249 213 b := by
  unfold R_X1_go_249; omega
theorem nr_X1_go_249__217 (b : Int) : ¬ R_X1_go_249 217 b := by
  unfold R_X1_go_249; omega
theorem nr_X1_go_249__219 (b : Int) : ¬ R_X1_go_249 219 b := by
  unfold R_X1_go_249; omega
theorem sf_X11_lines_1D {fu : Nat} (hfu : 8589934592 ≤ fu) (r0 : z_M) (c0 : z_CI r0) (a1 : Int) (a2 : Int) (b1 : -2147483648 ≤ a1 ∧ a1 ≤ 2147483647) (b2 : -2147483648 ≤ a2 ∧ a2 ≤ 2147483647) (p0 : y_V2 r0) : z_T (fX11_lines fu r0 1 a1 a2) (P_X11_lines_1D r0) := by
  refine T_of (fX11_lines.eq_1 ..) ?_
  refine T_pick (by decide) (fun x1 e2 b3 => ?_)
  have b4 : x1 = (12 : Int) := by rw [← e2]; decide +kernel
  refine T_pick (by decide) (fun x5 e6 b7 => ?_)
  have b8 : x5 = (999 : Int) := by rw [← e6]; decide +kernel
  refine T_if1 (by decide +kernel) ?_
  refine T_nw ?_ (fun h9 h10 => ?_)
  · exact T_ret ⟨CI_up c0 bd_1_15 (z_wb rfl).1, z_Fr.upf (R := R_X11_lines_1) z_Fr.rf (fun a b h => z_up_k h) (fun b h => z_up_j h) (Or.inr (Or.inr (Or.inr (Or.inr (Or.inr (Or.inr (Or.inr (Or.inr (Or.inr (Or.inl (⟨rfl, by decide⟩))))))))))), y_V2.fr p0 (z_up_j (by decide)) (z_up_k (by decide)) (z_up_k (by decide)) (z_up_k (by decide)) (z_up_k (by decide)) (fun _ => z_up_k (by decide)) (fun _ => z_up_k (by decide)) (fun _ => z_up_k (by decide)) (fun _ => z_up_k (by decide)) (fun _ => z_up_k (by decide)) (fun _ => z_up_k (by decide)) (fun _ => z_up_k (by decide)) (fun _ => z_up_k (by decide)) (fun _ => z_up_k (by decide)) (fun _ => z_up_k (by decide)) (fun _ => z_up_k (by decide)) (fun _ => z_up_k (by decide)) (fun _ => z_up_k (by decide)) (fun _ => z_up_k (by decide)) (fun _ => z_up_k (by decide)) (fun _ => z_up_k (by decide)) (fun _ => z_up_k (by decide)) (fun _ => z_up_k (by decide)) (fun _ => z_up_k (by decide)) (fun _ => z_up_k (by decide)), Or.inr rfl⟩
  refine T_if1 (by decide +kernel) ?_
  refine T_nw ?_ (fun h11 h12 => ?_)
  · exact T_ret ⟨CI_up c0 bd_1_15 (z_wb rfl).1, z_Fr.upf (R := R_X11_lines_1) z_Fr.rf (fun a b h => z_up_k h) (fun b h => z_up_j h) (Or.inr (Or.inr (Or.inr (Or.inr (Or.inr (Or.inr (Or.inr (Or.inr (Or.inr (Or.inl (⟨rfl, by decide⟩))))))))))), y_V2.fr p0 (z_up_j (by decide)) (z_up_k (by decide)) (z_up_k (by decide)) (z_up_k (by decide)) (z_up_k (by decide)) (fun _ => z_up_k (by decide)) (fun _ => z_up_k (by decide)) (fun _ => z_up_k (by decide)) (fun _ => z_up_k (by decide)) (fun _ => z_up_k (by decide)) (fun _ => z_up_k (by decide)) (fun _ => z_up_k (by decide)) (fun _ => z_up_k (by decide)) (fun _ => z_up_k (by decide)) (fun _ => z_up_k (by decide)) (fun _ => z_up_k (by decide)) (fun _ => z_up_k (by decide)) (fun _ => z_up_k (by decide)) (fun _ => z_up_k (by decide)) (fun _ => z_up_k (by decide)) (fun _ => z_up_k (by decide)) (fun _ => z_up_k (by decide)) (fun _ => z_up_k (by decide)) (fun _ => z_up_k (by decide)) (fun _ => z_up_k (by decide)), Or.inr rfl⟩
  refine T_if1 (by decide +kernel) ?_
  refine T_useN (sf_X11_refresh_1D hfu r0 c0 p0) (fun v18 s13 hq => ?_)
  obtain ⟨c14, f15, o19, rfl⟩ := hq
  refine T_vN ?_
  have f16 := z_Fr.tr (R := R_X11_lines_1) z_Fr.rf f15 rs_X11_refresh_1__X11_lines_1
  have t22 : s13 249 6 = r0 249 6 := f15 249 6 (by decide)
  refine T_if1 (by decide +kernel) ?_
  refine T_let 249 (by decide +kernel) ?_
  refine T_if1 (by decide +kernel) ?_
  refine T_useN (sf_X1_go_249 hfu s13 c14 a1 a2 (by omega) (by omega)) (fun v28 s23 hq => ?_)
  obtain ⟨c24, f25, rfl⟩ := hq
  refine T_vN ?_
  have f26 := z_Fr.tr (R := R_X11_lines_1) f16 f25 rs_X1_go_249__X11_lines_1
  have u31 := CI_b c24 (k := 249) (j := 6) bd_249_6
  have r32 := y_U2.fr o19 (f25 191 16 (by decide)) (f25 6 6 (by decide)) (f25 191 17 (by decide)) (f25 191 18 (by decide)) (fun b => f25 3 b (nr_X1_go_249__3 b)) (fun b => f25 8 b (nr_X1_go_249__8 b)) (fun b => f25 12 b (nr_X1_go_249__12 b)) (fun b => f25 14 b (nr_X1_go_249__14 b)) (fun b => f25 16 b (nr_X1_go_249__16 b)) (fun b => f25 18 b (nr_X1_go_249__18 b)) (fun b => f25 193 b (nr_X1_go_249__193 b)) (fun b => f25 195 b (nr_X1_go_249__195 b)) (fun b => f25 197 b (nr_X1_go_249__197 b)) (fun b => f25 199 b (nr_X1_go_249__199 b)) (fun b => f25 201 b (nr_X1_go_249__201 b)) (fun b => f25 203 b (nr_X1_go_249__203 b)) (fun b => f25 205 b (nr_X1_go_249__205 b)) (fun b => f25 207 b (nr_X1_go_249__207 b)) (fun b => f25 209 b (nr_X1_go_249__209 b)) (fun b => f25 211 b (nr_X1_go_249__211 b)) (fun b => f25 213 b (nr_X1_go_249__213 b)) (fun b => f25 215 b (nr_X1_go_249__215 b)) (fun b => f25 217 b (nr_X1_go_249__217 b)) (fun b => f25 219 b (nr_X1_go_249__219 b))
  have r33 := y_B0.fr o19.1 (f25 211 0 (by decide)) (f25 213 0 (by decide))
  refine T_if1 (by decide +kernel) ?_
  refine T_let 249 (by decide +kernel) ?_
  refine T_if1 (by decide +kernel) ?_
  refine T_leq (fun x34 e35 => ?_)
  have u36 := CI_b c24 (k := 249) (j := 6) bd_249_6
  exact T_ret ⟨c24, f26, (y_V2.u r32), Or.inl (⟨x34, rfl, by omega, by omega⟩)⟩
abbrev P_X11_shortestFor_1D (r0 : z_M) : z_V → z_M → Prop := fun v s' => z_CI s' ∧ z_Fr R_X11_shortestFor_1 r0 s' ∧ (y_V2 s') ∧ (∃ x, v = vI x ∧ -2147483648 ≤ x ∧ x ≤ 2147483647)
theorem nr_X1_fewest_249__3 (b : Int) : ¬ R_X1_fewest_249 3 b := by
  unfold R_X1_fewest_249; omega
theorem nr_X1_fewest_249__16 (b : Int) : ¬ R_X1_fewest_249 16 b := by
  unfold R_X1_fewest_249; omega
theorem nr_X1_fewest_249__18 (b : Int) : ¬ R_X1_fewest_249 18 b := by
  unfold R_X1_fewest_249; omega
theorem nr_X1_fewest_249__199 (b : Int) : ¬ R_X1_fewest_249 199 b := by
  unfold R_X1_fewest_249; omega
theorem nr_X1_fewest_249__201 (b : Int) : ¬ R_X1_fewest_249 201 b := by
  unfold R_X1_fewest_249; omega
theorem nr_X1_fewest_249__203 (b : Int) : ¬ R_X1_fewest_249 203 b := by
  unfold R_X1_fewest_249; omega
theorem nr_X1_fewest_249__205 (b : Int) : ¬ R_X1_fewest_249 205 b := by
  unfold R_X1_fewest_249; omega
theorem nr_X1_fewest_249__207 (b : Int) : ¬ R_X1_fewest_249 207 b := by
  unfold R_X1_fewest_249; omega
theorem nr_X1_fewest_249__209 (b : Int) : ¬ R_X1_fewest_249 209 b := by
  unfold R_X1_fewest_249; omega
theorem nr_X1_fewest_249__211 (b : Int) : ¬ R_X1_fewest_249 211 b := by
  unfold R_X1_fewest_249; omega
theorem nr_X1_fewest_249__213 (b : Int) : ¬ R_X1_fewest_249 213 b := by
  unfold R_X1_fewest_249; omega
theorem nr_X1_fewest_249__217 (b : Int) : ¬ R_X1_fewest_249 217 b := by
  unfold R_X1_fewest_249; omega
theorem nr_X1_fewest_249__219 (b : Int) : ¬ R_X1_fewest_249 219 b := by
  unfold R_X1_fewest_249; omega
theorem sj_X11_shortestFor_1D_J59 {fu : Nat} (hfu : 8589934592 ≤ fu) (r0 s : z_M) (c : z_CI s) (f : z_Fr R_X11_shortestFor_1 r0 s) (a1 : Int) (a2 : Int) (a3 : Int) (a4 : Int) (b1 : -2147483648 ≤ a1 ∧ a1 ≤ 2147483647) (b2 : -2147483648 ≤ a2 ∧ a2 ≤ 2147483647) (b3 : 12 ≤ a3 ∧ a3 ≤ 1000) (b4 : 12 ≤ a4 ∧ a4 ≤ 1000) (p0 : a3 ≤ a4) (p1 : y_V2 s) (M : Int) (pm : a4 - a3 < M) {r : z_M → Int → Int → z_O} {k : z_M → Int → z_O} (hr : ∀ (s' : z_M) (v3 : Int) (v4 : Int), z_CI s' → z_Fr R_X11_shortestFor_1 r0 s' → (12 ≤ v3 ∧ v3 ≤ 1000) → (12 ≤ v4 ∧ v4 ≤ 1000) → (v3 ≤ v4) → (y_V2 s') → (v4 - v3 < M) → z_T (r s' v3 v4) (P_X11_shortestFor_1D r0)) (hk : ∀ (s' : z_M) (v3 : Int), z_CI s' → z_Fr R_X11_shortestFor_1 r0 s' → (12 ≤ v3 ∧ v3 ≤ 1000) → (y_V2 s') → z_T (k s' v3) (P_X11_shortestFor_1D r0)) : z_T (fX11_shortestFor_J59 fu s 1 a1 a2 a3 a4 r k) (P_X11_shortestFor_1D r0) := by
  refine T_of (fX11_shortestFor_J59.eq_1 ..) ?_
  exact hr s a3 a4 c f (by omega) (by omega) (by omega) p1 (by omega)
theorem sl_X11_shortestFor_1D_L19 {fu : Nat} (hfu : 8589934592 ≤ fu) (r0 : z_M) (a1 : Int) (a2 : Int) (b1 : -2147483648 ≤ a1 ∧ a1 ≤ 2147483647) (b2 : -2147483648 ≤ a2 ∧ a2 ≤ 2147483647) {k : z_M → Int → z_O} (hk : ∀ (s' : z_M) (v3 : Int), z_CI s' → z_Fr R_X11_shortestFor_1 r0 s' → (12 ≤ v3 ∧ v3 ≤ 1000) → (y_V2 s') → z_T (k s' v3) (P_X11_shortestFor_1D r0)) : ∀ (F : Nat) (s : z_M) (a3 : Int) (a4 : Int), z_CI s → z_Fr R_X11_shortestFor_1 r0 s → (12 ≤ a3 ∧ a3 ≤ 1000) → (12 ≤ a4 ∧ a4 ≤ 1000) → (a3 ≤ a4) → (y_V2 s) → (a4 - a3 < (F : Int)) → z_T (fX11_shortestFor_L19 fu 1 a1 a2 F s a3 a4 k) (P_X11_shortestFor_1D r0) := by
  intro F
  induction F with
  | zero =>
    intro s a3 a4 c f b3 b4 i0 i1 hm
    exfalso; omega
  | succ F ih =>
    intro s a3 a4 c f b3 b4 i0 i1 hm
    refine T_of (fX11_shortestFor_L19.eq_2 ..) ?_
    refine T_ite (fun h1 => ?_) (fun h1 => ?_)
    · exact hk s a3 c f (by omega) i1
    · refine T_leq (fun x2 e3 => ?_)
      have w4 := z_wb e3
      refine T_if1 (by omega) ?_
      refine T_leq (fun x5 e6 => ?_)
      have w7 := z_wb e6
      have w8 := z_td2 (e := x2)
      refine T_if1 (by decide +kernel) ?_
      refine T_let 249 (by decide +kernel) ?_
      refine T_if1 (by decide +kernel) ?_
      refine T_useI (sf_X1_fewest_249 hfu s c x5 a2 (by omega) (by omega)) (fun v14 s9 hq => ?_)
      obtain ⟨c10, f11, ⟨x13, rfl, b15, b16⟩⟩ := hq
      refine T_vI ?_
      have f12 := z_Fr.tr (R := R_X11_shortestFor_1) f f11 rs_X1_fewest_249__X11_shortestFor_1
      have r17 := y_V2.fr i1 (f11 1 16 (by decide)) (f11 191 16 (by decide)) (f11 6 6 (by decide)) (f11 191 17 (by decide)) (f11 191 18 (by decide)) (fun b => f11 3 b (nr_X1_fewest_249__3 b)) (fun b => f11 8 b (nr_X1_fewest_249__8 b)) (fun b => f11 12 b (nr_X1_fewest_249__12 b)) (fun b => f11 14 b (nr_X1_fewest_249__14 b)) (fun b => f11 16 b (nr_X1_fewest_249__16 b)) (fun b => f11 18 b (nr_X1_fewest_249__18 b)) (fun b => f11 193 b (nr_X1_fewest_249__193 b)) (fun b => f11 195 b (nr_X1_fewest_249__195 b)) (fun b => f11 197 b (nr_X1_fewest_249__197 b)) (fun b => f11 199 b (nr_X1_fewest_249__199 b)) (fun b => f11 201 b (nr_X1_fewest_249__201 b)) (fun b => f11 203 b (nr_X1_fewest_249__203 b)) (fun b => f11 205 b (nr_X1_fewest_249__205 b)) (fun b => f11 207 b (nr_X1_fewest_249__207 b)) (fun b => f11 209 b (nr_X1_fewest_249__209 b)) (fun b => f11 211 b (nr_X1_fewest_249__211 b)) (fun b => f11 213 b (nr_X1_fewest_249__213 b)) (fun b => f11 215 b (nr_X1_fewest_249__215 b)) (fun b => f11 217 b (nr_X1_fewest_249__217 b)) (fun b => f11 219 b (nr_X1_fewest_249__219 b))
      have r18 := y_B0.fr i1.1 (f11 211 0 (by decide)) (f11 213 0 (by decide))
      refine T_ite (fun h19 => ?_) (fun h19 => ?_)
      · refine T_leq (fun x20 e21 => ?_)
        have w22 := z_wb e21
        exact sj_X11_shortestFor_1D_J59 hfu r0 s9 c10 f12 a1 a2 x20 a4 (by omega) (by omega) (by omega) (by omega) (by omega) r17 (a4 - a3) (by omega) (fun s' v3 v4 c' f' w3 w4 z0 z1 pg => ih s' v3 v4 c' f' w3 w4 z0 z1 (by omega)) hk
      · exact sj_X11_shortestFor_1D_J59 hfu r0 s9 c10 f12 a1 a2 a3 x5 (by omega) (by omega) (by omega) (by omega) (by omega) r17 (a4 - a3) (by omega) (fun s' v3 v4 c' f' w3 w4 z0 z1 pg => ih s' v3 v4 c' f' w3 w4 z0 z1 (by omega)) hk
theorem sf_X11_shortestFor_1D {fu : Nat} (hfu : 8589934592 ≤ fu) (r0 : z_M) (c0 : z_CI r0) (a1 : Int) (a2 : Int) (b1 : -2147483648 ≤ a1 ∧ a1 ≤ 2147483647) (b2 : -2147483648 ≤ a2 ∧ a2 ≤ 2147483647) (p0 : y_V2 r0) : z_T (fX11_shortestFor fu r0 1 a1 a2) (P_X11_shortestFor_1D r0) := by
  refine T_of (fX11_shortestFor.eq_1 ..) ?_
  refine T_pick (by decide) (fun x1 e2 b3 => ?_)
  have b4 : x1 = (12 : Int) := by rw [← e2]; decide +kernel
  refine T_pick (by decide) (fun x5 e6 b7 => ?_)
  have b8 : x5 = (999 : Int) := by rw [← e6]; decide +kernel
  refine T_leq (fun x9 e10 => ?_)
  have w11 := z_wb e10
  refine sl_X11_shortestFor_1D_L19 hfu r0 a1 a2 (by omega) (by omega) (fun s12 y15 c13 f14 b16 g17 => ?_) fu r0 x1 x9 c0 z_Fr.rf (by omega) (by omega) (by omega) p0 (by omega)
  exact T_ret ⟨c13, f14, g17, ⟨y15, rfl, by omega, by omega⟩⟩
abbrev P_X11_least_1D (r0 : z_M) : z_V → z_M → Prop := fun v s' => z_CI s' ∧ z_Fr R_X11_least_1 r0 s' ∧ (y_V2 s') ∧ ((∃ x, v = vI x ∧ -2147483648 ≤ x ∧ x ≤ 2147483647) ∨ v = vX 1)
theorem nr_X11_shortestFor_1__3 (b : Int) : ¬ R_X11_shortestFor_1 3 b := by
  unfold R_X11_shortestFor_1; omega
theorem nr_X11_shortestFor_1__16 (b : Int) : ¬ R_X11_shortestFor_1 16 b := by
  unfold R_X11_shortestFor_1; omega
theorem nr_X11_shortestFor_1__18 (b : Int) : ¬ R_X11_shortestFor_1 18 b := by
  unfold R_X11_shortestFor_1; omega
theorem nr_X11_shortestFor_1__199 (b : Int) : ¬ R_X11_shortestFor_1 199 b := by
  unfold R_X11_shortestFor_1; omega
theorem nr_X11_shortestFor_1__201 (b : Int) : ¬ R_X11_shortestFor_1 201 b := by
  unfold R_X11_shortestFor_1; omega
theorem nr_X11_shortestFor_1__203 (b : Int) : ¬ R_X11_shortestFor_1 203 b := by
  unfold R_X11_shortestFor_1; omega
theorem nr_X11_shortestFor_1__205 (b : Int) : ¬ R_X11_shortestFor_1 205 b := by
  unfold R_X11_shortestFor_1; omega
theorem nr_X11_shortestFor_1__207 (b : Int) : ¬ R_X11_shortestFor_1 207 b := by
  unfold R_X11_shortestFor_1; omega
theorem nr_X11_shortestFor_1__209 (b : Int) : ¬ R_X11_shortestFor_1 209 b := by
  unfold R_X11_shortestFor_1; omega
theorem nr_X11_shortestFor_1__211 (b : Int) : ¬ R_X11_shortestFor_1 211 b := by
  unfold R_X11_shortestFor_1; omega
theorem nr_X11_shortestFor_1__213 (b : Int) : ¬ R_X11_shortestFor_1 213 b := by
  unfold R_X11_shortestFor_1; omega
theorem nr_X11_shortestFor_1__217 (b : Int) : ¬ R_X11_shortestFor_1 217 b := by
  unfold R_X11_shortestFor_1; omega
theorem nr_X11_shortestFor_1__219 (b : Int) : ¬ R_X11_shortestFor_1 219 b := by
  unfold R_X11_shortestFor_1; omega
theorem sj_X11_least_1D_J80 {fu : Nat} (hfu : 8589934592 ≤ fu) (r0 s : z_M) (c : z_CI s) (f : z_Fr R_X11_least_1 r0 s) (a1 : Int) (a2 : Int) (a3 : Int) (a4 : Int) (b1 : -2147483648 ≤ a1 ∧ a1 ≤ 2147483647) (b2 : -2147483648 ≤ a2 ∧ a2 ≤ 2147483647) (b3 : 999 ≤ a3 ∧ a3 ≤ 999) (b4 : -2147483648 ≤ a4 ∧ a4 ≤ 2147483646) (p0 : y_V2 s) (M : Int) (pm : 2147483647 - a4 ≤ M) {r : z_M → Int → z_O} {k : z_M → z_O} (hr : ∀ (s' : z_M) (v4 : Int), z_CI s' → z_Fr R_X11_least_1 r0 s' → (-2147483648 ≤ v4 ∧ v4 ≤ 2147483647) → (y_V2 s') → (2147483647 - v4 < M) → z_T (r s' v4) (P_X11_least_1D r0)) (hk : ∀ (s' : z_M), z_CI s' → z_Fr R_X11_least_1 r0 s' → (y_V2 s') → z_T (k s') (P_X11_least_1D r0)) : z_T (fX11_least_J80 fu s 1 a1 a2 a3 a4 r k) (P_X11_least_1D r0) := by
  refine T_of (fX11_least_J80.eq_1 ..) ?_
  have u1 := CI_b c (k := 249) (j := 6) bd_249_6
  refine T_leq (fun x2 e3 => ?_)
  have w4 := z_wb e3
  exact hr s x2 c f (by omega) p0 (by omega)
theorem nr_X1_tooLong_249__3 (b : Int) : ¬ R_X1_tooLong_249 3 b := by
  unfold R_X1_tooLong_249; omega
theorem nr_X1_tooLong_249__16 (b : Int) : ¬ R_X1_tooLong_249 16 b := by
  unfold R_X1_tooLong_249; omega
theorem nr_X1_tooLong_249__18 (b : Int) : ¬ R_X1_tooLong_249 18 b := by
  unfold R_X1_tooLong_249; omega
theorem nr_X1_tooLong_249__199 (b : Int) : ¬ R_X1_tooLong_249 199 b := by
  unfold R_X1_tooLong_249; omega
theorem nr_X1_tooLong_249__201 (b : Int) : ¬ R_X1_tooLong_249 201 b := by
  unfold R_X1_tooLong_249; omega
theorem nr_X1_tooLong_249__203 (b : Int) : ¬ R_X1_tooLong_249 203 b := by
  unfold R_X1_tooLong_249; omega
theorem nr_X1_tooLong_249__205 (b : Int) : ¬ R_X1_tooLong_249 205 b := by
  unfold R_X1_tooLong_249; omega
theorem nr_X1_tooLong_249__207 (b : Int) : ¬ R_X1_tooLong_249 207 b := by
  unfold R_X1_tooLong_249; omega
theorem nr_X1_tooLong_249__209 (b : Int) : ¬ R_X1_tooLong_249 209 b := by
  unfold R_X1_tooLong_249; omega
theorem nr_X1_tooLong_249__211 (b : Int) : ¬ R_X1_tooLong_249 211 b := by
  unfold R_X1_tooLong_249; omega
theorem nr_X1_tooLong_249__213 (b : Int) : ¬ R_X1_tooLong_249 213 b := by
  unfold R_X1_tooLong_249; omega
theorem nr_X1_tooLong_249__217 (b : Int) : ¬ R_X1_tooLong_249 217 b := by
  unfold R_X1_tooLong_249; omega
theorem nr_X1_tooLong_249__219 (b : Int) : ¬ R_X1_tooLong_249 219 b := by
  unfold R_X1_tooLong_249; omega
theorem sl_X11_least_1D_L38 {fu : Nat} (hfu : 8589934592 ≤ fu) (r0 : z_M) (a1 : Int) (a2 : Int) (a3 : Int) (b1 : -2147483648 ≤ a1 ∧ a1 ≤ 2147483647) (b2 : -2147483648 ≤ a2 ∧ a2 ≤ 2147483647) (b3 : 999 ≤ a3 ∧ a3 ≤ 999) {k : z_M → z_O} (hk : ∀ (s' : z_M), z_CI s' → z_Fr R_X11_least_1 r0 s' → (y_V2 s') → z_T (k s') (P_X11_least_1D r0)) : ∀ (F : Nat) (s : z_M) (a4 : Int), z_CI s → z_Fr R_X11_least_1 r0 s → (-2147483648 ≤ a4 ∧ a4 ≤ 2147483647) → (y_V2 s) → (2147483647 - a4 < (F : Int)) → z_T (fX11_least_L38 fu 1 a1 a2 a3 F s a4 k) (P_X11_least_1D r0) := by
  intro F
  induction F with
  | zero =>
    intro s a4 c f b4 i0 hm
    have u30 := CI_b c (k := 249) (j := 6) bd_249_6
    exfalso; omega
  | succ F ih =>
    intro s a4 c f b4 i0 hm
    refine T_of (fX11_least_L38.eq_2 ..) ?_
    have u1 := CI_b c (k := 249) (j := 6) bd_249_6
    refine T_ite (fun h2 => ?_) (fun h2 => ?_)
    · exact hk s c f i0
    · refine T_if1 (by decide +kernel) ?_
      refine T_let 249 (by decide +kernel) ?_
      refine T_if1 (by decide +kernel) ?_
      refine T_useN (sf_X1_go_249 hfu s c a4 a2 (by omega) (by omega)) (fun v8 s3 hq => ?_)
      obtain ⟨c4, f5, rfl⟩ := hq
      refine T_vN ?_
      have f6 := z_Fr.tr (R := R_X11_least_1) f f5 rs_X1_go_249__X11_least_1
      have u11 := CI_b c4 (k := 249) (j := 6) bd_249_6
      have r12 := y_V2.fr i0 (f5 1 16 (by decide)) (f5 191 16 (by decide)) (f5 6 6 (by decide)) (f5 191 17 (by decide)) (f5 191 18 (by decide)) (fun b => f5 3 b (nr_X1_go_249__3 b)) (fun b => f5 8 b (nr_X1_go_249__8 b)) (fun b => f5 12 b (nr_X1_go_249__12 b)) (fun b => f5 14 b (nr_X1_go_249__14 b)) (fun b => f5 16 b (nr_X1_go_249__16 b)) (fun b => f5 18 b (nr_X1_go_249__18 b)) (fun b => f5 193 b (nr_X1_go_249__193 b)) (fun b => f5 195 b (nr_X1_go_249__195 b)) (fun b => f5 197 b (nr_X1_go_249__197 b)) (fun b => f5 199 b (nr_X1_go_249__199 b)) (fun b => f5 201 b (nr_X1_go_249__201 b)) (fun b => f5 203 b (nr_X1_go_249__203 b)) (fun b => f5 205 b (nr_X1_go_249__205 b)) (fun b => f5 207 b (nr_X1_go_249__207 b)) (fun b => f5 209 b (nr_X1_go_249__209 b)) (fun b => f5 211 b (nr_X1_go_249__211 b)) (fun b => f5 213 b (nr_X1_go_249__213 b)) (fun b => f5 215 b (nr_X1_go_249__215 b)) (fun b => f5 217 b (nr_X1_go_249__217 b)) (fun b => f5 219 b (nr_X1_go_249__219 b))
      have r13 := y_B0.fr i0.1 (f5 211 0 (by decide)) (f5 213 0 (by decide))
      refine T_if1 (by decide +kernel) ?_
      refine T_let 249 (by decide +kernel) ?_
      refine T_if1 (by decide +kernel) ?_
      refine T_leq (fun x14 e15 => ?_)
      have u16 := CI_b c4 (k := 249) (j := 6) bd_249_6
      refine T_ite (fun h17 => ?_) (fun h17 => ?_)
      · exact sj_X11_least_1D_J80 hfu r0 s3 c4 f6 a1 a2 a3 a4 (by omega) (by omega) (by omega) (by omega) r12 (2147483647 - a4) (by omega) (fun s' v4 c' f' w4 z0 pg => ih s' v4 c' f' w4 z0 (by omega)) hk
      · refine T_if1 (by decide +kernel) ?_
        refine T_let 249 (by decide +kernel) ?_
        refine T_if1 (by decide +kernel) ?_
        refine T_useI (sf_X1_tooLong_249 hfu s3 c4 a4 (by omega)) (fun v23 s18 hq => ?_)
        obtain ⟨c19, f20, ⟨x22, rfl, b24, b25⟩⟩ := hq
        refine T_vI ?_
        have f21 := z_Fr.tr (R := R_X11_least_1) f6 f20 rs_X1_tooLong_249__X11_least_1
        have t26 : s18 249 6 = s3 249 6 := f20 249 6 (by decide)
        have r27 := y_V2.fr r12 (f20 1 16 (by decide)) (f20 191 16 (by decide)) (f20 6 6 (by decide)) (f20 191 17 (by decide)) (f20 191 18 (by decide)) (fun b => f20 3 b (nr_X1_tooLong_249__3 b)) (fun b => f20 8 b (nr_X1_tooLong_249__8 b)) (fun b => f20 12 b (nr_X1_tooLong_249__12 b)) (fun b => f20 14 b (nr_X1_tooLong_249__14 b)) (fun b => f20 16 b (nr_X1_tooLong_249__16 b)) (fun b => f20 18 b (nr_X1_tooLong_249__18 b)) (fun b => f20 193 b (nr_X1_tooLong_249__193 b)) (fun b => f20 195 b (nr_X1_tooLong_249__195 b)) (fun b => f20 197 b (nr_X1_tooLong_249__197 b)) (fun b => f20 199 b (nr_X1_tooLong_249__199 b)) (fun b => f20 201 b (nr_X1_tooLong_249__201 b)) (fun b => f20 203 b (nr_X1_tooLong_249__203 b)) (fun b => f20 205 b (nr_X1_tooLong_249__205 b)) (fun b => f20 207 b (nr_X1_tooLong_249__207 b)) (fun b => f20 209 b (nr_X1_tooLong_249__209 b)) (fun b => f20 211 b (nr_X1_tooLong_249__211 b)) (fun b => f20 213 b (nr_X1_tooLong_249__213 b)) (fun b => f20 215 b (nr_X1_tooLong_249__215 b)) (fun b => f20 217 b (nr_X1_tooLong_249__217 b)) (fun b => f20 219 b (nr_X1_tooLong_249__219 b))
        have r28 := y_B0.fr r13 (f20 211 0 (by decide)) (f20 213 0 (by decide))
        refine T_ite (fun h29 => ?_) (fun h29 => ?_)
        · exact sj_X11_least_1D_J80 hfu r0 s18 c19 f21 a1 a2 a3 a4 (by omega) (by omega) (by omega) (by omega) r27 (2147483647 - a4) (by omega) (fun s' v4 c' f' w4 z0 pg => ih s' v4 c' f' w4 z0 (by omega)) hk
        · exact T_ret ⟨c19, f21, r27, Or.inl (⟨a4, rfl, by omega, by omega⟩)⟩
theorem sf_X11_least_1D {fu : Nat} (hfu : 8589934592 ≤ fu) (r0 : z_M) (c0 : z_CI r0) (a1 : Int) (b1 : -2147483648 ≤ a1 ∧ a1 ≤ 2147483647) (p0 : y_V2 r0) : z_T (fX11_least fu r0 1 a1) (P_X11_least_1D r0) := by
  refine T_of (fX11_least.eq_1 ..) ?_
  refine T_if1 (by decide +kernel) ?_
  refine T_nw ?_ (fun h1 h2 => ?_)
  · exact T_ret ⟨CI_up c0 bd_1_15 (z_wb rfl).1, z_Fr.upf (R := R_X11_least_1) z_Fr.rf (fun a b h => z_up_k h) (fun b h => z_up_j h) (Or.inr (Or.inr (Or.inr (Or.inr (Or.inr (Or.inr (Or.inr (Or.inr (Or.inl (⟨rfl, by decide⟩)))))))))), y_V2.fr p0 (z_up_j (by decide)) (z_up_k (by decide)) (z_up_k (by decide)) (z_up_k (by decide)) (z_up_k (by decide)) (fun _ => z_up_k (by decide)) (fun _ => z_up_k (by decide)) (fun _ => z_up_k (by decide)) (fun _ => z_up_k (by decide)) (fun _ => z_up_k (by decide)) (fun _ => z_up_k (by decide)) (fun _ => z_up_k (by decide)) (fun _ => z_up_k (by decide)) (fun _ => z_up_k (by decide)) (fun _ => z_up_k (by decide)) (fun _ => z_up_k (by decide)) (fun _ => z_up_k (by decide)) (fun _ => z_up_k (by decide)) (fun _ => z_up_k (by decide)) (fun _ => z_up_k (by decide)) (fun _ => z_up_k (by decide)) (fun _ => z_up_k (by decide)) (fun _ => z_up_k (by decide)) (fun _ => z_up_k (by decide)) (fun _ => z_up_k (by decide)), Or.inr rfl⟩
  refine T_if1 (by decide +kernel) ?_
  refine T_useN (sf_X11_refresh_1D hfu r0 c0 p0) (fun v8 s3 hq => ?_)
  obtain ⟨c4, f5, o9, rfl⟩ := hq
  refine T_vN ?_
  have f6 := z_Fr.tr (R := R_X11_least_1) z_Fr.rf f5 rs_X11_refresh_1__X11_least_1
  have t12 : s3 249 6 = r0 249 6 := f5 249 6 (by decide)
  refine T_if1 (by decide +kernel) ?_
  refine T_let 2 (by decide +kernel) ?_
  refine T_if1 (by decide +kernel) ?_
  refine T_get (by decide +kernel) (c := 3) (by decide +kernel) bdr_3 (by decide) c4 (fun x13 e14 b15 w16 => ?_)
  have l17 : z_ln 2 = 9 := by decide +kernel
  refine T_pick (by decide) (fun x18 e19 b20 => ?_)
  have b21 : x18 = (999 : Int) := by rw [← e19]; decide +kernel
  refine T_if1 (by decide +kernel) ?_
  refine T_useI (sf_X11_shortestFor_1D hfu s3 c4 a1 x13 (by omega) (by omega) (y_V2.u o9)) (fun v27 s22 hq => ?_)
  obtain ⟨c23, f24, o28, ⟨x26, rfl, b29, b30⟩⟩ := hq
  refine T_vI ?_
  have f25 := z_Fr.tr (R := R_X11_least_1) f6 f24 rs_X11_shortestFor_1__X11_least_1
  have t31 : s22 249 6 = s3 249 6 := f24 249 6 (by decide)
  have r32 := y_U2.fr o9 (f24 191 16 (by decide)) (f24 6 6 (by decide)) (f24 191 17 (by decide)) (f24 191 18 (by decide)) (fun b => f24 3 b (nr_X11_shortestFor_1__3 b)) (fun b => f24 8 b (nr_X11_shortestFor_1__8 b)) (fun b => f24 12 b (nr_X11_shortestFor_1__12 b)) (fun b => f24 14 b (nr_X11_shortestFor_1__14 b)) (fun b => f24 16 b (nr_X11_shortestFor_1__16 b)) (fun b => f24 18 b (nr_X11_shortestFor_1__18 b)) (fun b => f24 193 b (nr_X11_shortestFor_1__193 b)) (fun b => f24 195 b (nr_X11_shortestFor_1__195 b)) (fun b => f24 197 b (nr_X11_shortestFor_1__197 b)) (fun b => f24 199 b (nr_X11_shortestFor_1__199 b)) (fun b => f24 201 b (nr_X11_shortestFor_1__201 b)) (fun b => f24 203 b (nr_X11_shortestFor_1__203 b)) (fun b => f24 205 b (nr_X11_shortestFor_1__205 b)) (fun b => f24 207 b (nr_X11_shortestFor_1__207 b)) (fun b => f24 209 b (nr_X11_shortestFor_1__209 b)) (fun b => f24 211 b (nr_X11_shortestFor_1__211 b)) (fun b => f24 213 b (nr_X11_shortestFor_1__213 b)) (fun b => f24 215 b (nr_X11_shortestFor_1__215 b)) (fun b => f24 217 b (nr_X11_shortestFor_1__217 b)) (fun b => f24 219 b (nr_X11_shortestFor_1__219 b))
  have r33 := y_B0.fr o9.1 (f24 211 0 (by decide)) (f24 213 0 (by decide))
  refine sl_X11_least_1D_L38 hfu r0 a1 x13 x18 (by omega) (by omega) (by omega) (fun s34 c35 f36 g37 => ?_) fu s22 x26 c23 f25 (by omega) o28 (by omega)
  have u38 := CI_b c35 (k := 249) (j := 6) bd_249_6
  exact T_ret ⟨c35, f36, g37, Or.inl (⟨(-1), rfl, by omega, by omega⟩)⟩
abbrev P_X11_better_1D (r0 : z_M) : z_V → z_M → Prop := fun v s' => z_CI s' ∧ z_Fr R_X11_better_1 r0 s' ∧ (y_V2 s') ∧ (∃ x, v = vL x ∧ -9223372036854775808 ≤ x ∧ x ≤ 9223372036854775807)
theorem nr_X1_costs_249__3 (b : Int) : ¬ R_X1_costs_249 3 b := by
  unfold R_X1_costs_249; omega
theorem nr_X1_costs_249__16 (b : Int) : ¬ R_X1_costs_249 16 b := by
  unfold R_X1_costs_249; omega
theorem nr_X1_costs_249__18 (b : Int) : ¬ R_X1_costs_249 18 b := by
  unfold R_X1_costs_249; omega
theorem nr_X1_costs_249__199 (b : Int) : ¬ R_X1_costs_249 199 b := by
  unfold R_X1_costs_249; omega
theorem nr_X1_costs_249__201 (b : Int) : ¬ R_X1_costs_249 201 b := by
  unfold R_X1_costs_249; omega
theorem nr_X1_costs_249__203 (b : Int) : ¬ R_X1_costs_249 203 b := by
  unfold R_X1_costs_249; omega
theorem nr_X1_costs_249__205 (b : Int) : ¬ R_X1_costs_249 205 b := by
  unfold R_X1_costs_249; omega
theorem nr_X1_costs_249__207 (b : Int) : ¬ R_X1_costs_249 207 b := by
  unfold R_X1_costs_249; omega
theorem nr_X1_costs_249__209 (b : Int) : ¬ R_X1_costs_249 209 b := by
  unfold R_X1_costs_249; omega
theorem nr_X1_costs_249__211 (b : Int) : ¬ R_X1_costs_249 211 b := by
  unfold R_X1_costs_249; omega
theorem nr_X1_costs_249__213 (b : Int) : ¬ R_X1_costs_249 213 b := by
  unfold R_X1_costs_249; omega
theorem nr_X1_costs_249__217 (b : Int) : ¬ R_X1_costs_249 217 b := by
  unfold R_X1_costs_249; omega
theorem nr_X1_costs_249__219 (b : Int) : ¬ R_X1_costs_249 219 b := by
  unfold R_X1_costs_249; omega
theorem sf_X11_better_1D {fu : Nat} (hfu : 8589934592 ≤ fu) (r0 : z_M) (c0 : z_CI r0) (p0 : y_V2 r0) : z_T (fX11_better fu r0 1) (P_X11_better_1D r0) := by
  refine T_of (fX11_better.eq_1 ..) ?_
  refine T_if1 (by decide +kernel) ?_
  refine T_useN (sf_X11_refresh_1D hfu r0 c0 p0) (fun v6 s1 hq => ?_)
  obtain ⟨c2, f3, o7, rfl⟩ := hq
  refine T_vN ?_
  have f4 := z_Fr.tr (R := R_X11_better_1) z_Fr.rf f3 rs_X11_refresh_1__X11_better_1
  refine T_if1 (by decide +kernel) ?_
  refine T_let 2 (by decide +kernel) ?_
  refine T_if1 (by decide +kernel) ?_
  refine T_get (by decide +kernel) (c := 3) (by decide +kernel) bdr_3 (by decide) c2 (fun x10 e11 b12 w13 => ?_)
  have l14 : z_ln 2 = 9 := by decide +kernel
  refine T_if1 (by decide +kernel) ?_
  refine T_let 249 (by decide +kernel) ?_
  refine T_if1 (by decide +kernel) ?_
  refine T_useN (sf_X1_go_249 hfu s1 c2 x10 0 (by omega) (by omega)) (fun v20 s15 hq => ?_)
  obtain ⟨c16, f17, rfl⟩ := hq
  refine T_vN ?_
  have f18 := z_Fr.tr (R := R_X11_better_1) f4 f17 rs_X1_go_249__X11_better_1
  have r23 := y_U2.fr o7 (f17 191 16 (by decide)) (f17 6 6 (by decide)) (f17 191 17 (by decide)) (f17 191 18 (by decide)) (fun b => f17 3 b (nr_X1_go_249__3 b)) (fun b => f17 8 b (nr_X1_go_249__8 b)) (fun b => f17 12 b (nr_X1_go_249__12 b)) (fun b => f17 14 b (nr_X1_go_249__14 b)) (fun b => f17 16 b (nr_X1_go_249__16 b)) (fun b => f17 18 b (nr_X1_go_249__18 b)) (fun b => f17 193 b (nr_X1_go_249__193 b)) (fun b => f17 195 b (nr_X1_go_249__195 b)) (fun b => f17 197 b (nr_X1_go_249__197 b)) (fun b => f17 199 b (nr_X1_go_249__199 b)) (fun b => f17 201 b (nr_X1_go_249__201 b)) (fun b => f17 203 b (nr_X1_go_249__203 b)) (fun b => f17 205 b (nr_X1_go_249__205 b)) (fun b => f17 207 b (nr_X1_go_249__207 b)) (fun b => f17 209 b (nr_X1_go_249__209 b)) (fun b => f17 211 b (nr_X1_go_249__211 b)) (fun b => f17 213 b (nr_X1_go_249__213 b)) (fun b => f17 215 b (nr_X1_go_249__215 b)) (fun b => f17 217 b (nr_X1_go_249__217 b)) (fun b => f17 219 b (nr_X1_go_249__219 b))
  have r24 := y_B0.fr o7.1 (f17 211 0 (by decide)) (f17 213 0 (by decide))
  refine T_if1 (by decide +kernel) ?_
  refine T_let 249 (by decide +kernel) ?_
  refine T_if1 (by decide +kernel) ?_
  refine T_useL (sf_X1_costs_249 hfu s15 c16 x10 (by omega)) (fun v30 s25 hq => ?_)
  obtain ⟨c26, f27, ⟨x29, rfl, b31, b32⟩⟩ := hq
  refine T_vL ?_
  have f28 := z_Fr.tr (R := R_X11_better_1) f18 f27 rs_X1_costs_249__X11_better_1
  have r33 := y_U2.fr r23 (f27 191 16 (by decide)) (f27 6 6 (by decide)) (f27 191 17 (by decide)) (f27 191 18 (by decide)) (fun b => f27 3 b (nr_X1_costs_249__3 b)) (fun b => f27 8 b (nr_X1_costs_249__8 b)) (fun b => f27 12 b (nr_X1_costs_249__12 b)) (fun b => f27 14 b (nr_X1_costs_249__14 b)) (fun b => f27 16 b (nr_X1_costs_249__16 b)) (fun b => f27 18 b (nr_X1_costs_249__18 b)) (fun b => f27 193 b (nr_X1_costs_249__193 b)) (fun b => f27 195 b (nr_X1_costs_249__195 b)) (fun b => f27 197 b (nr_X1_costs_249__197 b)) (fun b => f27 199 b (nr_X1_costs_249__199 b)) (fun b => f27 201 b (nr_X1_costs_249__201 b)) (fun b => f27 203 b (nr_X1_costs_249__203 b)) (fun b => f27 205 b (nr_X1_costs_249__205 b)) (fun b => f27 207 b (nr_X1_costs_249__207 b)) (fun b => f27 209 b (nr_X1_costs_249__209 b)) (fun b => f27 211 b (nr_X1_costs_249__211 b)) (fun b => f27 213 b (nr_X1_costs_249__213 b)) (fun b => f27 215 b (nr_X1_costs_249__215 b)) (fun b => f27 217 b (nr_X1_costs_249__217 b)) (fun b => f27 219 b (nr_X1_costs_249__219 b))
  have r34 := y_B0.fr r24 (f27 211 0 (by decide)) (f27 213 0 (by decide))
  refine T_if1 (by decide +kernel) ?_
  refine T_let 249 (by decide +kernel) ?_
  refine T_if1 (by decide +kernel) ?_
  refine T_useN (sf_X1_go_249 hfu s25 c26 x10 1 (by omega) (by omega)) (fun v40 s35 hq => ?_)
  obtain ⟨c36, f37, rfl⟩ := hq
  refine T_vN ?_
  have f38 := z_Fr.tr (R := R_X11_better_1) f28 f37 rs_X1_go_249__X11_better_1
  have r43 := y_U2.fr r33 (f37 191 16 (by decide)) (f37 6 6 (by decide)) (f37 191 17 (by decide)) (f37 191 18 (by decide)) (fun b => f37 3 b (nr_X1_go_249__3 b)) (fun b => f37 8 b (nr_X1_go_249__8 b)) (fun b => f37 12 b (nr_X1_go_249__12 b)) (fun b => f37 14 b (nr_X1_go_249__14 b)) (fun b => f37 16 b (nr_X1_go_249__16 b)) (fun b => f37 18 b (nr_X1_go_249__18 b)) (fun b => f37 193 b (nr_X1_go_249__193 b)) (fun b => f37 195 b (nr_X1_go_249__195 b)) (fun b => f37 197 b (nr_X1_go_249__197 b)) (fun b => f37 199 b (nr_X1_go_249__199 b)) (fun b => f37 201 b (nr_X1_go_249__201 b)) (fun b => f37 203 b (nr_X1_go_249__203 b)) (fun b => f37 205 b (nr_X1_go_249__205 b)) (fun b => f37 207 b (nr_X1_go_249__207 b)) (fun b => f37 209 b (nr_X1_go_249__209 b)) (fun b => f37 211 b (nr_X1_go_249__211 b)) (fun b => f37 213 b (nr_X1_go_249__213 b)) (fun b => f37 215 b (nr_X1_go_249__215 b)) (fun b => f37 217 b (nr_X1_go_249__217 b)) (fun b => f37 219 b (nr_X1_go_249__219 b))
  have r44 := y_B0.fr r34 (f37 211 0 (by decide)) (f37 213 0 (by decide))
  refine T_if1 (by decide +kernel) ?_
  refine T_let 249 (by decide +kernel) ?_
  refine T_if1 (by decide +kernel) ?_
  refine T_useL (sf_X1_costs_249 hfu s35 c36 x10 (by omega)) (fun v50 s45 hq => ?_)
  obtain ⟨c46, f47, ⟨x49, rfl, b51, b52⟩⟩ := hq
  refine T_vL ?_
  have f48 := z_Fr.tr (R := R_X11_better_1) f38 f47 rs_X1_costs_249__X11_better_1
  have r53 := y_U2.fr r43 (f47 191 16 (by decide)) (f47 6 6 (by decide)) (f47 191 17 (by decide)) (f47 191 18 (by decide)) (fun b => f47 3 b (nr_X1_costs_249__3 b)) (fun b => f47 8 b (nr_X1_costs_249__8 b)) (fun b => f47 12 b (nr_X1_costs_249__12 b)) (fun b => f47 14 b (nr_X1_costs_249__14 b)) (fun b => f47 16 b (nr_X1_costs_249__16 b)) (fun b => f47 18 b (nr_X1_costs_249__18 b)) (fun b => f47 193 b (nr_X1_costs_249__193 b)) (fun b => f47 195 b (nr_X1_costs_249__195 b)) (fun b => f47 197 b (nr_X1_costs_249__197 b)) (fun b => f47 199 b (nr_X1_costs_249__199 b)) (fun b => f47 201 b (nr_X1_costs_249__201 b)) (fun b => f47 203 b (nr_X1_costs_249__203 b)) (fun b => f47 205 b (nr_X1_costs_249__205 b)) (fun b => f47 207 b (nr_X1_costs_249__207 b)) (fun b => f47 209 b (nr_X1_costs_249__209 b)) (fun b => f47 211 b (nr_X1_costs_249__211 b)) (fun b => f47 213 b (nr_X1_costs_249__213 b)) (fun b => f47 215 b (nr_X1_costs_249__215 b)) (fun b => f47 217 b (nr_X1_costs_249__217 b)) (fun b => f47 219 b (nr_X1_costs_249__219 b))
  have r54 := y_B0.fr r44 (f47 211 0 (by decide)) (f47 213 0 (by decide))
  refine T_leq (fun x55 e56 => ?_)
  have w57 := z_wlr e56
  exact T_ret ⟨c46, f48, (y_V2.u r53), ⟨x55, rfl, by omega, by omega⟩⟩
abbrev P_X11_marks_1D (r0 : z_M) : z_V → z_M → Prop := fun v s' => z_CI s' ∧ z_Fr R_X11_marks_1 r0 s' ∧ (y_V2 s') ∧ ((∃ x, v = vI x ∧ -2147483648 ≤ x ∧ x ≤ 2147483647) ∨ v = vX 1)
theorem nr_X10_marksOf_191__3 (b : Int) : ¬ R_X10_marksOf_191 3 b := not_false
theorem nr_X10_marksOf_191__16 (b : Int) : ¬ R_X10_marksOf_191 16 b := not_false
theorem nr_X10_marksOf_191__18 (b : Int) : ¬ R_X10_marksOf_191 18 b := not_false
theorem nr_X10_marksOf_191__199 (b : Int) : ¬ R_X10_marksOf_191 199 b := not_false
theorem nr_X10_marksOf_191__201 (b : Int) : ¬ R_X10_marksOf_191 201 b := not_false
theorem nr_X10_marksOf_191__203 (b : Int) : ¬ R_X10_marksOf_191 203 b := not_false
theorem nr_X10_marksOf_191__205 (b : Int) : ¬ R_X10_marksOf_191 205 b := not_false
theorem nr_X10_marksOf_191__207 (b : Int) : ¬ R_X10_marksOf_191 207 b := not_false
theorem nr_X10_marksOf_191__209 (b : Int) : ¬ R_X10_marksOf_191 209 b := not_false
theorem nr_X10_marksOf_191__211 (b : Int) : ¬ R_X10_marksOf_191 211 b := not_false
theorem nr_X10_marksOf_191__213 (b : Int) : ¬ R_X10_marksOf_191 213 b := not_false
theorem nr_X10_marksOf_191__217 (b : Int) : ¬ R_X10_marksOf_191 217 b := not_false
theorem nr_X10_marksOf_191__219 (b : Int) : ¬ R_X10_marksOf_191 219 b := not_false
theorem sf_X11_marks_1D {fu : Nat} (hfu : 8589934592 ≤ fu) (r0 : z_M) (c0 : z_CI r0) (a1 : Int) (b1 : -2147483648 ≤ a1 ∧ a1 ≤ 2147483647) (p0 : y_V2 r0) : z_T (fX11_marks fu r0 1 a1) (P_X11_marks_1D r0) := by
  refine T_of (fX11_marks.eq_1 ..) ?_
  refine T_if1 (by decide +kernel) ?_
  refine T_nw ?_ (fun h1 h2 => ?_)
  · exact T_ret ⟨CI_up c0 bd_1_15 (z_wb rfl).1, z_Fr.upf (R := R_X11_marks_1) z_Fr.rf (fun a b h => z_up_k h) (fun b h => z_up_j h) (Or.inr (Or.inr (Or.inr (Or.inr (Or.inr (Or.inr (Or.inr (Or.inl (⟨rfl, by decide⟩))))))))), y_V2.fr p0 (z_up_j (by decide)) (z_up_k (by decide)) (z_up_k (by decide)) (z_up_k (by decide)) (z_up_k (by decide)) (fun _ => z_up_k (by decide)) (fun _ => z_up_k (by decide)) (fun _ => z_up_k (by decide)) (fun _ => z_up_k (by decide)) (fun _ => z_up_k (by decide)) (fun _ => z_up_k (by decide)) (fun _ => z_up_k (by decide)) (fun _ => z_up_k (by decide)) (fun _ => z_up_k (by decide)) (fun _ => z_up_k (by decide)) (fun _ => z_up_k (by decide)) (fun _ => z_up_k (by decide)) (fun _ => z_up_k (by decide)) (fun _ => z_up_k (by decide)) (fun _ => z_up_k (by decide)) (fun _ => z_up_k (by decide)) (fun _ => z_up_k (by decide)) (fun _ => z_up_k (by decide)) (fun _ => z_up_k (by decide)) (fun _ => z_up_k (by decide)), Or.inr rfl⟩
  refine T_if1 (by decide +kernel) ?_
  refine T_useN (sf_X11_refresh_1D hfu r0 c0 p0) (fun v8 s3 hq => ?_)
  obtain ⟨c4, f5, o9, rfl⟩ := hq
  refine T_vN ?_
  have f6 := z_Fr.tr (R := R_X11_marks_1) z_Fr.rf f5 rs_X11_refresh_1__X11_marks_1
  have t12 : s3 6 6 = r0 6 6 := f5 6 6 (by decide)
  refine T_if1 (by decide +kernel) ?_
  refine T_let 191 (by decide +kernel) ?_
  refine T_if1 (by decide +kernel) ?_
  refine T_let 6 (by decide +kernel) ?_
  refine T_if1 (by decide +kernel) ?_
  refine T_leq (fun x13 e14 => ?_)
  have u15 := CI_b c4 (k := 6) (j := 6) bd_6_6
  refine T_leq (fun x16 e17 => ?_)
  have w18 := z_wb e17
  refine T_if1 (by decide +kernel) ?_
  refine T_useI (sf_X10_marksOf_191 hfu s3 c4 0 x16 a1 (by omega) (by omega) (by omega)) (fun v24 s19 hq => ?_)
  obtain ⟨c20, f21, ⟨x23, rfl, b25, b26⟩⟩ := hq
  refine T_vI ?_
  have f22 := z_Fr.tr (R := R_X11_marks_1) f6 f21 (fun a b h => absurd h not_false)
  have t27 : s19 6 6 = s3 6 6 := f21 6 6 (by decide)
  have r28 := y_U2.fr o9 (f21 191 16 (by decide)) (f21 6 6 (by decide)) (f21 191 17 (by decide)) (f21 191 18 (by decide)) (fun b => f21 3 b (nr_X10_marksOf_191__3 b)) (fun b => f21 8 b (nr_X10_marksOf_191__8 b)) (fun b => f21 12 b (nr_X10_marksOf_191__12 b)) (fun b => f21 14 b (nr_X10_marksOf_191__14 b)) (fun b => f21 16 b (nr_X10_marksOf_191__16 b)) (fun b => f21 18 b (nr_X10_marksOf_191__18 b)) (fun b => f21 193 b (nr_X10_marksOf_191__193 b)) (fun b => f21 195 b (nr_X10_marksOf_191__195 b)) (fun b => f21 197 b (nr_X10_marksOf_191__197 b)) (fun b => f21 199 b (nr_X10_marksOf_191__199 b)) (fun b => f21 201 b (nr_X10_marksOf_191__201 b)) (fun b => f21 203 b (nr_X10_marksOf_191__203 b)) (fun b => f21 205 b (nr_X10_marksOf_191__205 b)) (fun b => f21 207 b (nr_X10_marksOf_191__207 b)) (fun b => f21 209 b (nr_X10_marksOf_191__209 b)) (fun b => f21 211 b (nr_X10_marksOf_191__211 b)) (fun b => f21 213 b (nr_X10_marksOf_191__213 b)) (fun b => f21 215 b (nr_X10_marksOf_191__215 b)) (fun b => f21 217 b (nr_X10_marksOf_191__217 b)) (fun b => f21 219 b (nr_X10_marksOf_191__219 b))
  have r29 := y_B0.fr o9.1 (f21 211 0 (by decide)) (f21 213 0 (by decide))
  exact T_ret ⟨c20, f22, (y_V2.u r28), Or.inl (⟨x23, rfl, by omega, by omega⟩)⟩
abbrev P_X11_moves_1D (r0 : z_M) : z_V → z_M → Prop := fun v s' => z_CI s' ∧ z_Fr R_X11_moves_1 r0 s' ∧ (y_V2 s') ∧ (∃ x, v = vI x ∧ -2147483648 ≤ x ∧ x ≤ 2147483647)
theorem nr_X1_movedFrom_249_259__3 (b : Int) : ¬ R_X1_movedFrom_249_259 3 b := not_false
theorem nr_X1_movedFrom_249_259__16 (b : Int) : ¬ R_X1_movedFrom_249_259 16 b := not_false
theorem nr_X1_movedFrom_249_259__18 (b : Int) : ¬ R_X1_movedFrom_249_259 18 b := not_false
theorem nr_X1_movedFrom_249_259__199 (b : Int) : ¬ R_X1_movedFrom_249_259 199 b := not_false
theorem nr_X1_movedFrom_249_259__201 (b : Int) : ¬ R_X1_movedFrom_249_259 201 b := not_false
theorem nr_X1_movedFrom_249_259__203 (b : Int) : ¬ R_X1_movedFrom_249_259 203 b := not_false
theorem nr_X1_movedFrom_249_259__205 (b : Int) : ¬ R_X1_movedFrom_249_259 205 b := not_false
theorem nr_X1_movedFrom_249_259__207 (b : Int) : ¬ R_X1_movedFrom_249_259 207 b := not_false
theorem nr_X1_movedFrom_249_259__209 (b : Int) : ¬ R_X1_movedFrom_249_259 209 b := not_false
theorem nr_X1_movedFrom_249_259__211 (b : Int) : ¬ R_X1_movedFrom_249_259 211 b := not_false
theorem nr_X1_movedFrom_249_259__213 (b : Int) : ¬ R_X1_movedFrom_249_259 213 b := not_false
theorem nr_X1_movedFrom_249_259__217 (b : Int) : ¬ R_X1_movedFrom_249_259 217 b := not_false
theorem nr_X1_movedFrom_249_259__219 (b : Int) : ¬ R_X1_movedFrom_249_259 219 b := not_false
theorem sf_X11_moves_1D {fu : Nat} (hfu : 8589934592 ≤ fu) (r0 : z_M) (c0 : z_CI r0) (p0 : y_V2 r0) : z_T (fX11_moves fu r0 1) (P_X11_moves_1D r0) := by
  refine T_of (fX11_moves.eq_1 ..) ?_
  refine T_if1 (by decide +kernel) ?_
  refine T_useN (sf_X11_refresh_1D hfu r0 c0 p0) (fun v6 s1 hq => ?_)
  obtain ⟨c2, f3, o7, rfl⟩ := hq
  refine T_vN ?_
  have f4 := z_Fr.tr (R := R_X11_moves_1) z_Fr.rf f3 rs_X11_refresh_1__X11_moves_1
  refine T_if1 (by decide +kernel) ?_
  refine T_let 2 (by decide +kernel) ?_
  refine T_if1 (by decide +kernel) ?_
  refine T_let 2 (by decide +kernel) ?_
  refine T_if1 (by decide +kernel) ?_
  refine T_get (by decide +kernel) (c := 3) (by decide +kernel) bdr_3 (by decide) c2 (fun x10 e11 b12 w13 => ?_)
  have l14 : z_ln 2 = 9 := by decide +kernel
  refine T_leq (fun x15 e16 => ?_)
  have w17 := z_wb e16
  refine T_if1 (by decide +kernel) ?_
  refine T_put (by decide +kernel) (c := 3) (by decide +kernel) bdr_3 (by omega) c2 (fun s18 e21 c19 g22 => ?_)
  have f20 := z_Fr.up (R := R_X11_moves_1) f4 g22 (fun _ => (Or.inl (⟨by decide, by decide⟩)))
  have r23 := y_B0.fr o7.1 (g22 211 0 (by decide)) (g22 213 0 (by decide))
  refine T_if1 (by decide +kernel) ?_
  refine T_let 191 (by decide +kernel) ?_
  refine T_if1 (by decide +kernel) ?_
  refine T_useN (sf_X10_build_191D hfu s18 c19 r23) (fun v29 s24 hq => ?_)
  obtain ⟨c25, f26, o30, rfl⟩ := hq
  refine T_vN ?_
  have f27 := z_Fr.tr (R := R_X11_moves_1) f20 f26 rs_X10_build_191__X11_moves_1
  refine T_if1 (by decide +kernel) ?_
  refine T_let 220 (by decide +kernel) ?_
  refine T_if1 (by decide +kernel) ?_
  refine T_useN (sf_X5_forget_220 hfu s24 c25) (fun v38 s33 hq => ?_)
  obtain ⟨c34, f35, rfl⟩ := hq
  refine T_vN ?_
  have f36 := z_Fr.tr (R := R_X11_moves_1) f27 f35 rs_X5_forget_220__X11_moves_1
  have r41 := y_U2.fr o30 (f35 191 16 (by decide)) (f35 6 6 (by decide)) (f35 191 17 (by decide)) (f35 191 18 (by decide)) (fun b => f35 3 b (nr_X5_forget_220__3 b)) (fun b => f35 8 b (nr_X5_forget_220__8 b)) (fun b => f35 12 b (nr_X5_forget_220__12 b)) (fun b => f35 14 b (nr_X5_forget_220__14 b)) (fun b => f35 16 b (nr_X5_forget_220__16 b)) (fun b => f35 18 b (nr_X5_forget_220__18 b)) (fun b => f35 193 b (nr_X5_forget_220__193 b)) (fun b => f35 195 b (nr_X5_forget_220__195 b)) (fun b => f35 197 b (nr_X5_forget_220__197 b)) (fun b => f35 199 b (nr_X5_forget_220__199 b)) (fun b => f35 201 b (nr_X5_forget_220__201 b)) (fun b => f35 203 b (nr_X5_forget_220__203 b)) (fun b => f35 205 b (nr_X5_forget_220__205 b)) (fun b => f35 207 b (nr_X5_forget_220__207 b)) (fun b => f35 209 b (nr_X5_forget_220__209 b)) (fun b => f35 211 b (nr_X5_forget_220__211 b)) (fun b => f35 213 b (nr_X5_forget_220__213 b)) (fun b => f35 215 b (nr_X5_forget_220__215 b)) (fun b => f35 217 b (nr_X5_forget_220__217 b)) (fun b => f35 219 b (nr_X5_forget_220__219 b))
  have r42 := y_B0.fr o30.1 (f35 211 0 (by decide)) (f35 213 0 (by decide))
  refine T_if1 (by decide +kernel) ?_
  refine T_let 249 (by decide +kernel) ?_
  refine T_if1 (by decide +kernel) ?_
  refine T_let 2 (by decide +kernel) ?_
  refine T_if1 (by decide +kernel) ?_
  refine T_get (by decide +kernel) (c := 3) (by decide +kernel) bdr_3 (by decide) c34 (fun x43 e44 b45 w46 => ?_)
  have l47 : z_ln 2 = 9 := by decide +kernel
  refine T_if1 (by decide +kernel) ?_
  refine T_let 2 (by decide +kernel) ?_
  refine T_if1 (by decide +kernel) ?_
  refine T_get (by decide +kernel) (c := 3) (by decide +kernel) bdr_3 (by decide) c34 (fun x48 e49 b50 w51 => ?_)
  have l52 : z_ln 2 = 9 := by decide +kernel
  refine T_if1 (by decide +kernel) ?_
  refine T_useN (sf_X1_go_249 hfu s33 c34 x43 x48 (by omega) (by omega)) (fun v58 s53 hq => ?_)
  obtain ⟨c54, f55, rfl⟩ := hq
  refine T_vN ?_
  have f56 := z_Fr.tr (R := R_X11_moves_1) f36 f55 rs_X1_go_249__X11_moves_1
  have r61 := y_U2.fr r41 (f55 191 16 (by decide)) (f55 6 6 (by decide)) (f55 191 17 (by decide)) (f55 191 18 (by decide)) (fun b => f55 3 b (nr_X1_go_249__3 b)) (fun b => f55 8 b (nr_X1_go_249__8 b)) (fun b => f55 12 b (nr_X1_go_249__12 b)) (fun b => f55 14 b (nr_X1_go_249__14 b)) (fun b => f55 16 b (nr_X1_go_249__16 b)) (fun b => f55 18 b (nr_X1_go_249__18 b)) (fun b => f55 193 b (nr_X1_go_249__193 b)) (fun b => f55 195 b (nr_X1_go_249__195 b)) (fun b => f55 197 b (nr_X1_go_249__197 b)) (fun b => f55 199 b (nr_X1_go_249__199 b)) (fun b => f55 201 b (nr_X1_go_249__201 b)) (fun b => f55 203 b (nr_X1_go_249__203 b)) (fun b => f55 205 b (nr_X1_go_249__205 b)) (fun b => f55 207 b (nr_X1_go_249__207 b)) (fun b => f55 209 b (nr_X1_go_249__209 b)) (fun b => f55 211 b (nr_X1_go_249__211 b)) (fun b => f55 213 b (nr_X1_go_249__213 b)) (fun b => f55 215 b (nr_X1_go_249__215 b)) (fun b => f55 217 b (nr_X1_go_249__217 b)) (fun b => f55 219 b (nr_X1_go_249__219 b))
  have r62 := y_B0.fr r42 (f55 211 0 (by decide)) (f55 213 0 (by decide))
  refine T_if1 (by decide +kernel) ?_
  refine T_let 249 (by decide +kernel) ?_
  refine T_if1 (by decide +kernel) ?_
  refine T_let 258 (by decide +kernel) ?_
  refine T_if1 (by decide +kernel) ?_
  refine T_let 259 (by decide +kernel) ?_
  refine T_if1 (by decide +kernel) ?_
  refine T_useI (sf_X1_movedFrom_249_259 hfu s53 c54) (fun v68 s63 hq => ?_)
  obtain ⟨c64, f65, ⟨x67, rfl, b69, b70⟩⟩ := hq
  refine T_vI ?_
  have f66 := z_Fr.tr (R := R_X11_moves_1) f56 f65 (fun a b h => absurd h not_false)
  have r71 := y_U2.fr r61 (f65 191 16 (by decide)) (f65 6 6 (by decide)) (f65 191 17 (by decide)) (f65 191 18 (by decide)) (fun b => f65 3 b (nr_X1_movedFrom_249_259__3 b)) (fun b => f65 8 b (nr_X1_movedFrom_249_259__8 b)) (fun b => f65 12 b (nr_X1_movedFrom_249_259__12 b)) (fun b => f65 14 b (nr_X1_movedFrom_249_259__14 b)) (fun b => f65 16 b (nr_X1_movedFrom_249_259__16 b)) (fun b => f65 18 b (nr_X1_movedFrom_249_259__18 b)) (fun b => f65 193 b (nr_X1_movedFrom_249_259__193 b)) (fun b => f65 195 b (nr_X1_movedFrom_249_259__195 b)) (fun b => f65 197 b (nr_X1_movedFrom_249_259__197 b)) (fun b => f65 199 b (nr_X1_movedFrom_249_259__199 b)) (fun b => f65 201 b (nr_X1_movedFrom_249_259__201 b)) (fun b => f65 203 b (nr_X1_movedFrom_249_259__203 b)) (fun b => f65 205 b (nr_X1_movedFrom_249_259__205 b)) (fun b => f65 207 b (nr_X1_movedFrom_249_259__207 b)) (fun b => f65 209 b (nr_X1_movedFrom_249_259__209 b)) (fun b => f65 211 b (nr_X1_movedFrom_249_259__211 b)) (fun b => f65 213 b (nr_X1_movedFrom_249_259__213 b)) (fun b => f65 215 b (nr_X1_movedFrom_249_259__215 b)) (fun b => f65 217 b (nr_X1_movedFrom_249_259__217 b)) (fun b => f65 219 b (nr_X1_movedFrom_249_259__219 b))
  have r72 := y_B0.fr r62 (f65 211 0 (by decide)) (f65 213 0 (by decide))
  refine T_if1 (by decide +kernel) ?_
  refine T_let 2 (by decide +kernel) ?_
  refine T_if1 (by decide +kernel) ?_
  refine T_let 2 (by decide +kernel) ?_
  refine T_if1 (by decide +kernel) ?_
  refine T_get (by decide +kernel) (c := 3) (by decide +kernel) bdr_3 (by decide) c64 (fun x73 e74 b75 w76 => ?_)
  have l77 : z_ln 2 = 9 := by decide +kernel
  refine T_leq (fun x78 e79 => ?_)
  have w80 := z_wb e79
  refine T_if1 (by decide +kernel) ?_
  refine T_put (by decide +kernel) (c := 3) (by decide +kernel) bdr_3 (by omega) c64 (fun s81 e84 c82 g85 => ?_)
  have f83 := z_Fr.up (R := R_X11_moves_1) f66 g85 (fun _ => (Or.inl (⟨by decide, by decide⟩)))
  have r86 := y_B0.fr r72 (g85 211 0 (by decide)) (g85 213 0 (by decide))
  refine T_if1 ⟨(by decide +kernel), by unfold z_bl; omega⟩ ?_
  refine T_upg c82 bd_1_16 (by omega) (fun s87 c88 g90 g91 e92 => ?_)
  have f89 := z_Fr.upf (R := R_X11_moves_1) f83 g90 g91 (Or.inr (Or.inr (Or.inr (Or.inr (Or.inr (Or.inr (Or.inr (Or.inr (Or.inr (Or.inr (Or.inl (⟨rfl, by decide⟩))))))))))))
  have r93 := y_B0.fr r86 (g90 211 0 (by decide)) (g90 213 0 (by decide))
  exact T_ret ⟨c88, f89, ⟨r93, Or.inl (by omega)⟩, ⟨x67, rfl, by omega, by omega⟩⟩
abbrev P_X11_lend_1D (r0 : z_M) : z_V → z_M → Prop := fun v s' => z_CI s' ∧ z_Fr R_X11_lend_1 r0 s' ∧ (y_V2 s') ∧ ((∃ x, v = vI x ∧ -2147483648 ≤ x ∧ x ≤ 2147483647) ∨ v = vX 1)
theorem nr_X5_longWith_220__3 (b : Int) : ¬ R_X5_longWith_220 3 b := by
  unfold R_X5_longWith_220; omega
theorem nr_X5_longWith_220__16 (b : Int) : ¬ R_X5_longWith_220 16 b := by
  unfold R_X5_longWith_220; omega
theorem nr_X5_longWith_220__18 (b : Int) : ¬ R_X5_longWith_220 18 b := by
  unfold R_X5_longWith_220; omega
theorem nr_X5_longWith_220__199 (b : Int) : ¬ R_X5_longWith_220 199 b := by
  unfold R_X5_longWith_220; omega
theorem nr_X5_longWith_220__201 (b : Int) : ¬ R_X5_longWith_220 201 b := by
  unfold R_X5_longWith_220; omega
theorem nr_X5_longWith_220__203 (b : Int) : ¬ R_X5_longWith_220 203 b := by
  unfold R_X5_longWith_220; omega
theorem nr_X5_longWith_220__205 (b : Int) : ¬ R_X5_longWith_220 205 b := by
  unfold R_X5_longWith_220; omega
theorem nr_X5_longWith_220__207 (b : Int) : ¬ R_X5_longWith_220 207 b := by
  unfold R_X5_longWith_220; omega
theorem nr_X5_longWith_220__209 (b : Int) : ¬ R_X5_longWith_220 209 b := by
  unfold R_X5_longWith_220; omega
theorem nr_X5_longWith_220__211 (b : Int) : ¬ R_X5_longWith_220 211 b := by
  unfold R_X5_longWith_220; omega
theorem nr_X5_longWith_220__213 (b : Int) : ¬ R_X5_longWith_220 213 b := by
  unfold R_X5_longWith_220; omega
theorem nr_X5_longWith_220__217 (b : Int) : ¬ R_X5_longWith_220 217 b := by
  unfold R_X5_longWith_220; omega
theorem nr_X5_longWith_220__219 (b : Int) : ¬ R_X5_longWith_220 219 b := by
  unfold R_X5_longWith_220; omega
theorem sj_X11_lend_1D_J88 {fu : Nat} (hfu : 8589934592 ≤ fu) (r0 s : z_M) (c : z_CI s) (f : z_Fr R_X11_lend_1 r0 s) (a1 : Int) (a2 : Int) (a3 : Int) (a4 : Int) (b1 : -2147483648 ≤ a1 ∧ a1 ≤ 2147483647) (b2 : -2147483648 ≤ a2 ∧ a2 ≤ 2147483647) (b3 : -2147483648 ≤ a3 ∧ a3 ≤ 2147483647) (b4 : -2147483648 ≤ a4 ∧ a4 ≤ 2147483646) (p0 : y_V2 s) (M : Int) (pm : 2147483647 - a4 ≤ M) {r : z_M → Int → Int → Int → z_O} {k : z_M → Int → Int → z_O} (hr : ∀ (s' : z_M) (v2 : Int) (v3 : Int) (v4 : Int), z_CI s' → z_Fr R_X11_lend_1 r0 s' → (-2147483648 ≤ v2 ∧ v2 ≤ 2147483647) → (-2147483648 ≤ v3 ∧ v3 ≤ 2147483647) → (-2147483648 ≤ v4 ∧ v4 ≤ 2147483647) → (y_V2 s') → (2147483647 - v4 < M) → z_T (r s' v2 v3 v4) (P_X11_lend_1D r0)) (hk : ∀ (s' : z_M) (v2 : Int) (v3 : Int), z_CI s' → z_Fr R_X11_lend_1 r0 s' → (-2147483648 ≤ v2 ∧ v2 ≤ 2147483647) → (-2147483648 ≤ v3 ∧ v3 ≤ 2147483647) → (y_V2 s') → z_T (k s' v2 v3) (P_X11_lend_1D r0)) : z_T (fX11_lend_J88 fu s 1 a1 a2 a3 a4 r k) (P_X11_lend_1D r0) := by
  refine T_of (fX11_lend_J88.eq_1 ..) ?_
  have u1 := CI_b c (k := 191) (j := 16) bd_191_16
  refine T_leq (fun x2 e3 => ?_)
  have w4 := z_wb e3
  exact hr s a2 a3 x2 c f (by omega) (by omega) (by omega) p0 (by omega)
theorem sl_X11_lend_1D_L43 {fu : Nat} (hfu : 8589934592 ≤ fu) (r0 : z_M) (a1 : Int) (b1 : -2147483648 ≤ a1 ∧ a1 ≤ 2147483647) {k : z_M → Int → Int → z_O} (hk : ∀ (s' : z_M) (v2 : Int) (v3 : Int), z_CI s' → z_Fr R_X11_lend_1 r0 s' → (-2147483648 ≤ v2 ∧ v2 ≤ 2147483647) → (-2147483648 ≤ v3 ∧ v3 ≤ 2147483647) → (y_V2 s') → z_T (k s' v2 v3) (P_X11_lend_1D r0)) : ∀ (F : Nat) (s : z_M) (a2 : Int) (a3 : Int) (a4 : Int), z_CI s → z_Fr R_X11_lend_1 r0 s → (-2147483648 ≤ a2 ∧ a2 ≤ 2147483647) → (-2147483648 ≤ a3 ∧ a3 ≤ 2147483647) → (-2147483648 ≤ a4 ∧ a4 ≤ 2147483647) → (y_V2 s) → (2147483647 - a4 < (F : Int)) → z_T (fX11_lend_L43 fu 1 a1 F s a2 a3 a4 k) (P_X11_lend_1D r0) := by
  intro F
  induction F with
  | zero =>
    intro s a2 a3 a4 c f b2 b3 b4 i0 hm
    have u25 := CI_b c (k := 191) (j := 16) bd_191_16
    exfalso; omega
  | succ F ih =>
    intro s a2 a3 a4 c f b2 b3 b4 i0 hm
    refine T_of (fX11_lend_L43.eq_2 ..) ?_
    have u1 := CI_b c (k := 191) (j := 16) bd_191_16
    refine T_pick (by decide) (fun x2 e3 b4 => ?_)
    have b5 : x2 = (6 : Int) := by rw [← e3]; decide +kernel
    refine T_ite (fun h6 => ?_) (fun h6 => ?_)
    · exact hk s a2 a3 c f (by omega) (by omega) i0
    · refine T_if1 (by decide +kernel) ?_
      refine T_let 220 (by decide +kernel) ?_
      refine T_if1 (by decide +kernel) ?_
      refine T_let 191 (by decide +kernel) ?_
      refine T_if1 (by decide +kernel) ?_
      refine T_leq (fun x7 e8 => ?_)
      have u9 := CI_b c (k := 191) (j := 16) bd_191_16
      refine T_leq (fun x10 e11 => ?_)
      have w12 := z_wb e11
      refine T_if1 (by decide +kernel) ?_
      refine T_useI (sf_X5_longWith_220 hfu s c 0 x10 a4 (by omega) (by omega) (by omega)) (fun v18 s13 hq => ?_)
      obtain ⟨c14, f15, ⟨x17, rfl, b19, b20⟩⟩ := hq
      refine T_vI ?_
      have f16 := z_Fr.tr (R := R_X11_lend_1) f f15 rs_X5_longWith_220__X11_lend_1
      have t21 : s13 191 16 = s 191 16 := f15 191 16 (by decide)
      have r22 := y_V2.fr i0 (f15 1 16 (by decide)) (f15 191 16 (by decide)) (f15 6 6 (by decide)) (f15 191 17 (by decide)) (f15 191 18 (by decide)) (fun b => f15 3 b (nr_X5_longWith_220__3 b)) (fun b => f15 8 b (nr_X5_longWith_220__8 b)) (fun b => f15 12 b (nr_X5_longWith_220__12 b)) (fun b => f15 14 b (nr_X5_longWith_220__14 b)) (fun b => f15 16 b (nr_X5_longWith_220__16 b)) (fun b => f15 18 b (nr_X5_longWith_220__18 b)) (fun b => f15 193 b (nr_X5_longWith_220__193 b)) (fun b => f15 195 b (nr_X5_longWith_220__195 b)) (fun b => f15 197 b (nr_X5_longWith_220__197 b)) (fun b => f15 199 b (nr_X5_longWith_220__199 b)) (fun b => f15 201 b (nr_X5_longWith_220__201 b)) (fun b => f15 203 b (nr_X5_longWith_220__203 b)) (fun b => f15 205 b (nr_X5_longWith_220__205 b)) (fun b => f15 207 b (nr_X5_longWith_220__207 b)) (fun b => f15 209 b (nr_X5_longWith_220__209 b)) (fun b => f15 211 b (nr_X5_longWith_220__211 b)) (fun b => f15 213 b (nr_X5_longWith_220__213 b)) (fun b => f15 215 b (nr_X5_longWith_220__215 b)) (fun b => f15 217 b (nr_X5_longWith_220__217 b)) (fun b => f15 219 b (nr_X5_longWith_220__219 b))
      have r23 := y_B0.fr i0.1 (f15 211 0 (by decide)) (f15 213 0 (by decide))
      refine T_ite (fun h24 => ?_) (fun h24 => ?_)
      · exact sj_X11_lend_1D_J88 hfu r0 s13 c14 f16 a1 a2 a3 a4 (by omega) (by omega) (by omega) (by omega) r22 (2147483647 - a4) (by omega) (fun s' v2 v3 v4 c' f' w2 w3 w4 z0 pg => ih s' v2 v3 v4 c' f' w2 w3 w4 z0 (by omega)) hk
      · exact sj_X11_lend_1D_J88 hfu r0 s13 c14 f16 a1 a4 x17 a4 (by omega) (by omega) (by omega) (by omega) r22 (2147483647 - a4) (by omega) (fun s' v2 v3 v4 c' f' w2 w3 w4 z0 pg => ih s' v2 v3 v4 c' f' w2 w3 w4 z0 (by omega)) hk
theorem sj_X11_lend_1D_J103 {fu : Nat} (hfu : 8589934592 ≤ fu) (r0 s : z_M) (c : z_CI s) (f : z_Fr R_X11_lend_1 r0 s) (t0 : Int) (d0 : -2147483648 ≤ t0 ∧ t0 ≤ 2147483647) (p0 : y_V2 s) : z_T (fX11_lend_J103 fu s t0) (P_X11_lend_1D r0) := by
  refine T_of (fX11_lend_J103.eq_1 ..) ?_
  have u1 := CI_b c (k := 191) (j := 16) bd_191_16
  exact T_ret ⟨c, f, p0, Or.inl (⟨t0, rfl, by omega, by omega⟩)⟩
theorem sf_X11_lend_1D {fu : Nat} (hfu : 8589934592 ≤ fu) (r0 : z_M) (c0 : z_CI r0) (a1 : Int) (b1 : -2147483648 ≤ a1 ∧ a1 ≤ 2147483647) (p0 : y_V2 r0) : z_T (fX11_lend fu r0 1 a1) (P_X11_lend_1D r0) := by
  refine T_of (fX11_lend.eq_1 ..) ?_
  refine T_if1 (by decide +kernel) ?_
  refine T_nw ?_ (fun h1 h2 => ?_)
  · exact T_ret ⟨CI_up c0 bd_1_15 (z_wb rfl).1, z_Fr.upf (R := R_X11_lend_1) z_Fr.rf (fun a b h => z_up_k h) (fun b h => z_up_j h) (Or.inr (Or.inr (Or.inr (Or.inr (Or.inr (Or.inr (Or.inr (Or.inl (⟨rfl, by decide⟩))))))))), y_V2.fr p0 (z_up_j (by decide)) (z_up_k (by decide)) (z_up_k (by decide)) (z_up_k (by decide)) (z_up_k (by decide)) (fun _ => z_up_k (by decide)) (fun _ => z_up_k (by decide)) (fun _ => z_up_k (by decide)) (fun _ => z_up_k (by decide)) (fun _ => z_up_k (by decide)) (fun _ => z_up_k (by decide)) (fun _ => z_up_k (by decide)) (fun _ => z_up_k (by decide)) (fun _ => z_up_k (by decide)) (fun _ => z_up_k (by decide)) (fun _ => z_up_k (by decide)) (fun _ => z_up_k (by decide)) (fun _ => z_up_k (by decide)) (fun _ => z_up_k (by decide)) (fun _ => z_up_k (by decide)) (fun _ => z_up_k (by decide)) (fun _ => z_up_k (by decide)) (fun _ => z_up_k (by decide)) (fun _ => z_up_k (by decide)) (fun _ => z_up_k (by decide)), Or.inr rfl⟩
  refine T_if1 (by decide +kernel) ?_
  refine T_useN (sf_X11_refresh_1D hfu r0 c0 p0) (fun v8 s3 hq => ?_)
  obtain ⟨c4, f5, o9, rfl⟩ := hq
  refine T_vN ?_
  have f6 := z_Fr.tr (R := R_X11_lend_1) z_Fr.rf f5 rs_X11_refresh_1__X11_lend_1
  have u12 := CI_b c4 (k := 191) (j := 16) bd_191_16
  refine T_pick (by decide) (fun x13 e14 b15 => ?_)
  have b16 : x13 = (0 : Int) := by rw [← e14]; decide +kernel
  refine T_if1 (by decide +kernel) ?_
  refine T_let 220 (by decide +kernel) ?_
  refine T_if1 (by decide +kernel) ?_
  refine T_let 191 (by decide +kernel) ?_
  refine T_if1 (by decide +kernel) ?_
  refine T_leq (fun x17 e18 => ?_)
  have u19 := CI_b c4 (k := 191) (j := 16) bd_191_16
  refine T_leq (fun x20 e21 => ?_)
  have w22 := z_wb e21
  refine T_if1 (by decide +kernel) ?_
  refine T_useI (sf_X5_longWith_220 hfu s3 c4 0 x20 x13 (by omega) (by omega) (by omega)) (fun v28 s23 hq => ?_)
  obtain ⟨c24, f25, ⟨x27, rfl, b29, b30⟩⟩ := hq
  refine T_vI ?_
  have f26 := z_Fr.tr (R := R_X11_lend_1) f6 f25 rs_X5_longWith_220__X11_lend_1
  have t31 : s23 191 16 = s3 191 16 := f25 191 16 (by decide)
  have r32 := y_U2.fr o9 (f25 191 16 (by decide)) (f25 6 6 (by decide)) (f25 191 17 (by decide)) (f25 191 18 (by decide)) (fun b => f25 3 b (nr_X5_longWith_220__3 b)) (fun b => f25 8 b (nr_X5_longWith_220__8 b)) (fun b => f25 12 b (nr_X5_longWith_220__12 b)) (fun b => f25 14 b (nr_X5_longWith_220__14 b)) (fun b => f25 16 b (nr_X5_longWith_220__16 b)) (fun b => f25 18 b (nr_X5_longWith_220__18 b)) (fun b => f25 193 b (nr_X5_longWith_220__193 b)) (fun b => f25 195 b (nr_X5_longWith_220__195 b)) (fun b => f25 197 b (nr_X5_longWith_220__197 b)) (fun b => f25 199 b (nr_X5_longWith_220__199 b)) (fun b => f25 201 b (nr_X5_longWith_220__201 b)) (fun b => f25 203 b (nr_X5_longWith_220__203 b)) (fun b => f25 205 b (nr_X5_longWith_220__205 b)) (fun b => f25 207 b (nr_X5_longWith_220__207 b)) (fun b => f25 209 b (nr_X5_longWith_220__209 b)) (fun b => f25 211 b (nr_X5_longWith_220__211 b)) (fun b => f25 213 b (nr_X5_longWith_220__213 b)) (fun b => f25 215 b (nr_X5_longWith_220__215 b)) (fun b => f25 217 b (nr_X5_longWith_220__217 b)) (fun b => f25 219 b (nr_X5_longWith_220__219 b))
  have r33 := y_B0.fr o9.1 (f25 211 0 (by decide)) (f25 213 0 (by decide))
  refine T_leq (fun x34 e35 => ?_)
  have w36 := z_wb e35
  refine sl_X11_lend_1D_L43 hfu r0 a1 (by omega) (fun s37 y40 y41 c38 f39 b42 b43 g44 => ?_) fu s23 x13 x27 x34 c24 f26 (by omega) (by omega) (by omega) (y_V2.u r32) (by omega)
  have u45 := CI_b c38 (k := 191) (j := 16) bd_191_16
  refine T_ite (fun h46 => ?_) (fun h46 => ?_)
  · exact sj_X11_lend_1D_J103 hfu r0 s37 c38 f39 y41 (by omega) g44
  · exact sj_X11_lend_1D_J103 hfu r0 s37 c38 f39 y40 (by omega) g44
abbrev P_X11_nearest_1D (r0 : z_M) : z_V → z_M → Prop := fun v s' => z_CI s' ∧ z_Fr R_X11_nearest_1 r0 s' ∧ (y_V2 s') ∧ ((∃ x, v = vI x ∧ -2147483648 ≤ x ∧ x ≤ 2147483647) ∨ v = vX 1)
theorem nr_X3_nearestOn_258__3 (b : Int) : ¬ R_X3_nearestOn_258 3 b := not_false
theorem nr_X3_nearestOn_258__16 (b : Int) : ¬ R_X3_nearestOn_258 16 b := not_false
theorem nr_X3_nearestOn_258__18 (b : Int) : ¬ R_X3_nearestOn_258 18 b := not_false
theorem nr_X3_nearestOn_258__199 (b : Int) : ¬ R_X3_nearestOn_258 199 b := not_false
theorem nr_X3_nearestOn_258__201 (b : Int) : ¬ R_X3_nearestOn_258 201 b := not_false
theorem nr_X3_nearestOn_258__203 (b : Int) : ¬ R_X3_nearestOn_258 203 b := not_false
theorem nr_X3_nearestOn_258__205 (b : Int) : ¬ R_X3_nearestOn_258 205 b := not_false
theorem nr_X3_nearestOn_258__207 (b : Int) : ¬ R_X3_nearestOn_258 207 b := not_false
theorem nr_X3_nearestOn_258__209 (b : Int) : ¬ R_X3_nearestOn_258 209 b := not_false
theorem nr_X3_nearestOn_258__211 (b : Int) : ¬ R_X3_nearestOn_258 211 b := not_false
theorem nr_X3_nearestOn_258__213 (b : Int) : ¬ R_X3_nearestOn_258 213 b := not_false
theorem nr_X3_nearestOn_258__217 (b : Int) : ¬ R_X3_nearestOn_258 217 b := not_false
theorem nr_X3_nearestOn_258__219 (b : Int) : ¬ R_X3_nearestOn_258 219 b := not_false
theorem sj_X11_nearest_1D_J69 {fu : Nat} (hfu : 8589934592 ≤ fu) (r0 s : z_M) (c : z_CI s) (f : z_Fr R_X11_nearest_1 r0 s) (a1 : Int) (a2 : Int) (a3 : Int) (a4 : Int) (b1 : -2147483648 ≤ a1 ∧ a1 ≤ 2147483647) (b2 : -2147483648 ≤ a2 ∧ a2 ≤ 2147483647) (b3 : -2147483648 ≤ a3 ∧ a3 ≤ 2147483647) (b4 : -2147483648 ≤ a4 ∧ a4 ≤ 2147483646) (p0 : y_V2 s) (M : Int) (pm : 2147483647 - a4 ≤ M) {r : z_M → Int → Int → Int → z_O} {k : z_M → Int → Int → z_O} (hr : ∀ (s' : z_M) (v2 : Int) (v3 : Int) (v4 : Int), z_CI s' → z_Fr R_X11_nearest_1 r0 s' → (-2147483648 ≤ v2 ∧ v2 ≤ 2147483647) → (-2147483648 ≤ v3 ∧ v3 ≤ 2147483647) → (-2147483648 ≤ v4 ∧ v4 ≤ 2147483647) → (y_V2 s') → (2147483647 - v4 < M) → z_T (r s' v2 v3 v4) (P_X11_nearest_1D r0)) (hk : ∀ (s' : z_M) (v2 : Int) (v3 : Int), z_CI s' → z_Fr R_X11_nearest_1 r0 s' → (-2147483648 ≤ v2 ∧ v2 ≤ 2147483647) → (-2147483648 ≤ v3 ∧ v3 ≤ 2147483647) → (y_V2 s') → z_T (k s' v2 v3) (P_X11_nearest_1D r0)) : z_T (fX11_nearest_J69 fu s 1 a1 a2 a3 a4 r k) (P_X11_nearest_1D r0) := by
  refine T_of (fX11_nearest_J69.eq_1 ..) ?_
  have u1 := CI_b c (k := 240) (j := 6) bd_240_6
  refine T_leq (fun x2 e3 => ?_)
  have w4 := z_wb e3
  exact hr s a2 a3 x2 c f (by omega) (by omega) (by omega) p0 (by omega)
theorem sl_X11_nearest_1D_L20 {fu : Nat} (hfu : 8589934592 ≤ fu) (r0 : z_M) (a1 : Int) (b1 : -2147483648 ≤ a1 ∧ a1 ≤ 2147483647) {k : z_M → Int → Int → z_O} (hk : ∀ (s' : z_M) (v2 : Int) (v3 : Int), z_CI s' → z_Fr R_X11_nearest_1 r0 s' → (-2147483648 ≤ v2 ∧ v2 ≤ 2147483647) → (-2147483648 ≤ v3 ∧ v3 ≤ 2147483647) → (y_V2 s') → z_T (k s' v2 v3) (P_X11_nearest_1D r0)) : ∀ (F : Nat) (s : z_M) (a2 : Int) (a3 : Int) (a4 : Int), z_CI s → z_Fr R_X11_nearest_1 r0 s → (-2147483648 ≤ a2 ∧ a2 ≤ 2147483647) → (-2147483648 ≤ a3 ∧ a3 ≤ 2147483647) → (-2147483648 ≤ a4 ∧ a4 ≤ 2147483647) → (y_V2 s) → (2147483647 - a4 < (F : Int)) → z_T (fX11_nearest_L20 fu 1 a1 F s a2 a3 a4 k) (P_X11_nearest_1D r0) := by
  intro F
  induction F with
  | zero =>
    intro s a2 a3 a4 c f b2 b3 b4 i0 hm
    have u32 := CI_b c (k := 240) (j := 6) bd_240_6
    exfalso; omega
  | succ F ih =>
    intro s a2 a3 a4 c f b2 b3 b4 i0 hm
    refine T_of (fX11_nearest_L20.eq_2 ..) ?_
    have u1 := CI_b c (k := 240) (j := 6) bd_240_6
    refine T_if1 (by decide +kernel) ?_
    refine T_let 240 (by decide +kernel) ?_
    refine T_if1 (by decide +kernel) ?_
    refine T_leq (fun x2 e3 => ?_)
    have u4 := CI_b c (k := 240) (j := 6) bd_240_6
    refine T_ite (fun h5 => ?_) (fun h5 => ?_)
    · exact hk s a2 a3 c f (by omega) (by omega) i0
    · refine T_if1 (by decide +kernel) ?_
      refine T_let 258 (by decide +kernel) ?_
      refine T_if1 (by decide +kernel) ?_
      refine T_useI (sf_X3_nearestOn_258 hfu s c a4 0 (by omega) (by omega)) (fun v11 s6 hq => ?_)
      obtain ⟨c7, f8, ⟨x10, rfl, b12, b13⟩⟩ := hq
      refine T_vI ?_
      have f9 := z_Fr.tr (R := R_X11_nearest_1) f f8 (fun a b h => absurd h not_false)
      have t14 : s6 240 6 = s 240 6 := f8 240 6 (by decide)
      have r15 := y_V2.fr i0 (f8 1 16 (by decide)) (f8 191 16 (by decide)) (f8 6 6 (by decide)) (f8 191 17 (by decide)) (f8 191 18 (by decide)) (fun b => f8 3 b (nr_X3_nearestOn_258__3 b)) (fun b => f8 8 b (nr_X3_nearestOn_258__8 b)) (fun b => f8 12 b (nr_X3_nearestOn_258__12 b)) (fun b => f8 14 b (nr_X3_nearestOn_258__14 b)) (fun b => f8 16 b (nr_X3_nearestOn_258__16 b)) (fun b => f8 18 b (nr_X3_nearestOn_258__18 b)) (fun b => f8 193 b (nr_X3_nearestOn_258__193 b)) (fun b => f8 195 b (nr_X3_nearestOn_258__195 b)) (fun b => f8 197 b (nr_X3_nearestOn_258__197 b)) (fun b => f8 199 b (nr_X3_nearestOn_258__199 b)) (fun b => f8 201 b (nr_X3_nearestOn_258__201 b)) (fun b => f8 203 b (nr_X3_nearestOn_258__203 b)) (fun b => f8 205 b (nr_X3_nearestOn_258__205 b)) (fun b => f8 207 b (nr_X3_nearestOn_258__207 b)) (fun b => f8 209 b (nr_X3_nearestOn_258__209 b)) (fun b => f8 211 b (nr_X3_nearestOn_258__211 b)) (fun b => f8 213 b (nr_X3_nearestOn_258__213 b)) (fun b => f8 215 b (nr_X3_nearestOn_258__215 b)) (fun b => f8 217 b (nr_X3_nearestOn_258__217 b)) (fun b => f8 219 b (nr_X3_nearestOn_258__219 b))
      have r16 := y_B0.fr i0.1 (f8 211 0 (by decide)) (f8 213 0 (by decide))
      refine T_if1 (by decide +kernel) ?_
      refine T_let 258 (by decide +kernel) ?_
      refine T_if1 (by decide +kernel) ?_
      refine T_useI (sf_X3_nearestOn_258 hfu s6 c7 a4 1 (by omega) (by omega)) (fun v22 s17 hq => ?_)
      obtain ⟨c18, f19, ⟨x21, rfl, b23, b24⟩⟩ := hq
      refine T_vI ?_
      have f20 := z_Fr.tr (R := R_X11_nearest_1) f9 f19 (fun a b h => absurd h not_false)
      have t25 : s17 240 6 = s6 240 6 := f19 240 6 (by decide)
      have r26 := y_V2.fr r15 (f19 1 16 (by decide)) (f19 191 16 (by decide)) (f19 6 6 (by decide)) (f19 191 17 (by decide)) (f19 191 18 (by decide)) (fun b => f19 3 b (nr_X3_nearestOn_258__3 b)) (fun b => f19 8 b (nr_X3_nearestOn_258__8 b)) (fun b => f19 12 b (nr_X3_nearestOn_258__12 b)) (fun b => f19 14 b (nr_X3_nearestOn_258__14 b)) (fun b => f19 16 b (nr_X3_nearestOn_258__16 b)) (fun b => f19 18 b (nr_X3_nearestOn_258__18 b)) (fun b => f19 193 b (nr_X3_nearestOn_258__193 b)) (fun b => f19 195 b (nr_X3_nearestOn_258__195 b)) (fun b => f19 197 b (nr_X3_nearestOn_258__197 b)) (fun b => f19 199 b (nr_X3_nearestOn_258__199 b)) (fun b => f19 201 b (nr_X3_nearestOn_258__201 b)) (fun b => f19 203 b (nr_X3_nearestOn_258__203 b)) (fun b => f19 205 b (nr_X3_nearestOn_258__205 b)) (fun b => f19 207 b (nr_X3_nearestOn_258__207 b)) (fun b => f19 209 b (nr_X3_nearestOn_258__209 b)) (fun b => f19 211 b (nr_X3_nearestOn_258__211 b)) (fun b => f19 213 b (nr_X3_nearestOn_258__213 b)) (fun b => f19 215 b (nr_X3_nearestOn_258__215 b)) (fun b => f19 217 b (nr_X3_nearestOn_258__217 b)) (fun b => f19 219 b (nr_X3_nearestOn_258__219 b))
      have r27 := y_B0.fr r16 (f19 211 0 (by decide)) (f19 213 0 (by decide))
      refine T_leq (fun x28 e29 => ?_)
      have w30 := z_minb x10 x21
      rw [e29] at w30
      refine T_ite (fun h31 => ?_) (fun h31 => ?_)
      · exact sj_X11_nearest_1D_J69 hfu r0 s17 c18 f20 a1 a2 a3 a4 (by omega) (by omega) (by omega) (by omega) r26 (2147483647 - a4) (by omega) (fun s' v2 v3 v4 c' f' w2 w3 w4 z0 pg => ih s' v2 v3 v4 c' f' w2 w3 w4 z0 (by omega)) hk
      · exact sj_X11_nearest_1D_J69 hfu r0 s17 c18 f20 a1 x28 a4 a4 (by omega) (by omega) (by omega) (by omega) r26 (2147483647 - a4) (by omega) (fun s' v2 v3 v4 c' f' w2 w3 w4 z0 pg => ih s' v2 v3 v4 c' f' w2 w3 w4 z0 (by omega)) hk
theorem sj_X11_nearest_1D_J94 {fu : Nat} (hfu : 8589934592 ≤ fu) (r0 s : z_M) (c : z_CI s) (f : z_Fr R_X11_nearest_1 r0 s) (t0 : Int) (d0 : -2147483648 ≤ t0 ∧ t0 ≤ 2147483647) (p0 : y_V2 s) : z_T (fX11_nearest_J94 fu s t0) (P_X11_nearest_1D r0) := by
  refine T_of (fX11_nearest_J94.eq_1 ..) ?_
  have u1 := CI_b c (k := 240) (j := 6) bd_240_6
  exact T_ret ⟨c, f, p0, Or.inl (⟨t0, rfl, by omega, by omega⟩)⟩
theorem sf_X11_nearest_1D {fu : Nat} (hfu : 8589934592 ≤ fu) (r0 : z_M) (c0 : z_CI r0) (a1 : Int) (b1 : -2147483648 ≤ a1 ∧ a1 ≤ 2147483647) (p0 : y_V2 r0) : z_T (fX11_nearest fu r0 1 a1) (P_X11_nearest_1D r0) := by
  refine T_of (fX11_nearest.eq_1 ..) ?_
  refine T_if1 (by decide +kernel) ?_
  refine T_nw ?_ (fun h1 h2 => ?_)
  · exact T_ret ⟨CI_up c0 bd_1_15 (z_wb rfl).1, z_Fr.upf (R := R_X11_nearest_1) z_Fr.rf (fun a b h => z_up_k h) (fun b h => z_up_j h) (Or.inr (Or.inr (Or.inr (Or.inr (Or.inr (Or.inr (Or.inr (Or.inl (⟨rfl, by decide⟩))))))))), y_V2.fr p0 (z_up_j (by decide)) (z_up_k (by decide)) (z_up_k (by decide)) (z_up_k (by decide)) (z_up_k (by decide)) (fun _ => z_up_k (by decide)) (fun _ => z_up_k (by decide)) (fun _ => z_up_k (by decide)) (fun _ => z_up_k (by decide)) (fun _ => z_up_k (by decide)) (fun _ => z_up_k (by decide)) (fun _ => z_up_k (by decide)) (fun _ => z_up_k (by decide)) (fun _ => z_up_k (by decide)) (fun _ => z_up_k (by decide)) (fun _ => z_up_k (by decide)) (fun _ => z_up_k (by decide)) (fun _ => z_up_k (by decide)) (fun _ => z_up_k (by decide)) (fun _ => z_up_k (by decide)) (fun _ => z_up_k (by decide)) (fun _ => z_up_k (by decide)) (fun _ => z_up_k (by decide)) (fun _ => z_up_k (by decide)) (fun _ => z_up_k (by decide)), Or.inr rfl⟩
  refine T_if1 (by decide +kernel) ?_
  refine T_useN (sf_X11_refresh_1D hfu r0 c0 p0) (fun v8 s3 hq => ?_)
  obtain ⟨c4, f5, o9, rfl⟩ := hq
  refine T_vN ?_
  have f6 := z_Fr.tr (R := R_X11_nearest_1) z_Fr.rf f5 rs_X11_refresh_1__X11_nearest_1
  have u12 := CI_b c4 (k := 240) (j := 6) bd_240_6
  refine sl_X11_nearest_1D_L20 hfu r0 a1 (by omega) (fun s13 y16 y17 c14 f15 b18 b19 g20 => ?_) fu s3 2147483647 (-1) 0 c4 f6 (by omega) (by omega) (by omega) (y_V2.u o9) (by omega)
  have u21 := CI_b c14 (k := 240) (j := 6) bd_240_6
  refine T_ite (fun h22 => ?_) (fun h22 => ?_)
  · refine T_ite (fun h23 => ?_) (fun h23 => ?_)
    · exact sj_X11_nearest_1D_J94 hfu r0 s13 c14 f15 y16 (by omega) g20
    · exact sj_X11_nearest_1D_J94 hfu r0 s13 c14 f15 999 (by omega) g20
  · exact T_ret ⟨c14, f15, g20, Or.inl (⟨y17, rfl, by omega, by omega⟩)⟩
abbrev P_X11_partner_1D (r0 : z_M) : z_V → z_M → Prop := fun v s' => z_CI s' ∧ z_Fr R_X11_partner_1 r0 s' ∧ (y_V2 s') ∧ ((∃ x, v = vI x ∧ -2147483648 ≤ x ∧ x ≤ 2147483647) ∨ v = vX 0)
theorem sf_X11_partner_1D {fu : Nat} (hfu : 8589934592 ≤ fu) (r0 : z_M) (c0 : z_CI r0) (a1 : Int) (b1 : -2147483648 ≤ a1 ∧ a1 ≤ 2147483647) (p0 : y_V2 r0) : z_T (fX11_partner fu r0 1 a1) (P_X11_partner_1D r0) := by
  refine T_of (fX11_partner.eq_1 ..) ?_
  refine T_if1 (by decide +kernel) ?_
  refine T_useN (sf_X11_refresh_1D hfu r0 c0 p0) (fun v6 s1 hq => ?_)
  obtain ⟨c2, f3, o7, rfl⟩ := hq
  refine T_vN ?_
  have f4 := z_Fr.tr (R := R_X11_partner_1) z_Fr.rf f3 rs_X11_refresh_1__X11_partner_1
  have u10 := CI_b c2 (k := 191) (j := 16) bd_191_16
  refine T_if1 (by decide +kernel) ?_
  refine T_let 191 (by decide +kernel) ?_
  refine T_if1 (by decide +kernel) ?_
  refine T_leq (fun x11 e12 => ?_)
  have u13 := CI_b c2 (k := 191) (j := 16) bd_191_16
  refine T_if1 (by decide +kernel) ?_
  refine T_ne ?_ (fun h14 h15 => ?_)
  · exact T_ret ⟨CI_up c2 bd_1_14 (z_wb rfl).1, z_Fr.upf (R := R_X11_partner_1) f4 (fun a b h => z_up_k h) (fun b h => z_up_j h) (Or.inr (Or.inr (Or.inr (Or.inr (Or.inr (Or.inr (Or.inr (Or.inl (⟨rfl, by decide⟩))))))))), y_V2.u (y_U2.fr o7 (z_up_k (by decide)) (z_up_k (by decide)) (z_up_k (by decide)) (z_up_k (by decide)) (fun _ => z_up_k (by decide)) (fun _ => z_up_k (by decide)) (fun _ => z_up_k (by decide)) (fun _ => z_up_k (by decide)) (fun _ => z_up_k (by decide)) (fun _ => z_up_k (by decide)) (fun _ => z_up_k (by decide)) (fun _ => z_up_k (by decide)) (fun _ => z_up_k (by decide)) (fun _ => z_up_k (by decide)) (fun _ => z_up_k (by decide)) (fun _ => z_up_k (by decide)) (fun _ => z_up_k (by decide)) (fun _ => z_up_k (by decide)) (fun _ => z_up_k (by decide)) (fun _ => z_up_k (by decide)) (fun _ => z_up_k (by decide)) (fun _ => z_up_k (by decide)) (fun _ => z_up_k (by decide)) (fun _ => z_up_k (by decide))), Or.inr rfl⟩
  refine T_if1 (by decide +kernel) ?_
  refine T_let 191 (by decide +kernel) ?_
  refine T_if1 (by decide +kernel) ?_
  refine T_let 206 (by decide +kernel) ?_
  refine T_if1 (by decide +kernel) ?_
  refine T_get (by decide +kernel) (c := 207) (by decide +kernel) bdr_207 (by decide) c2 (fun x16 e17 b18 w19 => ?_)
  have l20 : z_ln 206 = 200 := by decide +kernel
  exact T_ret ⟨c2, f4, (y_V2.u o7), Or.inl (⟨x16, rfl, by omega, by omega⟩)⟩
abbrev P_X11_side_1D (r0 : z_M) : z_V → z_M → Prop := fun v s' => z_CI s' ∧ z_Fr R_X11_side_1 r0 s' ∧ (y_V2 s') ∧ ((∃ x, v = vI x ∧ -2147483648 ≤ x ∧ x ≤ 2147483647) ∨ v = vX 0 ∨ v = vX 1)
theorem nr_X3_marksBeside_258__3 (b : Int) : ¬ R_X3_marksBeside_258 3 b := not_false
theorem nr_X3_marksBeside_258__16 (b : Int) : ¬ R_X3_marksBeside_258 16 b := not_false
theorem nr_X3_marksBeside_258__18 (b : Int) : ¬ R_X3_marksBeside_258 18 b := not_false
theorem nr_X3_marksBeside_258__199 (b : Int) : ¬ R_X3_marksBeside_258 199 b := not_false
theorem nr_X3_marksBeside_258__201 (b : Int) : ¬ R_X3_marksBeside_258 201 b := not_false
theorem nr_X3_marksBeside_258__203 (b : Int) : ¬ R_X3_marksBeside_258 203 b := not_false
theorem nr_X3_marksBeside_258__205 (b : Int) : ¬ R_X3_marksBeside_258 205 b := not_false
theorem nr_X3_marksBeside_258__207 (b : Int) : ¬ R_X3_marksBeside_258 207 b := not_false
theorem nr_X3_marksBeside_258__209 (b : Int) : ¬ R_X3_marksBeside_258 209 b := not_false
theorem nr_X3_marksBeside_258__211 (b : Int) : ¬ R_X3_marksBeside_258 211 b := not_false
theorem nr_X3_marksBeside_258__213 (b : Int) : ¬ R_X3_marksBeside_258 213 b := not_false
theorem nr_X3_marksBeside_258__217 (b : Int) : ¬ R_X3_marksBeside_258 217 b := not_false
theorem nr_X3_marksBeside_258__219 (b : Int) : ¬ R_X3_marksBeside_258 219 b := not_false
theorem sj_X11_side_1D_J55 {fu : Nat} (hfu : 8589934592 ≤ fu) (r0 s : z_M) (c : z_CI s) (f : z_Fr R_X11_side_1 r0 s) (t0 : Int) (d0 : -2147483648 ≤ t0 ∧ t0 ≤ 2147483647) (p0 : y_V2 s) : z_T (fX11_side_J55 fu s t0) (P_X11_side_1D r0) := by
  refine T_of (fX11_side_J55.eq_1 ..) ?_
  have u1 := CI_b c (k := 240) (j := 6) bd_240_6
  exact T_ret ⟨c, f, p0, Or.inl (⟨t0, rfl, by omega, by omega⟩)⟩
theorem nr_X3_lettersBeside_258__3 (b : Int) : ¬ R_X3_lettersBeside_258 3 b := not_false
theorem nr_X3_lettersBeside_258__16 (b : Int) : ¬ R_X3_lettersBeside_258 16 b := not_false
theorem nr_X3_lettersBeside_258__18 (b : Int) : ¬ R_X3_lettersBeside_258 18 b := not_false
theorem nr_X3_lettersBeside_258__199 (b : Int) : ¬ R_X3_lettersBeside_258 199 b := not_false
theorem nr_X3_lettersBeside_258__201 (b : Int) : ¬ R_X3_lettersBeside_258 201 b := not_false
theorem nr_X3_lettersBeside_258__203 (b : Int) : ¬ R_X3_lettersBeside_258 203 b := not_false
theorem nr_X3_lettersBeside_258__205 (b : Int) : ¬ R_X3_lettersBeside_258 205 b := not_false
theorem nr_X3_lettersBeside_258__207 (b : Int) : ¬ R_X3_lettersBeside_258 207 b := not_false
theorem nr_X3_lettersBeside_258__209 (b : Int) : ¬ R_X3_lettersBeside_258 209 b := not_false
theorem nr_X3_lettersBeside_258__211 (b : Int) : ¬ R_X3_lettersBeside_258 211 b := not_false
theorem nr_X3_lettersBeside_258__213 (b : Int) : ¬ R_X3_lettersBeside_258 213 b := not_false
theorem nr_X3_lettersBeside_258__217 (b : Int) : ¬ R_X3_lettersBeside_258 217 b := not_false
theorem nr_X3_lettersBeside_258__219 (b : Int) : ¬ R_X3_lettersBeside_258 219 b := not_false
theorem sf_X11_side_1D {fu : Nat} (hfu : 8589934592 ≤ fu) (r0 : z_M) (c0 : z_CI r0) (a1 : Int) (a2 : Int) (a3 : Int) (b1 : -2147483648 ≤ a1 ∧ a1 ≤ 2147483647) (b2 : -2147483648 ≤ a2 ∧ a2 ≤ 2147483647) (b3 : -2147483648 ≤ a3 ∧ a3 ≤ 2147483647) (p0 : y_V2 r0) : z_T (fX11_side fu r0 1 a1 a2 a3) (P_X11_side_1D r0) := by
  refine T_of (fX11_side.eq_1 ..) ?_
  refine T_if1 (by decide +kernel) ?_
  refine T_useN (sf_X11_refresh_1D hfu r0 c0 p0) (fun v6 s1 hq => ?_)
  obtain ⟨c2, f3, o7, rfl⟩ := hq
  refine T_vN ?_
  have f4 := z_Fr.tr (R := R_X11_side_1) z_Fr.rf f3 rs_X11_refresh_1__X11_side_1
  have u10 := CI_b c2 (k := 240) (j := 6) bd_240_6
  refine T_if1 (by decide +kernel) ?_
  refine T_let 240 (by decide +kernel) ?_
  refine T_if1 (by decide +kernel) ?_
  refine T_leq (fun x11 e12 => ?_)
  have u13 := CI_b c2 (k := 240) (j := 6) bd_240_6
  refine T_if1 (by decide +kernel) ?_
  refine T_ne ?_ (fun h14 h15 => ?_)
  · exact T_ret ⟨CI_up c2 bd_1_14 (z_wb rfl).1, z_Fr.upf (R := R_X11_side_1) f4 (fun a b h => z_up_k h) (fun b h => z_up_j h) (Or.inr (Or.inr (Or.inr (Or.inr (Or.inr (Or.inr (Or.inr (Or.inl (⟨rfl, by decide⟩))))))))), y_V2.u (y_U2.fr o7 (z_up_k (by decide)) (z_up_k (by decide)) (z_up_k (by decide)) (z_up_k (by decide)) (fun _ => z_up_k (by decide)) (fun _ => z_up_k (by decide)) (fun _ => z_up_k (by decide)) (fun _ => z_up_k (by decide)) (fun _ => z_up_k (by decide)) (fun _ => z_up_k (by decide)) (fun _ => z_up_k (by decide)) (fun _ => z_up_k (by decide)) (fun _ => z_up_k (by decide)) (fun _ => z_up_k (by decide)) (fun _ => z_up_k (by decide)) (fun _ => z_up_k (by decide)) (fun _ => z_up_k (by decide)) (fun _ => z_up_k (by decide)) (fun _ => z_up_k (by decide)) (fun _ => z_up_k (by decide)) (fun _ => z_up_k (by decide)) (fun _ => z_up_k (by decide)) (fun _ => z_up_k (by decide)) (fun _ => z_up_k (by decide))), Or.inr (Or.inl rfl)⟩
  refine T_if1 (by decide +kernel) ?_
  refine T_nw ?_ (fun h16 h17 => ?_)
  · exact T_ret ⟨CI_up c2 bd_1_15 (z_wb rfl).1, z_Fr.upf (R := R_X11_side_1) f4 (fun a b h => z_up_k h) (fun b h => z_up_j h) (Or.inr (Or.inr (Or.inr (Or.inr (Or.inr (Or.inr (Or.inr (Or.inl (⟨rfl, by decide⟩))))))))), y_V2.u (y_U2.fr o7 (z_up_k (by decide)) (z_up_k (by decide)) (z_up_k (by decide)) (z_up_k (by decide)) (fun _ => z_up_k (by decide)) (fun _ => z_up_k (by decide)) (fun _ => z_up_k (by decide)) (fun _ => z_up_k (by decide)) (fun _ => z_up_k (by decide)) (fun _ => z_up_k (by decide)) (fun _ => z_up_k (by decide)) (fun _ => z_up_k (by decide)) (fun _ => z_up_k (by decide)) (fun _ => z_up_k (by decide)) (fun _ => z_up_k (by decide)) (fun _ => z_up_k (by decide)) (fun _ => z_up_k (by decide)) (fun _ => z_up_k (by decide)) (fun _ => z_up_k (by decide)) (fun _ => z_up_k (by decide)) (fun _ => z_up_k (by decide)) (fun _ => z_up_k (by decide)) (fun _ => z_up_k (by decide)) (fun _ => z_up_k (by decide))), Or.inr (Or.inr rfl)⟩
  refine T_if1 (by decide +kernel) ?_
  refine T_nw ?_ (fun h18 h19 => ?_)
  · exact T_ret ⟨CI_up c2 bd_1_15 (z_wb rfl).1, z_Fr.upf (R := R_X11_side_1) f4 (fun a b h => z_up_k h) (fun b h => z_up_j h) (Or.inr (Or.inr (Or.inr (Or.inr (Or.inr (Or.inr (Or.inr (Or.inl (⟨rfl, by decide⟩))))))))), y_V2.u (y_U2.fr o7 (z_up_k (by decide)) (z_up_k (by decide)) (z_up_k (by decide)) (z_up_k (by decide)) (fun _ => z_up_k (by decide)) (fun _ => z_up_k (by decide)) (fun _ => z_up_k (by decide)) (fun _ => z_up_k (by decide)) (fun _ => z_up_k (by decide)) (fun _ => z_up_k (by decide)) (fun _ => z_up_k (by decide)) (fun _ => z_up_k (by decide)) (fun _ => z_up_k (by decide)) (fun _ => z_up_k (by decide)) (fun _ => z_up_k (by decide)) (fun _ => z_up_k (by decide)) (fun _ => z_up_k (by decide)) (fun _ => z_up_k (by decide)) (fun _ => z_up_k (by decide)) (fun _ => z_up_k (by decide)) (fun _ => z_up_k (by decide)) (fun _ => z_up_k (by decide)) (fun _ => z_up_k (by decide)) (fun _ => z_up_k (by decide))), Or.inr (Or.inr rfl)⟩
  refine T_ite (fun h20 => ?_) (fun h20 => ?_)
  · refine T_if1 (by decide +kernel) ?_
    refine T_let 258 (by decide +kernel) ?_
    refine T_if1 (by decide +kernel) ?_
    refine T_useI (sf_X3_marksBeside_258 hfu s1 c2 a1 a2 (by omega) (by omega)) (fun v26 s21 hq => ?_)
    obtain ⟨c22, f23, ⟨x25, rfl, b27, b28⟩⟩ := hq
    refine T_vI ?_
    have f24 := z_Fr.tr (R := R_X11_side_1) f4 f23 (fun a b h => absurd h not_false)
    have t29 : s21 240 6 = s1 240 6 := f23 240 6 (by decide)
    have r30 := y_U2.fr o7 (f23 191 16 (by decide)) (f23 6 6 (by decide)) (f23 191 17 (by decide)) (f23 191 18 (by decide)) (fun b => f23 3 b (nr_X3_marksBeside_258__3 b)) (fun b => f23 8 b (nr_X3_marksBeside_258__8 b)) (fun b => f23 12 b (nr_X3_marksBeside_258__12 b)) (fun b => f23 14 b (nr_X3_marksBeside_258__14 b)) (fun b => f23 16 b (nr_X3_marksBeside_258__16 b)) (fun b => f23 18 b (nr_X3_marksBeside_258__18 b)) (fun b => f23 193 b (nr_X3_marksBeside_258__193 b)) (fun b => f23 195 b (nr_X3_marksBeside_258__195 b)) (fun b => f23 197 b (nr_X3_marksBeside_258__197 b)) (fun b => f23 199 b (nr_X3_marksBeside_258__199 b)) (fun b => f23 201 b (nr_X3_marksBeside_258__201 b)) (fun b => f23 203 b (nr_X3_marksBeside_258__203 b)) (fun b => f23 205 b (nr_X3_marksBeside_258__205 b)) (fun b => f23 207 b (nr_X3_marksBeside_258__207 b)) (fun b => f23 209 b (nr_X3_marksBeside_258__209 b)) (fun b => f23 211 b (nr_X3_marksBeside_258__211 b)) (fun b => f23 213 b (nr_X3_marksBeside_258__213 b)) (fun b => f23 215 b (nr_X3_marksBeside_258__215 b)) (fun b => f23 217 b (nr_X3_marksBeside_258__217 b)) (fun b => f23 219 b (nr_X3_marksBeside_258__219 b))
    have r31 := y_B0.fr o7.1 (f23 211 0 (by decide)) (f23 213 0 (by decide))
    exact sj_X11_side_1D_J55 hfu r0 s21 c22 f24 x25 (by omega) (y_V2.u r30)
  · refine T_if1 (by decide +kernel) ?_
    refine T_let 258 (by decide +kernel) ?_
    refine T_if1 (by decide +kernel) ?_
    refine T_useI (sf_X3_lettersBeside_258 hfu s1 c2 a1 a2 (by omega) (by omega)) (fun v37 s32 hq => ?_)
    obtain ⟨c33, f34, ⟨x36, rfl, b38, b39⟩⟩ := hq
    refine T_vI ?_
    have f35 := z_Fr.tr (R := R_X11_side_1) f4 f34 (fun a b h => absurd h not_false)
    have t40 : s32 240 6 = s1 240 6 := f34 240 6 (by decide)
    have r41 := y_U2.fr o7 (f34 191 16 (by decide)) (f34 6 6 (by decide)) (f34 191 17 (by decide)) (f34 191 18 (by decide)) (fun b => f34 3 b (nr_X3_lettersBeside_258__3 b)) (fun b => f34 8 b (nr_X3_lettersBeside_258__8 b)) (fun b => f34 12 b (nr_X3_lettersBeside_258__12 b)) (fun b => f34 14 b (nr_X3_lettersBeside_258__14 b)) (fun b => f34 16 b (nr_X3_lettersBeside_258__16 b)) (fun b => f34 18 b (nr_X3_lettersBeside_258__18 b)) (fun b => f34 193 b (nr_X3_lettersBeside_258__193 b)) (fun b => f34 195 b (nr_X3_lettersBeside_258__195 b)) (fun b => f34 197 b (nr_X3_lettersBeside_258__197 b)) (fun b => f34 199 b (nr_X3_lettersBeside_258__199 b)) (fun b => f34 201 b (nr_X3_lettersBeside_258__201 b)) (fun b => f34 203 b (nr_X3_lettersBeside_258__203 b)) (fun b => f34 205 b (nr_X3_lettersBeside_258__205 b)) (fun b => f34 207 b (nr_X3_lettersBeside_258__207 b)) (fun b => f34 209 b (nr_X3_lettersBeside_258__209 b)) (fun b => f34 211 b (nr_X3_lettersBeside_258__211 b)) (fun b => f34 213 b (nr_X3_lettersBeside_258__213 b)) (fun b => f34 215 b (nr_X3_lettersBeside_258__215 b)) (fun b => f34 217 b (nr_X3_lettersBeside_258__217 b)) (fun b => f34 219 b (nr_X3_lettersBeside_258__219 b))
    have r42 := y_B0.fr o7.1 (f34 211 0 (by decide)) (f34 213 0 (by decide))
    exact sj_X11_side_1D_J55 hfu r0 s32 c33 f35 x36 (by omega) (y_V2.u r41)
abbrev P_X11_refreshSides_1D (r0 : z_M) : z_V → z_M → Prop := fun v s' => z_CI s' ∧ z_Fr R_X11_refreshSides_1 r0 s' ∧ (y_V2 s') ∧ (v = vN)
theorem sj_X11_refreshSides_1D_J19 {fu : Nat} (hfu : 8589934592 ≤ fu) (r0 s : z_M) (c : z_CI s) (f : z_Fr R_X11_refreshSides_1 r0 s) (p0 : y_V2 s) : z_T (fX11_refreshSides_J19 fu s) (P_X11_refreshSides_1D r0) := by
  refine T_of (fX11_refreshSides_J19.eq_1 ..) ?_
  have u1 := CI_b c (k := 1) (j := 18) bd_1_18
  exact T_ret ⟨c, f, p0, rfl⟩
theorem nr_X8_build_296__3 (b : Int) : ¬ R_X8_build_296 3 b := by
  unfold R_X8_build_296; omega
theorem nr_X8_build_296__16 (b : Int) : ¬ R_X8_build_296 16 b := by
  unfold R_X8_build_296; omega
theorem nr_X8_build_296__18 (b : Int) : ¬ R_X8_build_296 18 b := by
  unfold R_X8_build_296; omega
theorem nr_X8_build_296__199 (b : Int) : ¬ R_X8_build_296 199 b := by
  unfold R_X8_build_296; omega
theorem nr_X8_build_296__201 (b : Int) : ¬ R_X8_build_296 201 b := by
  unfold R_X8_build_296; omega
theorem nr_X8_build_296__203 (b : Int) : ¬ R_X8_build_296 203 b := by
  unfold R_X8_build_296; omega
theorem nr_X8_build_296__205 (b : Int) : ¬ R_X8_build_296 205 b := by
  unfold R_X8_build_296; omega
theorem nr_X8_build_296__207 (b : Int) : ¬ R_X8_build_296 207 b := by
  unfold R_X8_build_296; omega
theorem nr_X8_build_296__209 (b : Int) : ¬ R_X8_build_296 209 b := by
  unfold R_X8_build_296; omega
theorem nr_X8_build_296__211 (b : Int) : ¬ R_X8_build_296 211 b := by
  unfold R_X8_build_296; omega
theorem nr_X8_build_296__213 (b : Int) : ¬ R_X8_build_296 213 b := by
  unfold R_X8_build_296; omega
theorem nr_X8_build_296__217 (b : Int) : ¬ R_X8_build_296 217 b := by
  unfold R_X8_build_296; omega
theorem nr_X8_build_296__219 (b : Int) : ¬ R_X8_build_296 219 b := by
  unfold R_X8_build_296; omega
theorem sf_X11_refreshSides_1D {fu : Nat} (hfu : 8589934592 ≤ fu) (r0 : z_M) (c0 : z_CI r0) (p0 : y_V2 r0) : z_T (fX11_refreshSides fu r0 1) (P_X11_refreshSides_1D r0) := by
  refine T_of (fX11_refreshSides.eq_1 ..) ?_
  refine T_if1 (by decide +kernel) ?_
  refine T_leq (fun x1 e2 => ?_)
  have u3 := CI_b c0 (k := 1) (j := 18) bd_1_18
  refine T_ite (fun h4 => ?_) (fun h4 => ?_)
  · exact sj_X11_refreshSides_1D_J19 hfu r0 r0 c0 z_Fr.rf p0
  · refine T_if1 (by decide +kernel) ?_
    refine T_let 296 (by decide +kernel) ?_
    refine T_if1 (by decide +kernel) ?_
    refine T_useN (sf_X8_build_296 hfu r0 c0) (fun v10 s5 hq => ?_)
    obtain ⟨c6, f7, rfl⟩ := hq
    refine T_vN ?_
    have f8 := z_Fr.tr (R := R_X11_refreshSides_1) z_Fr.rf f7 rs_X8_build_296__X11_refreshSides_1
    have t13 : s5 1 18 = r0 1 18 := f7 1 18 (by decide)
    have r14 := y_V2.fr p0 (f7 1 16 (by decide)) (f7 191 16 (by decide)) (f7 6 6 (by decide)) (f7 191 17 (by decide)) (f7 191 18 (by decide)) (fun b => f7 3 b (nr_X8_build_296__3 b)) (fun b => f7 8 b (nr_X8_build_296__8 b)) (fun b => f7 12 b (nr_X8_build_296__12 b)) (fun b => f7 14 b (nr_X8_build_296__14 b)) (fun b => f7 16 b (nr_X8_build_296__16 b)) (fun b => f7 18 b (nr_X8_build_296__18 b)) (fun b => f7 193 b (nr_X8_build_296__193 b)) (fun b => f7 195 b (nr_X8_build_296__195 b)) (fun b => f7 197 b (nr_X8_build_296__197 b)) (fun b => f7 199 b (nr_X8_build_296__199 b)) (fun b => f7 201 b (nr_X8_build_296__201 b)) (fun b => f7 203 b (nr_X8_build_296__203 b)) (fun b => f7 205 b (nr_X8_build_296__205 b)) (fun b => f7 207 b (nr_X8_build_296__207 b)) (fun b => f7 209 b (nr_X8_build_296__209 b)) (fun b => f7 211 b (nr_X8_build_296__211 b)) (fun b => f7 213 b (nr_X8_build_296__213 b)) (fun b => f7 215 b (nr_X8_build_296__215 b)) (fun b => f7 217 b (nr_X8_build_296__217 b)) (fun b => f7 219 b (nr_X8_build_296__219 b))
    have r15 := y_B0.fr p0.1 (f7 211 0 (by decide)) (f7 213 0 (by decide))
    refine T_if1 ⟨(by decide +kernel), by unfold z_bl; omega⟩ ?_
    refine T_upg c6 bd_1_18 (by omega) (fun s16 c17 g19 g20 e21 => ?_)
    have f18 := z_Fr.upf (R := R_X11_refreshSides_1) f8 g19 g20 (Or.inr (Or.inl (⟨rfl, by decide⟩)))
    have r22 := y_V2.fr r14 (g20 16 (by decide)) (g19 191 16 (by decide)) (g19 6 6 (by decide)) (g19 191 17 (by decide)) (g19 191 18 (by decide)) (fun b => g19 3 b (by decide)) (fun b => g19 8 b (by decide)) (fun b => g19 12 b (by decide)) (fun b => g19 14 b (by decide)) (fun b => g19 16 b (by decide)) (fun b => g19 18 b (by decide)) (fun b => g19 193 b (by decide)) (fun b => g19 195 b (by decide)) (fun b => g19 197 b (by decide)) (fun b => g19 199 b (by decide)) (fun b => g19 201 b (by decide)) (fun b => g19 203 b (by decide)) (fun b => g19 205 b (by decide)) (fun b => g19 207 b (by decide)) (fun b => g19 209 b (by decide)) (fun b => g19 211 b (by decide)) (fun b => g19 213 b (by decide)) (fun b => g19 215 b (by decide)) (fun b => g19 217 b (by decide)) (fun b => g19 219 b (by decide))
    have r23 := y_B0.fr r15 (g19 211 0 (by decide)) (g19 213 0 (by decide))
    exact sj_X11_refreshSides_1D_J19 hfu r0 s16 c17 f18 r22
abbrev P_X11_gutter_1D (r0 : z_M) : z_V → z_M → Prop := fun v s' => z_CI s' ∧ z_Fr R_X11_gutter_1 r0 s' ∧ (y_V2 s') ∧ ((∃ x, v = vI x ∧ -2147483648 ≤ x ∧ x ≤ 2147483647) ∨ v = vX 0)
theorem nr_X11_refreshSides_1__3 (b : Int) : ¬ R_X11_refreshSides_1 3 b := by
  unfold R_X11_refreshSides_1; omega
theorem nr_X11_refreshSides_1__16 (b : Int) : ¬ R_X11_refreshSides_1 16 b := by
  unfold R_X11_refreshSides_1; omega
theorem nr_X11_refreshSides_1__18 (b : Int) : ¬ R_X11_refreshSides_1 18 b := by
  unfold R_X11_refreshSides_1; omega
theorem nr_X11_refreshSides_1__199 (b : Int) : ¬ R_X11_refreshSides_1 199 b := by
  unfold R_X11_refreshSides_1; omega
theorem nr_X11_refreshSides_1__201 (b : Int) : ¬ R_X11_refreshSides_1 201 b := by
  unfold R_X11_refreshSides_1; omega
theorem nr_X11_refreshSides_1__203 (b : Int) : ¬ R_X11_refreshSides_1 203 b := by
  unfold R_X11_refreshSides_1; omega
theorem nr_X11_refreshSides_1__205 (b : Int) : ¬ R_X11_refreshSides_1 205 b := by
  unfold R_X11_refreshSides_1; omega
theorem nr_X11_refreshSides_1__207 (b : Int) : ¬ R_X11_refreshSides_1 207 b := by
  unfold R_X11_refreshSides_1; omega
theorem nr_X11_refreshSides_1__209 (b : Int) : ¬ R_X11_refreshSides_1 209 b := by
  unfold R_X11_refreshSides_1; omega
theorem nr_X11_refreshSides_1__211 (b : Int) : ¬ R_X11_refreshSides_1 211 b := by
  unfold R_X11_refreshSides_1; omega
theorem nr_X11_refreshSides_1__213 (b : Int) : ¬ R_X11_refreshSides_1 213 b := by
  unfold R_X11_refreshSides_1; omega
theorem nr_X11_refreshSides_1__217 (b : Int) : ¬ R_X11_refreshSides_1 217 b := by
  unfold R_X11_refreshSides_1; omega
theorem nr_X11_refreshSides_1__219 (b : Int) : ¬ R_X11_refreshSides_1 219 b := by
  unfold R_X11_refreshSides_1; omega
theorem sj_X11_gutter_1D_J48 {fu : Nat} (hfu : 8589934592 ≤ fu) (r0 s : z_M) (c : z_CI s) (f : z_Fr R_X11_gutter_1 r0 s) (t0 : Int) (d0 : -2147483648 ≤ t0 ∧ t0 ≤ 2147483647) (p0 : y_V2 s) : z_T (fX11_gutter_J48 fu s t0) (P_X11_gutter_1D r0) := by
  refine T_of (fX11_gutter_J48.eq_1 ..) ?_
  have u1 := CI_b c (k := 240) (j := 6) bd_240_6
  exact T_ret ⟨c, f, p0, Or.inl (⟨t0, rfl, by omega, by omega⟩)⟩
theorem sf_X11_gutter_1D {fu : Nat} (hfu : 8589934592 ≤ fu) (r0 : z_M) (c0 : z_CI r0) (a1 : Int) (b1 : -2147483648 ≤ a1 ∧ a1 ≤ 2147483647) (p0 : y_V2 r0) : z_T (fX11_gutter fu r0 1 a1) (P_X11_gutter_1D r0) := by
  refine T_of (fX11_gutter.eq_1 ..) ?_
  refine T_if1 (by decide +kernel) ?_
  refine T_useN (sf_X11_refresh_1D hfu r0 c0 p0) (fun v6 s1 hq => ?_)
  obtain ⟨c2, f3, o7, rfl⟩ := hq
  refine T_vN ?_
  have f4 := z_Fr.tr (R := R_X11_gutter_1) z_Fr.rf f3 rs_X11_refresh_1__X11_gutter_1
  have u10 := CI_b c2 (k := 240) (j := 6) bd_240_6
  refine T_if1 (by decide +kernel) ?_
  refine T_let 240 (by decide +kernel) ?_
  refine T_if1 (by decide +kernel) ?_
  refine T_leq (fun x11 e12 => ?_)
  have u13 := CI_b c2 (k := 240) (j := 6) bd_240_6
  refine T_if1 (by decide +kernel) ?_
  refine T_ne ?_ (fun h14 h15 => ?_)
  · exact T_ret ⟨CI_up c2 bd_1_14 (z_wb rfl).1, z_Fr.upf (R := R_X11_gutter_1) f4 (fun a b h => z_up_k h) (fun b h => z_up_j h) (Or.inr (Or.inr (Or.inr (Or.inr (Or.inr (Or.inr (Or.inr (Or.inr (Or.inl (⟨rfl, by decide⟩)))))))))), y_V2.u (y_U2.fr o7 (z_up_k (by decide)) (z_up_k (by decide)) (z_up_k (by decide)) (z_up_k (by decide)) (fun _ => z_up_k (by decide)) (fun _ => z_up_k (by decide)) (fun _ => z_up_k (by decide)) (fun _ => z_up_k (by decide)) (fun _ => z_up_k (by decide)) (fun _ => z_up_k (by decide)) (fun _ => z_up_k (by decide)) (fun _ => z_up_k (by decide)) (fun _ => z_up_k (by decide)) (fun _ => z_up_k (by decide)) (fun _ => z_up_k (by decide)) (fun _ => z_up_k (by decide)) (fun _ => z_up_k (by decide)) (fun _ => z_up_k (by decide)) (fun _ => z_up_k (by decide)) (fun _ => z_up_k (by decide)) (fun _ => z_up_k (by decide)) (fun _ => z_up_k (by decide)) (fun _ => z_up_k (by decide)) (fun _ => z_up_k (by decide))), Or.inr rfl⟩
  refine T_if1 (by decide +kernel) ?_
  refine T_useN (sf_X11_refreshSides_1D hfu s1 c2 (y_V2.u o7)) (fun v21 s16 hq => ?_)
  obtain ⟨c17, f18, o22, rfl⟩ := hq
  refine T_vN ?_
  have f19 := z_Fr.tr (R := R_X11_gutter_1) f4 f18 rs_X11_refreshSides_1__X11_gutter_1
  have t25 : s16 240 6 = s1 240 6 := f18 240 6 (by decide)
  have r26 := y_U2.fr o7 (f18 191 16 (by decide)) (f18 6 6 (by decide)) (f18 191 17 (by decide)) (f18 191 18 (by decide)) (fun b => f18 3 b (nr_X11_refreshSides_1__3 b)) (fun b => f18 8 b (nr_X11_refreshSides_1__8 b)) (fun b => f18 12 b (nr_X11_refreshSides_1__12 b)) (fun b => f18 14 b (nr_X11_refreshSides_1__14 b)) (fun b => f18 16 b (nr_X11_refreshSides_1__16 b)) (fun b => f18 18 b (nr_X11_refreshSides_1__18 b)) (fun b => f18 193 b (nr_X11_refreshSides_1__193 b)) (fun b => f18 195 b (nr_X11_refreshSides_1__195 b)) (fun b => f18 197 b (nr_X11_refreshSides_1__197 b)) (fun b => f18 199 b (nr_X11_refreshSides_1__199 b)) (fun b => f18 201 b (nr_X11_refreshSides_1__201 b)) (fun b => f18 203 b (nr_X11_refreshSides_1__203 b)) (fun b => f18 205 b (nr_X11_refreshSides_1__205 b)) (fun b => f18 207 b (nr_X11_refreshSides_1__207 b)) (fun b => f18 209 b (nr_X11_refreshSides_1__209 b)) (fun b => f18 211 b (nr_X11_refreshSides_1__211 b)) (fun b => f18 213 b (nr_X11_refreshSides_1__213 b)) (fun b => f18 215 b (nr_X11_refreshSides_1__215 b)) (fun b => f18 217 b (nr_X11_refreshSides_1__217 b)) (fun b => f18 219 b (nr_X11_refreshSides_1__219 b))
  have r27 := y_B0.fr o7.1 (f18 211 0 (by decide)) (f18 213 0 (by decide))
  refine T_if1 (by decide +kernel) ?_
  refine T_let 240 (by decide +kernel) ?_
  refine T_if1 (by decide +kernel) ?_
  refine T_leq (fun x28 e29 => ?_)
  have u30 := CI_b c17 (k := 240) (j := 6) bd_240_6
  refine T_leq (fun x31 e32 => ?_)
  have w33 := z_wr e32
  refine T_ite (fun h34 => ?_) (fun h34 => ?_)
  · refine T_if1 (by decide +kernel) ?_
    refine T_let 296 (by decide +kernel) ?_
    refine T_if1 (by decide +kernel) ?_
    refine T_let 301 (by decide +kernel) ?_
    refine T_if1 (by decide +kernel) ?_
    refine T_get (by decide +kernel) (c := 302) (by decide +kernel) bdr_302 (by decide) c17 (fun x35 e36 b37 w38 => ?_)
    have l39 : z_ln 301 = 200 := by decide +kernel
    exact sj_X11_gutter_1D_J48 hfu r0 s16 c17 f19 x35 (by omega) o22
  · exact sj_X11_gutter_1D_J48 hfu r0 s16 c17 f19 (-1) (by omega) o22
abbrev P_X11_clash_1D (r0 : z_M) : z_V → z_M → Prop := fun v s' => z_CI s' ∧ z_Fr R_X11_clash_1 r0 s' ∧ (y_V2 s') ∧ ((∃ x, v = vI x ∧ -2147483648 ≤ x ∧ x ≤ 2147483647) ∨ v = vX 0)
theorem sf_X11_clash_1D {fu : Nat} (hfu : 8589934592 ≤ fu) (r0 : z_M) (c0 : z_CI r0) (a1 : Int) (b1 : -2147483648 ≤ a1 ∧ a1 ≤ 2147483647) (p0 : y_V2 r0) : z_T (fX11_clash fu r0 1 a1) (P_X11_clash_1D r0) := by
  refine T_of (fX11_clash.eq_1 ..) ?_
  refine T_if1 (by decide +kernel) ?_
  refine T_useN (sf_X11_refresh_1D hfu r0 c0 p0) (fun v6 s1 hq => ?_)
  obtain ⟨c2, f3, o7, rfl⟩ := hq
  refine T_vN ?_
  have f4 := z_Fr.tr (R := R_X11_clash_1) z_Fr.rf f3 rs_X11_refresh_1__X11_clash_1
  have u10 := CI_b c2 (k := 240) (j := 6) bd_240_6
  refine T_if1 (by decide +kernel) ?_
  refine T_let 240 (by decide +kernel) ?_
  refine T_if1 (by decide +kernel) ?_
  refine T_leq (fun x11 e12 => ?_)
  have u13 := CI_b c2 (k := 240) (j := 6) bd_240_6
  refine T_if1 (by decide +kernel) ?_
  refine T_ne ?_ (fun h14 h15 => ?_)
  · exact T_ret ⟨CI_up c2 bd_1_14 (z_wb rfl).1, z_Fr.upf (R := R_X11_clash_1) f4 (fun a b h => z_up_k h) (fun b h => z_up_j h) (Or.inr (Or.inr (Or.inr (Or.inr (Or.inr (Or.inr (Or.inr (Or.inr (Or.inl (⟨rfl, by decide⟩)))))))))), y_V2.u (y_U2.fr o7 (z_up_k (by decide)) (z_up_k (by decide)) (z_up_k (by decide)) (z_up_k (by decide)) (fun _ => z_up_k (by decide)) (fun _ => z_up_k (by decide)) (fun _ => z_up_k (by decide)) (fun _ => z_up_k (by decide)) (fun _ => z_up_k (by decide)) (fun _ => z_up_k (by decide)) (fun _ => z_up_k (by decide)) (fun _ => z_up_k (by decide)) (fun _ => z_up_k (by decide)) (fun _ => z_up_k (by decide)) (fun _ => z_up_k (by decide)) (fun _ => z_up_k (by decide)) (fun _ => z_up_k (by decide)) (fun _ => z_up_k (by decide)) (fun _ => z_up_k (by decide)) (fun _ => z_up_k (by decide)) (fun _ => z_up_k (by decide)) (fun _ => z_up_k (by decide)) (fun _ => z_up_k (by decide)) (fun _ => z_up_k (by decide))), Or.inr rfl⟩
  refine T_if1 (by decide +kernel) ?_
  refine T_useN (sf_X11_refreshSides_1D hfu s1 c2 (y_V2.u o7)) (fun v21 s16 hq => ?_)
  obtain ⟨c17, f18, o22, rfl⟩ := hq
  refine T_vN ?_
  have f19 := z_Fr.tr (R := R_X11_clash_1) f4 f18 rs_X11_refreshSides_1__X11_clash_1
  have t25 : s16 240 6 = s1 240 6 := f18 240 6 (by decide)
  have r26 := y_U2.fr o7 (f18 191 16 (by decide)) (f18 6 6 (by decide)) (f18 191 17 (by decide)) (f18 191 18 (by decide)) (fun b => f18 3 b (nr_X11_refreshSides_1__3 b)) (fun b => f18 8 b (nr_X11_refreshSides_1__8 b)) (fun b => f18 12 b (nr_X11_refreshSides_1__12 b)) (fun b => f18 14 b (nr_X11_refreshSides_1__14 b)) (fun b => f18 16 b (nr_X11_refreshSides_1__16 b)) (fun b => f18 18 b (nr_X11_refreshSides_1__18 b)) (fun b => f18 193 b (nr_X11_refreshSides_1__193 b)) (fun b => f18 195 b (nr_X11_refreshSides_1__195 b)) (fun b => f18 197 b (nr_X11_refreshSides_1__197 b)) (fun b => f18 199 b (nr_X11_refreshSides_1__199 b)) (fun b => f18 201 b (nr_X11_refreshSides_1__201 b)) (fun b => f18 203 b (nr_X11_refreshSides_1__203 b)) (fun b => f18 205 b (nr_X11_refreshSides_1__205 b)) (fun b => f18 207 b (nr_X11_refreshSides_1__207 b)) (fun b => f18 209 b (nr_X11_refreshSides_1__209 b)) (fun b => f18 211 b (nr_X11_refreshSides_1__211 b)) (fun b => f18 213 b (nr_X11_refreshSides_1__213 b)) (fun b => f18 215 b (nr_X11_refreshSides_1__215 b)) (fun b => f18 217 b (nr_X11_refreshSides_1__217 b)) (fun b => f18 219 b (nr_X11_refreshSides_1__219 b))
  have r27 := y_B0.fr o7.1 (f18 211 0 (by decide)) (f18 213 0 (by decide))
  refine T_if1 (by decide +kernel) ?_
  refine T_let 296 (by decide +kernel) ?_
  refine T_if1 (by decide +kernel) ?_
  refine T_let 299 (by decide +kernel) ?_
  refine T_if1 (by decide +kernel) ?_
  refine T_get (by decide +kernel) (c := 300) (by decide +kernel) bdr_300 (by decide) c17 (fun x28 e29 b30 w31 => ?_)
  have l32 : z_ln 299 = 200 := by decide +kernel
  exact T_ret ⟨c17, f19, o22, Or.inl (⟨x28, rfl, by omega, by omega⟩)⟩
abbrev P_X11_thick_1D (r0 : z_M) : z_V → z_M → Prop := fun v s' => z_CI s' ∧ z_Fr R_X11_thick_1 r0 s' ∧ (y_V2 s') ∧ ((∃ x, v = vI x ∧ -2147483648 ≤ x ∧ x ≤ 2147483647) ∨ v = vX 0 ∨ v = vX 1)
theorem nr_X8_thickOf_296__3 (b : Int) : ¬ R_X8_thickOf_296 3 b := not_false
theorem nr_X8_thickOf_296__16 (b : Int) : ¬ R_X8_thickOf_296 16 b := not_false
theorem nr_X8_thickOf_296__18 (b : Int) : ¬ R_X8_thickOf_296 18 b := not_false
theorem nr_X8_thickOf_296__199 (b : Int) : ¬ R_X8_thickOf_296 199 b := not_false
theorem nr_X8_thickOf_296__201 (b : Int) : ¬ R_X8_thickOf_296 201 b := not_false
theorem nr_X8_thickOf_296__203 (b : Int) : ¬ R_X8_thickOf_296 203 b := not_false
theorem nr_X8_thickOf_296__205 (b : Int) : ¬ R_X8_thickOf_296 205 b := not_false
theorem nr_X8_thickOf_296__207 (b : Int) : ¬ R_X8_thickOf_296 207 b := not_false
theorem nr_X8_thickOf_296__209 (b : Int) : ¬ R_X8_thickOf_296 209 b := not_false
theorem nr_X8_thickOf_296__211 (b : Int) : ¬ R_X8_thickOf_296 211 b := not_false
theorem nr_X8_thickOf_296__213 (b : Int) : ¬ R_X8_thickOf_296 213 b := not_false
theorem nr_X8_thickOf_296__217 (b : Int) : ¬ R_X8_thickOf_296 217 b := not_false
theorem nr_X8_thickOf_296__219 (b : Int) : ¬ R_X8_thickOf_296 219 b := not_false
set_option maxHeartbeats 4000000 in
theorem sf_X11_thick_1D {fu : Nat} (hfu : 8589934592 ≤ fu) (r0 : z_M) (c0 : z_CI r0) (a1 : Int) (a2 : Int) (b1 : -2147483648 ≤ a1 ∧ a1 ≤ 2147483647) (b2 : -2147483648 ≤ a2 ∧ a2 ≤ 2147483647) (p0 : y_V2 r0) : z_T (fX11_thick fu r0 1 a1 a2) (P_X11_thick_1D r0) := by
  refine T_of (fX11_thick.eq_1 ..) ?_
  refine T_if1 (by decide +kernel) ?_
  refine T_useN (sf_X11_refresh_1D hfu r0 c0 p0) (fun v6 s1 hq => ?_)
  obtain ⟨c2, f3, o7, rfl⟩ := hq
  refine T_vN ?_
  have f4 := z_Fr.tr (R := R_X11_thick_1) z_Fr.rf f3 rs_X11_refresh_1__X11_thick_1
  have u10 := CI_b c2 (k := 240) (j := 6) bd_240_6
  refine T_if1 (by decide +kernel) ?_
  refine T_let 240 (by decide +kernel) ?_
  refine T_if1 (by decide +kernel) ?_
  refine T_leq (fun x11 e12 => ?_)
  have u13 := CI_b c2 (k := 240) (j := 6) bd_240_6
  refine T_if1 (by decide +kernel) ?_
  refine T_ne ?_ (fun h14 h15 => ?_)
  · exact T_ret ⟨CI_up c2 bd_1_14 (z_wb rfl).1, z_Fr.upf (R := R_X11_thick_1) f4 (fun a b h => z_up_k h) (fun b h => z_up_j h) (Or.inr (Or.inr (Or.inr (Or.inr (Or.inr (Or.inr (Or.inr (Or.inr (Or.inl (⟨rfl, by decide⟩)))))))))), y_V2.u (y_U2.fr o7 (z_up_k (by decide)) (z_up_k (by decide)) (z_up_k (by decide)) (z_up_k (by decide)) (fun _ => z_up_k (by decide)) (fun _ => z_up_k (by decide)) (fun _ => z_up_k (by decide)) (fun _ => z_up_k (by decide)) (fun _ => z_up_k (by decide)) (fun _ => z_up_k (by decide)) (fun _ => z_up_k (by decide)) (fun _ => z_up_k (by decide)) (fun _ => z_up_k (by decide)) (fun _ => z_up_k (by decide)) (fun _ => z_up_k (by decide)) (fun _ => z_up_k (by decide)) (fun _ => z_up_k (by decide)) (fun _ => z_up_k (by decide)) (fun _ => z_up_k (by decide)) (fun _ => z_up_k (by decide)) (fun _ => z_up_k (by decide)) (fun _ => z_up_k (by decide)) (fun _ => z_up_k (by decide)) (fun _ => z_up_k (by decide))), Or.inr (Or.inl rfl)⟩
  refine T_if1 (by decide +kernel) ?_
  refine T_let 240 (by decide +kernel) ?_
  refine T_if1 (by decide +kernel) ?_
  refine T_leq (fun x16 e17 => ?_)
  have u18 := CI_b c2 (k := 240) (j := 6) bd_240_6
  refine T_if1 (by decide +kernel) ?_
  refine T_ne ?_ (fun h19 h20 => ?_)
  · exact T_ret ⟨CI_up c2 bd_1_14 (z_wb rfl).1, z_Fr.upf (R := R_X11_thick_1) f4 (fun a b h => z_up_k h) (fun b h => z_up_j h) (Or.inr (Or.inr (Or.inr (Or.inr (Or.inr (Or.inr (Or.inr (Or.inr (Or.inl (⟨rfl, by decide⟩)))))))))), y_V2.u (y_U2.fr o7 (z_up_k (by decide)) (z_up_k (by decide)) (z_up_k (by decide)) (z_up_k (by decide)) (fun _ => z_up_k (by decide)) (fun _ => z_up_k (by decide)) (fun _ => z_up_k (by decide)) (fun _ => z_up_k (by decide)) (fun _ => z_up_k (by decide)) (fun _ => z_up_k (by decide)) (fun _ => z_up_k (by decide)) (fun _ => z_up_k (by decide)) (fun _ => z_up_k (by decide)) (fun _ => z_up_k (by decide)) (fun _ => z_up_k (by decide)) (fun _ => z_up_k (by decide)) (fun _ => z_up_k (by decide)) (fun _ => z_up_k (by decide)) (fun _ => z_up_k (by decide)) (fun _ => z_up_k (by decide)) (fun _ => z_up_k (by decide)) (fun _ => z_up_k (by decide)) (fun _ => z_up_k (by decide)) (fun _ => z_up_k (by decide))), Or.inr (Or.inl rfl)⟩
  refine T_if1 (by decide +kernel) ?_
  refine T_let 240 (by decide +kernel) ?_
  refine T_if1 (by decide +kernel) ?_
  refine T_leq (fun x21 e22 => ?_)
  have u23 := CI_b c2 (k := 240) (j := 6) bd_240_6
  refine T_if1 (by decide +kernel) ?_
  refine T_nw ?_ (fun h24 h25 => ?_)
  · exact T_ret ⟨CI_up c2 bd_1_15 (z_wb rfl).1, z_Fr.upf (R := R_X11_thick_1) f4 (fun a b h => z_up_k h) (fun b h => z_up_j h) (Or.inr (Or.inr (Or.inr (Or.inr (Or.inr (Or.inr (Or.inr (Or.inr (Or.inl (⟨rfl, by decide⟩)))))))))), y_V2.u (y_U2.fr o7 (z_up_k (by decide)) (z_up_k (by decide)) (z_up_k (by decide)) (z_up_k (by decide)) (fun _ => z_up_k (by decide)) (fun _ => z_up_k (by decide)) (fun _ => z_up_k (by decide)) (fun _ => z_up_k (by decide)) (fun _ => z_up_k (by decide)) (fun _ => z_up_k (by decide)) (fun _ => z_up_k (by decide)) (fun _ => z_up_k (by decide)) (fun _ => z_up_k (by decide)) (fun _ => z_up_k (by decide)) (fun _ => z_up_k (by decide)) (fun _ => z_up_k (by decide)) (fun _ => z_up_k (by decide)) (fun _ => z_up_k (by decide)) (fun _ => z_up_k (by decide)) (fun _ => z_up_k (by decide)) (fun _ => z_up_k (by decide)) (fun _ => z_up_k (by decide)) (fun _ => z_up_k (by decide)) (fun _ => z_up_k (by decide))), Or.inr (Or.inr rfl)⟩
  refine T_if1 (by decide +kernel) ?_
  refine T_useN (sf_X11_refreshSides_1D hfu s1 c2 (y_V2.u o7)) (fun v31 s26 hq => ?_)
  obtain ⟨c27, f28, o32, rfl⟩ := hq
  refine T_vN ?_
  have f29 := z_Fr.tr (R := R_X11_thick_1) f4 f28 rs_X11_refreshSides_1__X11_thick_1
  have t35 : s26 240 6 = s1 240 6 := f28 240 6 (by decide)
  have r36 := y_U2.fr o7 (f28 191 16 (by decide)) (f28 6 6 (by decide)) (f28 191 17 (by decide)) (f28 191 18 (by decide)) (fun b => f28 3 b (nr_X11_refreshSides_1__3 b)) (fun b => f28 8 b (nr_X11_refreshSides_1__8 b)) (fun b => f28 12 b (nr_X11_refreshSides_1__12 b)) (fun b => f28 14 b (nr_X11_refreshSides_1__14 b)) (fun b => f28 16 b (nr_X11_refreshSides_1__16 b)) (fun b => f28 18 b (nr_X11_refreshSides_1__18 b)) (fun b => f28 193 b (nr_X11_refreshSides_1__193 b)) (fun b => f28 195 b (nr_X11_refreshSides_1__195 b)) (fun b => f28 197 b (nr_X11_refreshSides_1__197 b)) (fun b => f28 199 b (nr_X11_refreshSides_1__199 b)) (fun b => f28 201 b (nr_X11_refreshSides_1__201 b)) (fun b => f28 203 b (nr_X11_refreshSides_1__203 b)) (fun b => f28 205 b (nr_X11_refreshSides_1__205 b)) (fun b => f28 207 b (nr_X11_refreshSides_1__207 b)) (fun b => f28 209 b (nr_X11_refreshSides_1__209 b)) (fun b => f28 211 b (nr_X11_refreshSides_1__211 b)) (fun b => f28 213 b (nr_X11_refreshSides_1__213 b)) (fun b => f28 215 b (nr_X11_refreshSides_1__215 b)) (fun b => f28 217 b (nr_X11_refreshSides_1__217 b)) (fun b => f28 219 b (nr_X11_refreshSides_1__219 b))
  have r37 := y_B0.fr o7.1 (f28 211 0 (by decide)) (f28 213 0 (by decide))
  refine T_if1 (by decide +kernel) ?_
  refine T_let 296 (by decide +kernel) ?_
  refine T_if1 (by decide +kernel) ?_
  refine T_useI (sf_X8_thickOf_296 hfu s26 c27 a1 a2 (by omega) (by omega)) (fun v43 s38 hq => ?_)
  obtain ⟨c39, f40, ⟨x42, rfl, b44, b45⟩⟩ := hq
  refine T_vI ?_
  have f41 := z_Fr.tr (R := R_X11_thick_1) f29 f40 (fun a b h => absurd h not_false)
  have t46 : s38 240 6 = s26 240 6 := f40 240 6 (by decide)
  have r47 := y_U2.fr r36 (f40 191 16 (by decide)) (f40 6 6 (by decide)) (f40 191 17 (by decide)) (f40 191 18 (by decide)) (fun b => f40 3 b (nr_X8_thickOf_296__3 b)) (fun b => f40 8 b (nr_X8_thickOf_296__8 b)) (fun b => f40 12 b (nr_X8_thickOf_296__12 b)) (fun b => f40 14 b (nr_X8_thickOf_296__14 b)) (fun b => f40 16 b (nr_X8_thickOf_296__16 b)) (fun b => f40 18 b (nr_X8_thickOf_296__18 b)) (fun b => f40 193 b (nr_X8_thickOf_296__193 b)) (fun b => f40 195 b (nr_X8_thickOf_296__195 b)) (fun b => f40 197 b (nr_X8_thickOf_296__197 b)) (fun b => f40 199 b (nr_X8_thickOf_296__199 b)) (fun b => f40 201 b (nr_X8_thickOf_296__201 b)) (fun b => f40 203 b (nr_X8_thickOf_296__203 b)) (fun b => f40 205 b (nr_X8_thickOf_296__205 b)) (fun b => f40 207 b (nr_X8_thickOf_296__207 b)) (fun b => f40 209 b (nr_X8_thickOf_296__209 b)) (fun b => f40 211 b (nr_X8_thickOf_296__211 b)) (fun b => f40 213 b (nr_X8_thickOf_296__213 b)) (fun b => f40 215 b (nr_X8_thickOf_296__215 b)) (fun b => f40 217 b (nr_X8_thickOf_296__217 b)) (fun b => f40 219 b (nr_X8_thickOf_296__219 b))
  have r48 := y_B0.fr o32.1 (f40 211 0 (by decide)) (f40 213 0 (by decide))
  have r49 := y_V2.fr o32 (f40 1 16 (by decide)) (f40 191 16 (by decide)) (f40 6 6 (by decide)) (f40 191 17 (by decide)) (f40 191 18 (by decide)) (fun b => f40 3 b (nr_X8_thickOf_296__3 b)) (fun b => f40 8 b (nr_X8_thickOf_296__8 b)) (fun b => f40 12 b (nr_X8_thickOf_296__12 b)) (fun b => f40 14 b (nr_X8_thickOf_296__14 b)) (fun b => f40 16 b (nr_X8_thickOf_296__16 b)) (fun b => f40 18 b (nr_X8_thickOf_296__18 b)) (fun b => f40 193 b (nr_X8_thickOf_296__193 b)) (fun b => f40 195 b (nr_X8_thickOf_296__195 b)) (fun b => f40 197 b (nr_X8_thickOf_296__197 b)) (fun b => f40 199 b (nr_X8_thickOf_296__199 b)) (fun b => f40 201 b (nr_X8_thickOf_296__201 b)) (fun b => f40 203 b (nr_X8_thickOf_296__203 b)) (fun b => f40 205 b (nr_X8_thickOf_296__205 b)) (fun b => f40 207 b (nr_X8_thickOf_296__207 b)) (fun b => f40 209 b (nr_X8_thickOf_296__209 b)) (fun b => f40 211 b (nr_X8_thickOf_296__211 b)) (fun b => f40 213 b (nr_X8_thickOf_296__213 b)) (fun b => f40 215 b (nr_X8_thickOf_296__215 b)) (fun b => f40 217 b (nr_X8_thickOf_296__217 b)) (fun b => f40 219 b (nr_X8_thickOf_296__219 b))
  exact T_ret ⟨c39, f41, r49, Or.inl (⟨x42, rfl, by omega, by omega⟩)⟩
abbrev P_X11_pages_1D (r0 : z_M) : z_V → z_M → Prop := fun v s' => z_CI s' ∧ z_Fr R_X11_pages_1 r0 s' ∧ (y_V2 s') ∧ ((∃ x, v = vI x ∧ -2147483648 ≤ x ∧ x ≤ 2147483647) ∨ v = vX 1)
theorem nr_X8_pageCount_296__3 (b : Int) : ¬ R_X8_pageCount_296 3 b := not_false
theorem nr_X8_pageCount_296__16 (b : Int) : ¬ R_X8_pageCount_296 16 b := not_false
theorem nr_X8_pageCount_296__18 (b : Int) : ¬ R_X8_pageCount_296 18 b := not_false
theorem nr_X8_pageCount_296__199 (b : Int) : ¬ R_X8_pageCount_296 199 b := not_false
theorem nr_X8_pageCount_296__201 (b : Int) : ¬ R_X8_pageCount_296 201 b := not_false
theorem nr_X8_pageCount_296__203 (b : Int) : ¬ R_X8_pageCount_296 203 b := not_false
theorem nr_X8_pageCount_296__205 (b : Int) : ¬ R_X8_pageCount_296 205 b := not_false
theorem nr_X8_pageCount_296__207 (b : Int) : ¬ R_X8_pageCount_296 207 b := not_false
theorem nr_X8_pageCount_296__209 (b : Int) : ¬ R_X8_pageCount_296 209 b := not_false
theorem nr_X8_pageCount_296__211 (b : Int) : ¬ R_X8_pageCount_296 211 b := not_false
theorem nr_X8_pageCount_296__213 (b : Int) : ¬ R_X8_pageCount_296 213 b := not_false
theorem nr_X8_pageCount_296__217 (b : Int) : ¬ R_X8_pageCount_296 217 b := not_false
theorem nr_X8_pageCount_296__219 (b : Int) : ¬ R_X8_pageCount_296 219 b := not_false
theorem sf_X11_pages_1D {fu : Nat} (hfu : 8589934592 ≤ fu) (r0 : z_M) (c0 : z_CI r0) (a1 : Int) (b1 : -2147483648 ≤ a1 ∧ a1 ≤ 2147483647) (p0 : y_V2 r0) : z_T (fX11_pages fu r0 1 a1) (P_X11_pages_1D r0) := by
  refine T_of (fX11_pages.eq_1 ..) ?_
  refine T_if1 (by decide +kernel) ?_
  refine T_nw ?_ (fun h1 h2 => ?_)
  · exact T_ret ⟨CI_up c0 bd_1_15 (z_wb rfl).1, z_Fr.upf (R := R_X11_pages_1) z_Fr.rf (fun a b h => z_up_k h) (fun b h => z_up_j h) (Or.inr (Or.inr (Or.inr (Or.inr (Or.inr (Or.inr (Or.inr (Or.inr (Or.inl (⟨rfl, by decide⟩)))))))))), y_V2.fr p0 (z_up_j (by decide)) (z_up_k (by decide)) (z_up_k (by decide)) (z_up_k (by decide)) (z_up_k (by decide)) (fun _ => z_up_k (by decide)) (fun _ => z_up_k (by decide)) (fun _ => z_up_k (by decide)) (fun _ => z_up_k (by decide)) (fun _ => z_up_k (by decide)) (fun _ => z_up_k (by decide)) (fun _ => z_up_k (by decide)) (fun _ => z_up_k (by decide)) (fun _ => z_up_k (by decide)) (fun _ => z_up_k (by decide)) (fun _ => z_up_k (by decide)) (fun _ => z_up_k (by decide)) (fun _ => z_up_k (by decide)) (fun _ => z_up_k (by decide)) (fun _ => z_up_k (by decide)) (fun _ => z_up_k (by decide)) (fun _ => z_up_k (by decide)) (fun _ => z_up_k (by decide)) (fun _ => z_up_k (by decide)) (fun _ => z_up_k (by decide)), Or.inr rfl⟩
  refine T_if1 (by decide +kernel) ?_
  refine T_useN (sf_X11_refresh_1D hfu r0 c0 p0) (fun v8 s3 hq => ?_)
  obtain ⟨c4, f5, o9, rfl⟩ := hq
  refine T_vN ?_
  have f6 := z_Fr.tr (R := R_X11_pages_1) z_Fr.rf f5 rs_X11_refresh_1__X11_pages_1
  refine T_if1 (by decide +kernel) ?_
  refine T_useN (sf_X11_refreshSides_1D hfu s3 c4 (y_V2.u o9)) (fun v17 s12 hq => ?_)
  obtain ⟨c13, f14, o18, rfl⟩ := hq
  refine T_vN ?_
  have f15 := z_Fr.tr (R := R_X11_pages_1) f6 f14 rs_X11_refreshSides_1__X11_pages_1
  have r21 := y_U2.fr o9 (f14 191 16 (by decide)) (f14 6 6 (by decide)) (f14 191 17 (by decide)) (f14 191 18 (by decide)) (fun b => f14 3 b (nr_X11_refreshSides_1__3 b)) (fun b => f14 8 b (nr_X11_refreshSides_1__8 b)) (fun b => f14 12 b (nr_X11_refreshSides_1__12 b)) (fun b => f14 14 b (nr_X11_refreshSides_1__14 b)) (fun b => f14 16 b (nr_X11_refreshSides_1__16 b)) (fun b => f14 18 b (nr_X11_refreshSides_1__18 b)) (fun b => f14 193 b (nr_X11_refreshSides_1__193 b)) (fun b => f14 195 b (nr_X11_refreshSides_1__195 b)) (fun b => f14 197 b (nr_X11_refreshSides_1__197 b)) (fun b => f14 199 b (nr_X11_refreshSides_1__199 b)) (fun b => f14 201 b (nr_X11_refreshSides_1__201 b)) (fun b => f14 203 b (nr_X11_refreshSides_1__203 b)) (fun b => f14 205 b (nr_X11_refreshSides_1__205 b)) (fun b => f14 207 b (nr_X11_refreshSides_1__207 b)) (fun b => f14 209 b (nr_X11_refreshSides_1__209 b)) (fun b => f14 211 b (nr_X11_refreshSides_1__211 b)) (fun b => f14 213 b (nr_X11_refreshSides_1__213 b)) (fun b => f14 215 b (nr_X11_refreshSides_1__215 b)) (fun b => f14 217 b (nr_X11_refreshSides_1__217 b)) (fun b => f14 219 b (nr_X11_refreshSides_1__219 b))
  have r22 := y_B0.fr o9.1 (f14 211 0 (by decide)) (f14 213 0 (by decide))
  refine T_if1 (by decide +kernel) ?_
  refine T_let 296 (by decide +kernel) ?_
  refine T_if1 (by decide +kernel) ?_
  refine T_useI (sf_X8_pageCount_296 hfu s12 c13 a1 (by omega)) (fun v28 s23 hq => ?_)
  obtain ⟨c24, f25, ⟨x27, rfl, b29, b30⟩⟩ := hq
  refine T_vI ?_
  have f26 := z_Fr.tr (R := R_X11_pages_1) f15 f25 (fun a b h => absurd h not_false)
  have r31 := y_U2.fr r21 (f25 191 16 (by decide)) (f25 6 6 (by decide)) (f25 191 17 (by decide)) (f25 191 18 (by decide)) (fun b => f25 3 b (nr_X8_pageCount_296__3 b)) (fun b => f25 8 b (nr_X8_pageCount_296__8 b)) (fun b => f25 12 b (nr_X8_pageCount_296__12 b)) (fun b => f25 14 b (nr_X8_pageCount_296__14 b)) (fun b => f25 16 b (nr_X8_pageCount_296__16 b)) (fun b => f25 18 b (nr_X8_pageCount_296__18 b)) (fun b => f25 193 b (nr_X8_pageCount_296__193 b)) (fun b => f25 195 b (nr_X8_pageCount_296__195 b)) (fun b => f25 197 b (nr_X8_pageCount_296__197 b)) (fun b => f25 199 b (nr_X8_pageCount_296__199 b)) (fun b => f25 201 b (nr_X8_pageCount_296__201 b)) (fun b => f25 203 b (nr_X8_pageCount_296__203 b)) (fun b => f25 205 b (nr_X8_pageCount_296__205 b)) (fun b => f25 207 b (nr_X8_pageCount_296__207 b)) (fun b => f25 209 b (nr_X8_pageCount_296__209 b)) (fun b => f25 211 b (nr_X8_pageCount_296__211 b)) (fun b => f25 213 b (nr_X8_pageCount_296__213 b)) (fun b => f25 215 b (nr_X8_pageCount_296__215 b)) (fun b => f25 217 b (nr_X8_pageCount_296__217 b)) (fun b => f25 219 b (nr_X8_pageCount_296__219 b))
  have r32 := y_B0.fr o18.1 (f25 211 0 (by decide)) (f25 213 0 (by decide))
  have r33 := y_V2.fr o18 (f25 1 16 (by decide)) (f25 191 16 (by decide)) (f25 6 6 (by decide)) (f25 191 17 (by decide)) (f25 191 18 (by decide)) (fun b => f25 3 b (nr_X8_pageCount_296__3 b)) (fun b => f25 8 b (nr_X8_pageCount_296__8 b)) (fun b => f25 12 b (nr_X8_pageCount_296__12 b)) (fun b => f25 14 b (nr_X8_pageCount_296__14 b)) (fun b => f25 16 b (nr_X8_pageCount_296__16 b)) (fun b => f25 18 b (nr_X8_pageCount_296__18 b)) (fun b => f25 193 b (nr_X8_pageCount_296__193 b)) (fun b => f25 195 b (nr_X8_pageCount_296__195 b)) (fun b => f25 197 b (nr_X8_pageCount_296__197 b)) (fun b => f25 199 b (nr_X8_pageCount_296__199 b)) (fun b => f25 201 b (nr_X8_pageCount_296__201 b)) (fun b => f25 203 b (nr_X8_pageCount_296__203 b)) (fun b => f25 205 b (nr_X8_pageCount_296__205 b)) (fun b => f25 207 b (nr_X8_pageCount_296__207 b)) (fun b => f25 209 b (nr_X8_pageCount_296__209 b)) (fun b => f25 211 b (nr_X8_pageCount_296__211 b)) (fun b => f25 213 b (nr_X8_pageCount_296__213 b)) (fun b => f25 215 b (nr_X8_pageCount_296__215 b)) (fun b => f25 217 b (nr_X8_pageCount_296__217 b)) (fun b => f25 219 b (nr_X8_pageCount_296__219 b))
  exact T_ret ⟨c24, f26, r33, Or.inl (⟨x27, rfl, by omega, by omega⟩)⟩
